set_option maxRecDepth 100000 in
theorem k871 : (Cond.methodLink "PageSkeletonLaw" (155 : Nat) ({ cls := "PageSkeletonLaw", name := "token", desc := "(LPageSkeleton;II[J)I" } : MethodName)) ∈ wsG := wsG_a4 151 rfl rfl
set_option maxRecDepth 100000 in
theorem k872 : (Cond.static ({ cls := "PageSkeletonLaw", name := "token", desc := "(LPageSkeleton;II[J)I" } : MethodName)) ∈ wsG := wsG_a4 152 rfl rfl
set_option maxRecDepth 100000 in
theorem k873 : (Cond.codeWith ({ cls := "PageSkeletonLaw", name := "token", desc := "(LPageSkeleton;II[J)I" } : MethodName) method_8_code (5 : Nat) (Option.some FieldType.int) [((0 : Nat), (10 : Nat), (13 : Nat), (20 : Nat))]) ∈ wsG := wsG_a4 153 rfl rfl
set_option maxRecDepth 100000 in
theorem k882 : (Cond.methodLink "PageSkeletonLaw" (158 : Nat) ({ cls := "PageSkeletonLaw", name := "tokenOf", desc := "(LPageSkeleton;II[J)I" } : MethodName)) ∈ wsG := wsG_a4 162 rfl rfl
set_option maxRecDepth 100000 in
theorem k883 : (Cond.static ({ cls := "PageSkeletonLaw", name := "tokenOf", desc := "(LPageSkeleton;II[J)I" } : MethodName)) ∈ wsG := wsG_a4 163 rfl rfl
set_option maxRecDepth 100000 in
theorem k884 : (Cond.codeWith ({ cls := "PageSkeletonLaw", name := "tokenOf", desc := "(LPageSkeleton;II[J)I" } : MethodName) method_9_code (5 : Nat) (Option.some FieldType.int) [((0 : Nat), (10 : Nat), (13 : Nat), (20 : Nat)), ((0 : Nat), (10 : Nat), (17 : Nat), (13 : Nat))]) ∈ wsG := wsG_a4 164 rfl rfl
set_option maxRecDepth 100000 in
theorem k907 : (Cond.methodLink "PageSkeletonLaw" (161 : Nat) ({ cls := "PageSkeletonLaw", name := "node", desc := "(LPageSkeleton;II[J)I" } : MethodName)) ∈ wsG := wsG_a4 187 rfl rfl
set_option maxRecDepth 100000 in
theorem k908 : (Cond.static ({ cls := "PageSkeletonLaw", name := "node", desc := "(LPageSkeleton;II[J)I" } : MethodName)) ∈ wsG := wsG_a4 188 rfl rfl
set_option maxRecDepth 100000 in
theorem k909 : (Cond.codeWith ({ cls := "PageSkeletonLaw", name := "node", desc := "(LPageSkeleton;II[J)I" } : MethodName) method_10_code (5 : Nat) (Option.some FieldType.int) [((0 : Nat), (10 : Nat), (13 : Nat), (20 : Nat)), ((0 : Nat), (10 : Nat), (17 : Nat), (13 : Nat))]) ∈ wsG := wsG_a4 189 rfl rfl
set_option maxRecDepth 100000 in
theorem k941 : (Cond.methodLink "PageSkeletonLaw" (164 : Nat) ({ cls := "PageSkeletonLaw", name := "pageNode", desc := "(LPageSkeleton;III[J)I" } : MethodName)) ∈ wsG := wsG_a4 221 rfl rfl
set_option maxRecDepth 100000 in
theorem k942 : (Cond.static ({ cls := "PageSkeletonLaw", name := "pageNode", desc := "(LPageSkeleton;III[J)I" } : MethodName)) ∈ wsG := wsG_a4 222 rfl rfl
set_option maxRecDepth 100000 in
theorem k943 : (Cond.codeWith ({ cls := "PageSkeletonLaw", name := "pageNode", desc := "(LPageSkeleton;III[J)I" } : MethodName) method_11_code (6 : Nat) (Option.some FieldType.int) [((0 : Nat), (12 : Nat), (15 : Nat), (20 : Nat)), ((0 : Nat), (12 : Nat), (19 : Nat), (13 : Nat))]) ∈ wsG := wsG_a4 223 rfl rfl
set_option maxRecDepth 100000 in
theorem k948 : (Cond.methodLink "PageSkeletonLaw" (168 : Nat) ({ cls := "PageSkeletonLaw", name := "fits", desc := "(LPageSkeleton;I[J)I" } : MethodName)) ∈ wsG := wsG_a4 228 rfl rfl
set_option maxRecDepth 100000 in
theorem k949 : (Cond.static ({ cls := "PageSkeletonLaw", name := "fits", desc := "(LPageSkeleton;I[J)I" } : MethodName)) ∈ wsG := wsG_a4 229 rfl rfl
set_option maxRecDepth 100000 in
theorem k950 : (Cond.codeWith ({ cls := "PageSkeletonLaw", name := "fits", desc := "(LPageSkeleton;I[J)I" } : MethodName) method_12_code (4 : Nat) (Option.some FieldType.int) [((0 : Nat), (16 : Nat), (19 : Nat), (20 : Nat))]) ∈ wsG := wsG_a4 230 rfl rfl
set_option maxRecDepth 100000 in
theorem k955 : (Cond.methodLink "PageSkeletonLaw" (171 : Nat) ({ cls := "PageSkeletonLaw", name := "reach", desc := "(LPageSkeleton;I[J)I" } : MethodName)) ∈ wsG := wsG_a4 235 rfl rfl
set_option maxRecDepth 100000 in
theorem k956 : (Cond.static ({ cls := "PageSkeletonLaw", name := "reach", desc := "(LPageSkeleton;I[J)I" } : MethodName)) ∈ wsG := wsG_a4 236 rfl rfl
set_option maxRecDepth 100000 in
theorem k957 : (Cond.codeWith ({ cls := "PageSkeletonLaw", name := "reach", desc := "(LPageSkeleton;I[J)I" } : MethodName) method_13_code (4 : Nat) (Option.some FieldType.int) [((0 : Nat), (9 : Nat), (12 : Nat), (20 : Nat))]) ∈ wsG := wsG_a4 237 rfl rfl
set_option maxRecDepth 100000 in
theorem k962 : (Cond.methodLink "PageSkeletonLaw" (174 : Nat) ({ cls := "PageSkeletonLaw", name := "ways", desc := "(LPageSkeleton;I[J)I" } : MethodName)) ∈ wsG := wsG_a5 2 rfl rfl
set_option maxRecDepth 100000 in
theorem k963 : (Cond.static ({ cls := "PageSkeletonLaw", name := "ways", desc := "(LPageSkeleton;I[J)I" } : MethodName)) ∈ wsG := wsG_a5 3 rfl rfl
set_option maxRecDepth 100000 in
theorem k964 : (Cond.codeWith ({ cls := "PageSkeletonLaw", name := "ways", desc := "(LPageSkeleton;I[J)I" } : MethodName) method_14_code (4 : Nat) (Option.some FieldType.int) [((0 : Nat), (9 : Nat), (12 : Nat), (20 : Nat))]) ∈ wsG := wsG_a5 4 rfl rfl
set_option maxRecDepth 100000 in
theorem k969 : (Cond.methodLink "PageSkeletonLaw" (177 : Nat) ({ cls := "PageSkeletonLaw", name := "times", desc := "(LPageSkeleton;II[J)I" } : MethodName)) ∈ wsG := wsG_a5 9 rfl rfl
set_option maxRecDepth 100000 in
theorem k970 : (Cond.static ({ cls := "PageSkeletonLaw", name := "times", desc := "(LPageSkeleton;II[J)I" } : MethodName)) ∈ wsG := wsG_a5 10 rfl rfl
set_option maxRecDepth 100000 in
theorem k971 : (Cond.codeWith ({ cls := "PageSkeletonLaw", name := "times", desc := "(LPageSkeleton;II[J)I" } : MethodName) method_15_code (5 : Nat) (Option.some FieldType.int) [((0 : Nat), (10 : Nat), (13 : Nat), (20 : Nat))]) ∈ wsG := wsG_a5 11 rfl rfl
set_option maxRecDepth 100000 in
theorem k976 : (Cond.methodLink "PageSkeletonLaw" (180 : Nat) ({ cls := "PageSkeletonLaw", name := "passes", desc := "(LPageSkeleton;II[J)I" } : MethodName)) ∈ wsG := wsG_a5 16 rfl rfl
set_option maxRecDepth 100000 in
theorem k977 : (Cond.static ({ cls := "PageSkeletonLaw", name := "passes", desc := "(LPageSkeleton;II[J)I" } : MethodName)) ∈ wsG := wsG_a5 17 rfl rfl
set_option maxRecDepth 100000 in
theorem k978 : (Cond.codeWith ({ cls := "PageSkeletonLaw", name := "passes", desc := "(LPageSkeleton;II[J)I" } : MethodName) method_16_code (5 : Nat) (Option.some FieldType.int) [((0 : Nat), (10 : Nat), (13 : Nat), (20 : Nat))]) ∈ wsG := wsG_a5 18 rfl rfl
set_option maxRecDepth 100000 in
theorem k987 : (Cond.methodLink "PageSkeletonLaw" (183 : Nat) ({ cls := "PageSkeletonLaw", name := "value", desc := "(LPageSkeleton;III[J)I" } : MethodName)) ∈ wsG := wsG_a5 27 rfl rfl
set_option maxRecDepth 100000 in
theorem k988 : (Cond.static ({ cls := "PageSkeletonLaw", name := "value", desc := "(LPageSkeleton;III[J)I" } : MethodName)) ∈ wsG := wsG_a5 28 rfl rfl
set_option maxRecDepth 100000 in
theorem k989 : (Cond.codeWith ({ cls := "PageSkeletonLaw", name := "value", desc := "(LPageSkeleton;III[J)I" } : MethodName) method_17_code (6 : Nat) (Option.some FieldType.int) [((0 : Nat), (12 : Nat), (15 : Nat), (20 : Nat))]) ∈ wsG := wsG_a5 29 rfl rfl
set_option maxRecDepth 100000 in
theorem k1603 : (Cond.methodLink "PageSkeletonLaw" (157 : Nat) ({ cls := "PageSkeletonModel", name := "token", desc := "(II)I" } : MethodName)) ∈ wsG := wsG_a7 163 rfl rfl
set_option maxRecDepth 100000 in
theorem k1604 : (Cond.instanceMethod ({ cls := "PageSkeletonModel", name := "token", desc := "(II)I" } : MethodName)) ∈ wsG := wsG_a7 164 rfl rfl
set_option maxRecDepth 100000 in
theorem k1605 : (Cond.selects "PageSkeletonModel" ({ cls := "PageSkeletonModel", name := "token", desc := "(II)I" } : MethodName) ({ cls := "PageSkeletonModel", name := "token", desc := "(II)I" } : MethodName)) ∈ wsG := wsG_a7 165 rfl rfl
set_option maxRecDepth 100000 in
theorem k1606 : (Cond.code ({ cls := "PageSkeletonModel", name := "token", desc := "(II)I" } : MethodName) prog_12_method_65_code (4 : Nat) (Option.some FieldType.int)) ∈ wsG := wsG_a7 166 rfl rfl
set_option maxRecDepth 100000 in
theorem k1607 : (Cond.methodLink "PageSkeletonLaw" (160 : Nat) ({ cls := "PageSkeletonModel", name := "tokenOf", desc := "(II)I" } : MethodName)) ∈ wsG := wsG_a7 167 rfl rfl
set_option maxRecDepth 100000 in
theorem k1608 : (Cond.instanceMethod ({ cls := "PageSkeletonModel", name := "tokenOf", desc := "(II)I" } : MethodName)) ∈ wsG := wsG_a7 168 rfl rfl
set_option maxRecDepth 100000 in
theorem k1609 : (Cond.selects "PageSkeletonModel" ({ cls := "PageSkeletonModel", name := "tokenOf", desc := "(II)I" } : MethodName) ({ cls := "PageSkeletonModel", name := "tokenOf", desc := "(II)I" } : MethodName)) ∈ wsG := wsG_a7 169 rfl rfl
set_option maxRecDepth 100000 in
theorem k1610 : (Cond.code ({ cls := "PageSkeletonModel", name := "tokenOf", desc := "(II)I" } : MethodName) prog_12_method_68_code (3 : Nat) (Option.some FieldType.int)) ∈ wsG := wsG_a7 170 rfl rfl
set_option maxRecDepth 100000 in
theorem k1619 : (Cond.methodLink "PageSkeletonLaw" (163 : Nat) ({ cls := "PageSkeletonModel", name := "node", desc := "(II)I" } : MethodName)) ∈ wsG := wsG_a7 179 rfl rfl
set_option maxRecDepth 100000 in
theorem k1620 : (Cond.instanceMethod ({ cls := "PageSkeletonModel", name := "node", desc := "(II)I" } : MethodName)) ∈ wsG := wsG_a7 180 rfl rfl
set_option maxRecDepth 100000 in
theorem k1621 : (Cond.selects "PageSkeletonModel" ({ cls := "PageSkeletonModel", name := "node", desc := "(II)I" } : MethodName) ({ cls := "PageSkeletonModel", name := "node", desc := "(II)I" } : MethodName)) ∈ wsG := wsG_a7 181 rfl rfl
set_option maxRecDepth 100000 in
theorem k1622 : (Cond.code ({ cls := "PageSkeletonModel", name := "node", desc := "(II)I" } : MethodName) prog_12_method_71_code (3 : Nat) (Option.some FieldType.int)) ∈ wsG := wsG_a7 182 rfl rfl
set_option maxRecDepth 100000 in
theorem k1635 : (Cond.methodLink "PageSkeletonLaw" (167 : Nat) ({ cls := "PageSkeletonModel", name := "pageNode", desc := "(III)I" } : MethodName)) ∈ wsG := wsG_a7 195 rfl rfl
set_option maxRecDepth 100000 in
theorem k1636 : (Cond.instanceMethod ({ cls := "PageSkeletonModel", name := "pageNode", desc := "(III)I" } : MethodName)) ∈ wsG := wsG_a7 196 rfl rfl
set_option maxRecDepth 100000 in
theorem k1637 : (Cond.selects "PageSkeletonModel" ({ cls := "PageSkeletonModel", name := "pageNode", desc := "(III)I" } : MethodName) ({ cls := "PageSkeletonModel", name := "pageNode", desc := "(III)I" } : MethodName)) ∈ wsG := wsG_a7 197 rfl rfl
set_option maxRecDepth 100000 in
theorem k1638 : (Cond.code ({ cls := "PageSkeletonModel", name := "pageNode", desc := "(III)I" } : MethodName) prog_12_method_72_code (5 : Nat) (Option.some FieldType.int)) ∈ wsG := wsG_a7 198 rfl rfl
set_option maxRecDepth 100000 in
theorem k1639 : (Cond.methodLink "PageSkeletonLaw" (176 : Nat) ({ cls := "PageSkeletonModel", name := "ways", desc := "(I)I" } : MethodName)) ∈ wsG := wsG_a7 199 rfl rfl
set_option maxRecDepth 100000 in
theorem k1640 : (Cond.instanceMethod ({ cls := "PageSkeletonModel", name := "ways", desc := "(I)I" } : MethodName)) ∈ wsG := wsG_a7 200 rfl rfl
set_option maxRecDepth 100000 in
theorem k1641 : (Cond.selects "PageSkeletonModel" ({ cls := "PageSkeletonModel", name := "ways", desc := "(I)I" } : MethodName) ({ cls := "PageSkeletonModel", name := "ways", desc := "(I)I" } : MethodName)) ∈ wsG := wsG_a7 201 rfl rfl
set_option maxRecDepth 100000 in
theorem k1642 : (Cond.code ({ cls := "PageSkeletonModel", name := "ways", desc := "(I)I" } : MethodName) prog_12_method_80_code (2 : Nat) (Option.some FieldType.int)) ∈ wsG := wsG_a7 202 rfl rfl
set_option maxRecDepth 100000 in
theorem k1643 : (Cond.methodLink "PageSkeletonLaw" (170 : Nat) ({ cls := "PageSkeletonModel", name := "fits", desc := "(I)Z" } : MethodName)) ∈ wsG := wsG_a7 203 rfl rfl
set_option maxRecDepth 100000 in
theorem k1644 : (Cond.instanceMethod ({ cls := "PageSkeletonModel", name := "fits", desc := "(I)Z" } : MethodName)) ∈ wsG := wsG_a7 204 rfl rfl
set_option maxRecDepth 100000 in
theorem k1645 : (Cond.selects "PageSkeletonModel" ({ cls := "PageSkeletonModel", name := "fits", desc := "(I)Z" } : MethodName) ({ cls := "PageSkeletonModel", name := "fits", desc := "(I)Z" } : MethodName)) ∈ wsG := wsG_a7 205 rfl rfl
set_option maxRecDepth 100000 in
theorem k1646 : (Cond.code ({ cls := "PageSkeletonModel", name := "fits", desc := "(I)Z" } : MethodName) prog_12_method_82_code (2 : Nat) (Option.some FieldType.boolean)) ∈ wsG := wsG_a7 206 rfl rfl
set_option maxRecDepth 100000 in
theorem k1651 : (Cond.methodLink "PageSkeletonLaw" (173 : Nat) ({ cls := "PageSkeletonModel", name := "reach", desc := "(I)I" } : MethodName)) ∈ wsG := wsG_a7 211 rfl rfl
set_option maxRecDepth 100000 in
theorem k1652 : (Cond.instanceMethod ({ cls := "PageSkeletonModel", name := "reach", desc := "(I)I" } : MethodName)) ∈ wsG := wsG_a7 212 rfl rfl
set_option maxRecDepth 100000 in
theorem k1653 : (Cond.selects "PageSkeletonModel" ({ cls := "PageSkeletonModel", name := "reach", desc := "(I)I" } : MethodName) ({ cls := "PageSkeletonModel", name := "reach", desc := "(I)I" } : MethodName)) ∈ wsG := wsG_a7 213 rfl rfl
set_option maxRecDepth 100000 in
theorem k1654 : (Cond.code ({ cls := "PageSkeletonModel", name := "reach", desc := "(I)I" } : MethodName) prog_12_method_86_code (5 : Nat) (Option.some FieldType.int)) ∈ wsG := wsG_a7 214 rfl rfl
set_option maxRecDepth 100000 in
theorem k1663 : (Cond.methodLink "PageSkeletonLaw" (179 : Nat) ({ cls := "PageSkeletonModel", name := "times", desc := "(II)I" } : MethodName)) ∈ wsG := wsG_a7 223 rfl rfl
set_option maxRecDepth 100000 in
theorem k1664 : (Cond.instanceMethod ({ cls := "PageSkeletonModel", name := "times", desc := "(II)I" } : MethodName)) ∈ wsG := wsG_a7 224 rfl rfl
set_option maxRecDepth 100000 in
theorem k1665 : (Cond.selects "PageSkeletonModel" ({ cls := "PageSkeletonModel", name := "times", desc := "(II)I" } : MethodName) ({ cls := "PageSkeletonModel", name := "times", desc := "(II)I" } : MethodName)) ∈ wsG := wsG_a7 225 rfl rfl
set_option maxRecDepth 100000 in
theorem k1666 : (Cond.code ({ cls := "PageSkeletonModel", name := "times", desc := "(II)I" } : MethodName) prog_12_method_88_code (3 : Nat) (Option.some FieldType.int)) ∈ wsG := wsG_a7 226 rfl rfl
set_option maxRecDepth 100000 in
theorem k1671 : (Cond.methodLink "PageSkeletonLaw" (182 : Nat) ({ cls := "PageSkeletonModel", name := "passes", desc := "(II)I" } : MethodName)) ∈ wsG := wsG_a7 231 rfl rfl
set_option maxRecDepth 100000 in
theorem k1672 : (Cond.instanceMethod ({ cls := "PageSkeletonModel", name := "passes", desc := "(II)I" } : MethodName)) ∈ wsG := wsG_a7 232 rfl rfl
set_option maxRecDepth 100000 in
theorem k1673 : (Cond.selects "PageSkeletonModel" ({ cls := "PageSkeletonModel", name := "passes", desc := "(II)I" } : MethodName) ({ cls := "PageSkeletonModel", name := "passes", desc := "(II)I" } : MethodName)) ∈ wsG := wsG_a7 233 rfl rfl
set_option maxRecDepth 100000 in
theorem k1674 : (Cond.code ({ cls := "PageSkeletonModel", name := "passes", desc := "(II)I" } : MethodName) prog_12_method_89_code (3 : Nat) (Option.some FieldType.int)) ∈ wsG := wsG_a7 234 rfl rfl
set_option maxRecDepth 100000 in
theorem k1675 : (Cond.methodLink "PageSkeletonLaw" (185 : Nat) ({ cls := "PageSkeletonModel", name := "value", desc := "(III)I" } : MethodName)) ∈ wsG := wsG_a7 235 rfl rfl
set_option maxRecDepth 100000 in
theorem k1676 : (Cond.instanceMethod ({ cls := "PageSkeletonModel", name := "value", desc := "(III)I" } : MethodName)) ∈ wsG := wsG_a7 236 rfl rfl
set_option maxRecDepth 100000 in
theorem k1677 : (Cond.selects "PageSkeletonModel" ({ cls := "PageSkeletonModel", name := "value", desc := "(III)I" } : MethodName) ({ cls := "PageSkeletonModel", name := "value", desc := "(III)I" } : MethodName)) ∈ wsG := wsG_a7 237 rfl rfl
set_option maxRecDepth 100000 in
theorem k1678 : (Cond.code ({ cls := "PageSkeletonModel", name := "value", desc := "(III)I" } : MethodName) prog_12_method_90_code (6 : Nat) (Option.some FieldType.int)) ∈ wsG := wsG_a7 238 rfl rfl
theorem dL_law_485 : decode cL_law 485 = .ok (.aload_n 1, 1) := by decide +kernel
theorem dL_law_486 : decode cL_law 486 = .ok (.aload_n 0, 1) := by decide +kernel
theorem dL_law_487 : decode cL_law 487 = .ok (.iload 4, 2) := by decide +kernel
theorem dL_law_489 : decode cL_law 489 = .ok (.iconst 1, 1) := by decide +kernel
theorem dL_law_490 : decode cL_law 490 = .ok (.iadd, 1) := by decide +kernel
theorem dL_law_491 : decode cL_law 491 = .ok (.iaload, 1) := by decide +kernel
theorem dL_law_492 : decode cL_law 492 = .ok (.aload_n 0, 1) := by decide +kernel
theorem dL_law_493 : decode cL_law 493 = .ok (.iload 4, 2) := by decide +kernel
theorem dL_law_495 : decode cL_law 495 = .ok (.iconst 2, 1) := by decide +kernel
theorem dL_law_496 : decode cL_law 496 = .ok (.iadd, 1) := by decide +kernel
theorem dL_law_497 : decode cL_law 497 = .ok (.iaload, 1) := by decide +kernel
theorem dL_law_498 : decode cL_law 498 = .ok (.aload_n 3, 1) := by decide +kernel
theorem dL_law_499 : decode cL_law 499 = .ok (.invokestatic 155, 3) := by decide +kernel
theorem dL_law_502 : decode cL_law 502 = .ok (.istore 5, 2) := by decide +kernel
theorem dL_law_504 : decode cL_law 504 = .ok (.aload_n 2, 1) := by decide +kernel
theorem dL_law_505 : decode cL_law 505 = .ok (.aload_n 0, 1) := by decide +kernel
theorem dL_law_506 : decode cL_law 506 = .ok (.iload 4, 2) := by decide +kernel
theorem dL_law_508 : decode cL_law 508 = .ok (.iconst 1, 1) := by decide +kernel
theorem dL_law_509 : decode cL_law 509 = .ok (.iadd, 1) := by decide +kernel
theorem dL_law_510 : decode cL_law 510 = .ok (.iaload, 1) := by decide +kernel
theorem dL_law_511 : decode cL_law 511 = .ok (.aload_n 0, 1) := by decide +kernel
theorem dL_law_512 : decode cL_law 512 = .ok (.iload 4, 2) := by decide +kernel
theorem dL_law_514 : decode cL_law 514 = .ok (.iconst 2, 1) := by decide +kernel
theorem dL_law_515 : decode cL_law 515 = .ok (.iadd, 1) := by decide +kernel
theorem dL_law_516 : decode cL_law 516 = .ok (.iaload, 1) := by decide +kernel
theorem dL_law_517 : decode cL_law 517 = .ok (.invokevirtual 157, 3) := by decide +kernel
theorem dL_law_520 : decode cL_law 520 = .ok (.istore 6, 2) := by decide +kernel
theorem dL_law_522 : decode cL_law 522 = .ok (.goto 946, 3) := by decide +kernel
theorem dL_law_525 : decode cL_law 525 = .ok (.aload_n 1, 1) := by decide +kernel
theorem dL_law_526 : decode cL_law 526 = .ok (.aload_n 0, 1) := by decide +kernel
theorem dL_law_527 : decode cL_law 527 = .ok (.iload 4, 2) := by decide +kernel
theorem dL_law_529 : decode cL_law 529 = .ok (.iconst 1, 1) := by decide +kernel
theorem dL_law_530 : decode cL_law 530 = .ok (.iadd, 1) := by decide +kernel
theorem dL_law_531 : decode cL_law 531 = .ok (.iaload, 1) := by decide +kernel
theorem dL_law_532 : decode cL_law 532 = .ok (.aload_n 0, 1) := by decide +kernel
theorem dL_law_533 : decode cL_law 533 = .ok (.iload 4, 2) := by decide +kernel
theorem dL_law_535 : decode cL_law 535 = .ok (.iconst 2, 1) := by decide +kernel
theorem dL_law_536 : decode cL_law 536 = .ok (.iadd, 1) := by decide +kernel
theorem dL_law_537 : decode cL_law 537 = .ok (.iaload, 1) := by decide +kernel
theorem dL_law_538 : decode cL_law 538 = .ok (.aload_n 3, 1) := by decide +kernel
theorem dL_law_539 : decode cL_law 539 = .ok (.invokestatic 158, 3) := by decide +kernel
theorem dL_law_542 : decode cL_law 542 = .ok (.istore 5, 2) := by decide +kernel
theorem dL_law_544 : decode cL_law 544 = .ok (.aload_n 2, 1) := by decide +kernel
theorem dL_law_545 : decode cL_law 545 = .ok (.aload_n 0, 1) := by decide +kernel
theorem dL_law_546 : decode cL_law 546 = .ok (.iload 4, 2) := by decide +kernel
theorem dL_law_548 : decode cL_law 548 = .ok (.iconst 1, 1) := by decide +kernel
theorem dL_law_549 : decode cL_law 549 = .ok (.iadd, 1) := by decide +kernel
theorem dL_law_550 : decode cL_law 550 = .ok (.iaload, 1) := by decide +kernel
theorem dL_law_551 : decode cL_law 551 = .ok (.aload_n 0, 1) := by decide +kernel
theorem dL_law_552 : decode cL_law 552 = .ok (.iload 4, 2) := by decide +kernel
theorem dL_law_554 : decode cL_law 554 = .ok (.iconst 2, 1) := by decide +kernel
theorem dL_law_555 : decode cL_law 555 = .ok (.iadd, 1) := by decide +kernel
theorem dL_law_556 : decode cL_law 556 = .ok (.iaload, 1) := by decide +kernel
theorem dL_law_557 : decode cL_law 557 = .ok (.invokevirtual 160, 3) := by decide +kernel
theorem dL_law_560 : decode cL_law 560 = .ok (.istore 6, 2) := by decide +kernel
theorem dL_law_562 : decode cL_law 562 = .ok (.goto 906, 3) := by decide +kernel
theorem dL_law_565 : decode cL_law 565 = .ok (.aload_n 1, 1) := by decide +kernel
theorem dL_law_566 : decode cL_law 566 = .ok (.aload_n 0, 1) := by decide +kernel
theorem dL_law_567 : decode cL_law 567 = .ok (.iload 4, 2) := by decide +kernel
theorem dL_law_569 : decode cL_law 569 = .ok (.iconst 1, 1) := by decide +kernel
theorem dL_law_570 : decode cL_law 570 = .ok (.iadd, 1) := by decide +kernel
theorem dL_law_571 : decode cL_law 571 = .ok (.iaload, 1) := by decide +kernel
theorem dL_law_572 : decode cL_law 572 = .ok (.aload_n 0, 1) := by decide +kernel
theorem dL_law_573 : decode cL_law 573 = .ok (.iload 4, 2) := by decide +kernel
theorem dL_law_575 : decode cL_law 575 = .ok (.iconst 2, 1) := by decide +kernel
theorem dL_law_576 : decode cL_law 576 = .ok (.iadd, 1) := by decide +kernel
theorem dL_law_577 : decode cL_law 577 = .ok (.iaload, 1) := by decide +kernel
theorem dL_law_578 : decode cL_law 578 = .ok (.aload_n 3, 1) := by decide +kernel
theorem dL_law_579 : decode cL_law 579 = .ok (.invokestatic 161, 3) := by decide +kernel
theorem dL_law_582 : decode cL_law 582 = .ok (.istore 5, 2) := by decide +kernel
theorem dL_law_584 : decode cL_law 584 = .ok (.aload_n 2, 1) := by decide +kernel
theorem dL_law_585 : decode cL_law 585 = .ok (.aload_n 0, 1) := by decide +kernel
theorem dL_law_586 : decode cL_law 586 = .ok (.iload 4, 2) := by decide +kernel
theorem dL_law_588 : decode cL_law 588 = .ok (.iconst 1, 1) := by decide +kernel
theorem dL_law_589 : decode cL_law 589 = .ok (.iadd, 1) := by decide +kernel
theorem dL_law_590 : decode cL_law 590 = .ok (.iaload, 1) := by decide +kernel
theorem dL_law_591 : decode cL_law 591 = .ok (.aload_n 0, 1) := by decide +kernel
theorem dL_law_592 : decode cL_law 592 = .ok (.iload 4, 2) := by decide +kernel
theorem dL_law_594 : decode cL_law 594 = .ok (.iconst 2, 1) := by decide +kernel
theorem dL_law_595 : decode cL_law 595 = .ok (.iadd, 1) := by decide +kernel
theorem dL_law_596 : decode cL_law 596 = .ok (.iaload, 1) := by decide +kernel
theorem dL_law_597 : decode cL_law 597 = .ok (.invokevirtual 163, 3) := by decide +kernel
theorem dL_law_600 : decode cL_law 600 = .ok (.istore 6, 2) := by decide +kernel
theorem dL_law_602 : decode cL_law 602 = .ok (.goto 866, 3) := by decide +kernel
theorem dL_law_605 : decode cL_law 605 = .ok (.aload_n 1, 1) := by decide +kernel
theorem dL_law_606 : decode cL_law 606 = .ok (.aload_n 0, 1) := by decide +kernel
theorem dL_law_607 : decode cL_law 607 = .ok (.iload 4, 2) := by decide +kernel
theorem dL_law_609 : decode cL_law 609 = .ok (.iconst 1, 1) := by decide +kernel
theorem dL_law_610 : decode cL_law 610 = .ok (.iadd, 1) := by decide +kernel
theorem dL_law_611 : decode cL_law 611 = .ok (.iaload, 1) := by decide +kernel
theorem dL_law_612 : decode cL_law 612 = .ok (.aload_n 0, 1) := by decide +kernel
theorem dL_law_613 : decode cL_law 613 = .ok (.iload 4, 2) := by decide +kernel
theorem dL_law_615 : decode cL_law 615 = .ok (.iconst 2, 1) := by decide +kernel
theorem dL_law_616 : decode cL_law 616 = .ok (.iadd, 1) := by decide +kernel
theorem dL_law_617 : decode cL_law 617 = .ok (.iaload, 1) := by decide +kernel
theorem dL_law_618 : decode cL_law 618 = .ok (.aload_n 0, 1) := by decide +kernel
theorem dL_law_619 : decode cL_law 619 = .ok (.iload 4, 2) := by decide +kernel
theorem dL_law_621 : decode cL_law 621 = .ok (.iconst 3, 1) := by decide +kernel
theorem dL_law_622 : decode cL_law 622 = .ok (.iadd, 1) := by decide +kernel
theorem dL_law_623 : decode cL_law 623 = .ok (.iaload, 1) := by decide +kernel
theorem dL_law_624 : decode cL_law 624 = .ok (.aload_n 3, 1) := by decide +kernel
theorem dL_law_625 : decode cL_law 625 = .ok (.invokestatic 164, 3) := by decide +kernel
theorem dL_law_628 : decode cL_law 628 = .ok (.istore 5, 2) := by decide +kernel
theorem dL_law_630 : decode cL_law 630 = .ok (.aload_n 2, 1) := by decide +kernel
theorem dL_law_631 : decode cL_law 631 = .ok (.aload_n 0, 1) := by decide +kernel
theorem dL_law_632 : decode cL_law 632 = .ok (.iload 4, 2) := by decide +kernel
theorem dL_law_634 : decode cL_law 634 = .ok (.iconst 1, 1) := by decide +kernel
theorem dL_law_635 : decode cL_law 635 = .ok (.iadd, 1) := by decide +kernel
theorem dL_law_636 : decode cL_law 636 = .ok (.iaload, 1) := by decide +kernel
theorem dL_law_637 : decode cL_law 637 = .ok (.aload_n 0, 1) := by decide +kernel
theorem dL_law_638 : decode cL_law 638 = .ok (.iload 4, 2) := by decide +kernel
theorem dL_law_640 : decode cL_law 640 = .ok (.iconst 2, 1) := by decide +kernel
theorem dL_law_641 : decode cL_law 641 = .ok (.iadd, 1) := by decide +kernel
theorem dL_law_642 : decode cL_law 642 = .ok (.iaload, 1) := by decide +kernel
theorem dL_law_643 : decode cL_law 643 = .ok (.aload_n 0, 1) := by decide +kernel
theorem dL_law_644 : decode cL_law 644 = .ok (.iload 4, 2) := by decide +kernel
theorem dL_law_646 : decode cL_law 646 = .ok (.iconst 3, 1) := by decide +kernel
theorem dL_law_647 : decode cL_law 647 = .ok (.iadd, 1) := by decide +kernel
theorem dL_law_648 : decode cL_law 648 = .ok (.iaload, 1) := by decide +kernel
theorem dL_law_649 : decode cL_law 649 = .ok (.invokevirtual 167, 3) := by decide +kernel
theorem dL_law_652 : decode cL_law 652 = .ok (.istore 6, 2) := by decide +kernel
theorem dL_law_654 : decode cL_law 654 = .ok (.goto 814, 3) := by decide +kernel
theorem dL_law_657 : decode cL_law 657 = .ok (.aload_n 1, 1) := by decide +kernel
theorem dL_law_658 : decode cL_law 658 = .ok (.aload_n 0, 1) := by decide +kernel
theorem dL_law_659 : decode cL_law 659 = .ok (.iload 4, 2) := by decide +kernel
theorem dL_law_661 : decode cL_law 661 = .ok (.iconst 1, 1) := by decide +kernel
theorem dL_law_662 : decode cL_law 662 = .ok (.iadd, 1) := by decide +kernel
theorem dL_law_663 : decode cL_law 663 = .ok (.iaload, 1) := by decide +kernel
theorem dL_law_664 : decode cL_law 664 = .ok (.aload_n 3, 1) := by decide +kernel
theorem dL_law_665 : decode cL_law 665 = .ok (.invokestatic 168, 3) := by decide +kernel
theorem dL_law_668 : decode cL_law 668 = .ok (.istore 5, 2) := by decide +kernel
theorem dL_law_670 : decode cL_law 670 = .ok (.aload_n 2, 1) := by decide +kernel
theorem dL_law_671 : decode cL_law 671 = .ok (.aload_n 0, 1) := by decide +kernel
theorem dL_law_672 : decode cL_law 672 = .ok (.iload 4, 2) := by decide +kernel
theorem dL_law_674 : decode cL_law 674 = .ok (.iconst 1, 1) := by decide +kernel
theorem dL_law_675 : decode cL_law 675 = .ok (.iadd, 1) := by decide +kernel
theorem dL_law_676 : decode cL_law 676 = .ok (.iaload, 1) := by decide +kernel
theorem dL_law_677 : decode cL_law 677 = .ok (.invokevirtual 170, 3) := by decide +kernel
theorem dL_law_680 : decode cL_law 680 = .ok (.istore 6, 2) := by decide +kernel
theorem dL_law_682 : decode cL_law 682 = .ok (.goto 786, 3) := by decide +kernel
theorem dL_law_685 : decode cL_law 685 = .ok (.aload_n 1, 1) := by decide +kernel
theorem dL_law_686 : decode cL_law 686 = .ok (.aload_n 0, 1) := by decide +kernel
theorem dL_law_687 : decode cL_law 687 = .ok (.iload 4, 2) := by decide +kernel
theorem dL_law_689 : decode cL_law 689 = .ok (.iconst 1, 1) := by decide +kernel
theorem dL_law_690 : decode cL_law 690 = .ok (.iadd, 1) := by decide +kernel
theorem dL_law_691 : decode cL_law 691 = .ok (.iaload, 1) := by decide +kernel
theorem dL_law_692 : decode cL_law 692 = .ok (.aload_n 3, 1) := by decide +kernel
theorem dL_law_693 : decode cL_law 693 = .ok (.invokestatic 171, 3) := by decide +kernel
theorem dL_law_696 : decode cL_law 696 = .ok (.istore 5, 2) := by decide +kernel
theorem dL_law_698 : decode cL_law 698 = .ok (.aload_n 2, 1) := by decide +kernel
theorem dL_law_699 : decode cL_law 699 = .ok (.aload_n 0, 1) := by decide +kernel
theorem dL_law_700 : decode cL_law 700 = .ok (.iload 4, 2) := by decide +kernel
theorem dL_law_702 : decode cL_law 702 = .ok (.iconst 1, 1) := by decide +kernel
theorem dL_law_703 : decode cL_law 703 = .ok (.iadd, 1) := by decide +kernel
theorem dL_law_704 : decode cL_law 704 = .ok (.iaload, 1) := by decide +kernel
theorem dL_law_705 : decode cL_law 705 = .ok (.invokevirtual 173, 3) := by decide +kernel
theorem dL_law_708 : decode cL_law 708 = .ok (.istore 6, 2) := by decide +kernel
theorem dL_law_710 : decode cL_law 710 = .ok (.goto 758, 3) := by decide +kernel
theorem dL_law_713 : decode cL_law 713 = .ok (.aload_n 1, 1) := by decide +kernel
theorem dL_law_714 : decode cL_law 714 = .ok (.aload_n 0, 1) := by decide +kernel
theorem dL_law_715 : decode cL_law 715 = .ok (.iload 4, 2) := by decide +kernel
theorem dL_law_717 : decode cL_law 717 = .ok (.iconst 1, 1) := by decide +kernel
theorem dL_law_718 : decode cL_law 718 = .ok (.iadd, 1) := by decide +kernel
theorem dL_law_719 : decode cL_law 719 = .ok (.iaload, 1) := by decide +kernel
theorem dL_law_720 : decode cL_law 720 = .ok (.aload_n 3, 1) := by decide +kernel
theorem dL_law_721 : decode cL_law 721 = .ok (.invokestatic 174, 3) := by decide +kernel
theorem dL_law_724 : decode cL_law 724 = .ok (.istore 5, 2) := by decide +kernel
theorem dL_law_726 : decode cL_law 726 = .ok (.aload_n 2, 1) := by decide +kernel
theorem dL_law_727 : decode cL_law 727 = .ok (.aload_n 0, 1) := by decide +kernel
theorem dL_law_728 : decode cL_law 728 = .ok (.iload 4, 2) := by decide +kernel
theorem dL_law_730 : decode cL_law 730 = .ok (.iconst 1, 1) := by decide +kernel
theorem dL_law_731 : decode cL_law 731 = .ok (.iadd, 1) := by decide +kernel
theorem dL_law_732 : decode cL_law 732 = .ok (.iaload, 1) := by decide +kernel
theorem dL_law_733 : decode cL_law 733 = .ok (.invokevirtual 176, 3) := by decide +kernel
theorem dL_law_736 : decode cL_law 736 = .ok (.istore 6, 2) := by decide +kernel
theorem dL_law_738 : decode cL_law 738 = .ok (.goto 730, 3) := by decide +kernel
theorem dL_law_741 : decode cL_law 741 = .ok (.aload_n 1, 1) := by decide +kernel
theorem dL_law_742 : decode cL_law 742 = .ok (.aload_n 0, 1) := by decide +kernel
theorem dL_law_743 : decode cL_law 743 = .ok (.iload 4, 2) := by decide +kernel
theorem dL_law_745 : decode cL_law 745 = .ok (.iconst 1, 1) := by decide +kernel
theorem dL_law_746 : decode cL_law 746 = .ok (.iadd, 1) := by decide +kernel
theorem dL_law_747 : decode cL_law 747 = .ok (.iaload, 1) := by decide +kernel
theorem dL_law_748 : decode cL_law 748 = .ok (.aload_n 0, 1) := by decide +kernel
theorem dL_law_749 : decode cL_law 749 = .ok (.iload 4, 2) := by decide +kernel
theorem dL_law_751 : decode cL_law 751 = .ok (.iconst 2, 1) := by decide +kernel
theorem dL_law_752 : decode cL_law 752 = .ok (.iadd, 1) := by decide +kernel
theorem dL_law_753 : decode cL_law 753 = .ok (.iaload, 1) := by decide +kernel
theorem dL_law_754 : decode cL_law 754 = .ok (.aload_n 3, 1) := by decide +kernel
theorem dL_law_755 : decode cL_law 755 = .ok (.invokestatic 177, 3) := by decide +kernel
theorem dL_law_758 : decode cL_law 758 = .ok (.istore 5, 2) := by decide +kernel
theorem dL_law_760 : decode cL_law 760 = .ok (.aload_n 2, 1) := by decide +kernel
theorem dL_law_761 : decode cL_law 761 = .ok (.aload_n 0, 1) := by decide +kernel
theorem dL_law_762 : decode cL_law 762 = .ok (.iload 4, 2) := by decide +kernel
theorem dL_law_764 : decode cL_law 764 = .ok (.iconst 1, 1) := by decide +kernel
theorem dL_law_765 : decode cL_law 765 = .ok (.iadd, 1) := by decide +kernel
theorem dL_law_766 : decode cL_law 766 = .ok (.iaload, 1) := by decide +kernel
theorem dL_law_767 : decode cL_law 767 = .ok (.aload_n 0, 1) := by decide +kernel
theorem dL_law_768 : decode cL_law 768 = .ok (.iload 4, 2) := by decide +kernel
theorem dL_law_770 : decode cL_law 770 = .ok (.iconst 2, 1) := by decide +kernel
theorem dL_law_771 : decode cL_law 771 = .ok (.iadd, 1) := by decide +kernel
theorem dL_law_772 : decode cL_law 772 = .ok (.iaload, 1) := by decide +kernel
theorem dL_law_773 : decode cL_law 773 = .ok (.invokevirtual 179, 3) := by decide +kernel
theorem dL_law_776 : decode cL_law 776 = .ok (.istore 6, 2) := by decide +kernel
theorem dL_law_778 : decode cL_law 778 = .ok (.goto 690, 3) := by decide +kernel
theorem dL_law_781 : decode cL_law 781 = .ok (.aload_n 1, 1) := by decide +kernel
theorem dL_law_782 : decode cL_law 782 = .ok (.aload_n 0, 1) := by decide +kernel
theorem dL_law_783 : decode cL_law 783 = .ok (.iload 4, 2) := by decide +kernel
theorem dL_law_785 : decode cL_law 785 = .ok (.iconst 1, 1) := by decide +kernel
theorem dL_law_786 : decode cL_law 786 = .ok (.iadd, 1) := by decide +kernel
theorem dL_law_787 : decode cL_law 787 = .ok (.iaload, 1) := by decide +kernel
theorem dL_law_788 : decode cL_law 788 = .ok (.aload_n 0, 1) := by decide +kernel
theorem dL_law_789 : decode cL_law 789 = .ok (.iload 4, 2) := by decide +kernel
theorem dL_law_791 : decode cL_law 791 = .ok (.iconst 2, 1) := by decide +kernel
theorem dL_law_792 : decode cL_law 792 = .ok (.iadd, 1) := by decide +kernel
theorem dL_law_793 : decode cL_law 793 = .ok (.iaload, 1) := by decide +kernel
theorem dL_law_794 : decode cL_law 794 = .ok (.aload_n 3, 1) := by decide +kernel
theorem dL_law_795 : decode cL_law 795 = .ok (.invokestatic 180, 3) := by decide +kernel
theorem dL_law_798 : decode cL_law 798 = .ok (.istore 5, 2) := by decide +kernel
theorem dL_law_800 : decode cL_law 800 = .ok (.aload_n 2, 1) := by decide +kernel
theorem dL_law_801 : decode cL_law 801 = .ok (.aload_n 0, 1) := by decide +kernel
theorem dL_law_802 : decode cL_law 802 = .ok (.iload 4, 2) := by decide +kernel
theorem dL_law_804 : decode cL_law 804 = .ok (.iconst 1, 1) := by decide +kernel
theorem dL_law_805 : decode cL_law 805 = .ok (.iadd, 1) := by decide +kernel
theorem dL_law_806 : decode cL_law 806 = .ok (.iaload, 1) := by decide +kernel
theorem dL_law_807 : decode cL_law 807 = .ok (.aload_n 0, 1) := by decide +kernel
theorem dL_law_808 : decode cL_law 808 = .ok (.iload 4, 2) := by decide +kernel
theorem dL_law_810 : decode cL_law 810 = .ok (.iconst 2, 1) := by decide +kernel
theorem dL_law_811 : decode cL_law 811 = .ok (.iadd, 1) := by decide +kernel
theorem dL_law_812 : decode cL_law 812 = .ok (.iaload, 1) := by decide +kernel
theorem dL_law_813 : decode cL_law 813 = .ok (.invokevirtual 182, 3) := by decide +kernel
theorem dL_law_816 : decode cL_law 816 = .ok (.istore 6, 2) := by decide +kernel
theorem dL_law_818 : decode cL_law 818 = .ok (.goto 650, 3) := by decide +kernel
theorem dL_law_821 : decode cL_law 821 = .ok (.aload_n 1, 1) := by decide +kernel
theorem dL_law_822 : decode cL_law 822 = .ok (.aload_n 0, 1) := by decide +kernel
theorem dL_law_823 : decode cL_law 823 = .ok (.iload 4, 2) := by decide +kernel
theorem dL_law_825 : decode cL_law 825 = .ok (.iconst 1, 1) := by decide +kernel
theorem dL_law_826 : decode cL_law 826 = .ok (.iadd, 1) := by decide +kernel
theorem dL_law_827 : decode cL_law 827 = .ok (.iaload, 1) := by decide +kernel
theorem dL_law_828 : decode cL_law 828 = .ok (.aload_n 0, 1) := by decide +kernel
theorem dL_law_829 : decode cL_law 829 = .ok (.iload 4, 2) := by decide +kernel
theorem dL_law_831 : decode cL_law 831 = .ok (.iconst 2, 1) := by decide +kernel
theorem dL_law_832 : decode cL_law 832 = .ok (.iadd, 1) := by decide +kernel
theorem dL_law_833 : decode cL_law 833 = .ok (.iaload, 1) := by decide +kernel
theorem dL_law_834 : decode cL_law 834 = .ok (.aload_n 0, 1) := by decide +kernel
theorem dL_law_835 : decode cL_law 835 = .ok (.iload 4, 2) := by decide +kernel
theorem dL_law_837 : decode cL_law 837 = .ok (.iconst 3, 1) := by decide +kernel
theorem dL_law_838 : decode cL_law 838 = .ok (.iadd, 1) := by decide +kernel
theorem dL_law_839 : decode cL_law 839 = .ok (.iaload, 1) := by decide +kernel
theorem dL_law_840 : decode cL_law 840 = .ok (.aload_n 3, 1) := by decide +kernel
theorem dL_law_841 : decode cL_law 841 = .ok (.invokestatic 183, 3) := by decide +kernel
theorem dL_law_844 : decode cL_law 844 = .ok (.istore 5, 2) := by decide +kernel
theorem dL_law_846 : decode cL_law 846 = .ok (.aload_n 2, 1) := by decide +kernel
theorem dL_law_847 : decode cL_law 847 = .ok (.aload_n 0, 1) := by decide +kernel
theorem dL_law_848 : decode cL_law 848 = .ok (.iload 4, 2) := by decide +kernel
theorem dL_law_850 : decode cL_law 850 = .ok (.iconst 1, 1) := by decide +kernel
theorem dL_law_851 : decode cL_law 851 = .ok (.iadd, 1) := by decide +kernel
theorem dL_law_852 : decode cL_law 852 = .ok (.iaload, 1) := by decide +kernel
theorem dL_law_853 : decode cL_law 853 = .ok (.aload_n 0, 1) := by decide +kernel
theorem dL_law_854 : decode cL_law 854 = .ok (.iload 4, 2) := by decide +kernel
theorem dL_law_856 : decode cL_law 856 = .ok (.iconst 2, 1) := by decide +kernel
theorem dL_law_857 : decode cL_law 857 = .ok (.iadd, 1) := by decide +kernel
theorem dL_law_858 : decode cL_law 858 = .ok (.iaload, 1) := by decide +kernel
theorem dL_law_859 : decode cL_law 859 = .ok (.aload_n 0, 1) := by decide +kernel
theorem dL_law_860 : decode cL_law 860 = .ok (.iload 4, 2) := by decide +kernel
theorem dL_law_862 : decode cL_law 862 = .ok (.iconst 3, 1) := by decide +kernel
theorem dL_law_863 : decode cL_law 863 = .ok (.iadd, 1) := by decide +kernel
theorem dL_law_864 : decode cL_law 864 = .ok (.iaload, 1) := by decide +kernel
theorem dL_law_865 : decode cL_law 865 = .ok (.invokevirtual 185, 3) := by decide +kernel
theorem dL_law_868 : decode cL_law 868 = .ok (.istore 6, 2) := by decide +kernel
theorem dL_law_870 : decode cL_law 870 = .ok (.goto 598, 3) := by decide +kernel
/-! cases of the law: token, tokenOf, node, pageNode, fits, reach, ways, times, passes, value -/
set_option maxHeartbeats 4000000 in
set_option maxRecDepth 100000 in
theorem lc_token {p : Program} {l : Launch} {e : Env} {s : State} {m : MethodId} {below : List Frame} {meth : Method} {c : Code} {dC : Nat → ClassId} {dI : Nat → Nat → Nat} {cI cL cII cR cZ cIII cO : ClassId} {h0 b L : Nat} {xs : Nat → Int32} (C0 : lx_C p l s m c b L xs dC dI cI cL cII cR cZ cIII cO h0) {i : Int} (hi : 0 ≤ i ∧ i + 6 ≤ L) {μ ν : va_M} {f : Nat → Int64} (hV : LW9 μ ν) {cells slots : Nat} (hroom : cells + 1 ≤ 601024 ∧ slots + 6 ≤ 7293034)
    (hend : ∀ (μ ν : va_M) (f : Nat → Int64) (H : Heap) (locs : List Loc) (ls : Array Slot), LW9 μ ν → LW dC dI cI cL cII cR cZ cIII cO h0 μ ν f H → va_S (lA h0) s.heap H locs → lv_has ls 7 [(4, .int (iZ i)), (0, .ref b), (1, .ref h0), (2, .ref (h0 + 233)), (3, .ref (h0 + 6558))] → W p l e room_1 s m #[Value.ref b] below meth c H locs (cells + 1) (slots + 6) (lw_Z below #[Value.ref b] s) (F0 m 1468 ls []))
    {H : Heap} {locs : List Loc} {ls : Array Slot} (hW : LW dC dI cI cL cII cR cZ cIII cO h0 μ ν f H) (hS : va_S (lA h0) s.heap H locs) (hl : lv_has ls 7 [(4, .int (iZ i)), (0, .ref b), (1, .ref h0), (2, .ref (h0 + 233)), (3, .ref (h0 + 6558))]) : W p l e room_1 s m #[Value.ref b] below meth c H locs cells slots (lw_Z below #[Value.ref b] s) (F0 m 485 ls []) := by
  obtain ⟨hfl, hx, hb, hml, hown, hts, hX, hbl, hsz0, hL9, hK, hKm, hKo, hM, hEx, hNc⟩ := C0
  obtain ⟨T, Ss, Wk, Bs, hT⟩ := hV
  have hT : LWt T Ss Wk Bs μ ν := hT
  have hT0 := hT
  have hbA : ¬ lA h0 b := Nat.not_le.mpr (by (first | ((try clear hbA); (try clear hT0); (try clear hT); (try clear Bs); (try clear Wk); (try clear Ss); (try clear hend); (try clear hroom); (try clear hi); omega) | omega))
  obtain ⟨a1, e1, ha1⟩ := iZ_ex (xs (iZ (i + 1)).toNatClampNeg)
  obtain ⟨a2, e2, ha2⟩ := iZ_ex (xs (iZ (i + 2)).toNatClampNeg)
  refine lv_aload_n hx hb dL_law_485 rfl (lv_at hl 2 rfl) ?_
  refine lv_aload_n hx hb dL_law_486 rfl (lv_at hl 1 rfl) ?_
  refine lv_iload hx hb dL_law_487 (lv_at hl 0 rfl) ?_
  refine lv_iconst (v := iZ 1) hx hb dL_law_489 rfl ?_
  refine lv_iadd hx hb dL_law_490 ?_
  refine lv_topi (fun x9 ex9 => ?_)
  obtain rfl : x9 = iZ (i + 1) := ex9.trans (iZ_add _ _)
  refine va_sld hx hb hX hbl hbA hS (iZ_in (by (first | ((try clear ex9); (try clear ha2); (try clear e2); (try clear ha1); (try clear e1); (try clear hbA); (try clear hT0); (try clear hT); (try clear Bs); (try clear Wk); (try clear Ss); (try clear hsz0); (try clear hend); (try clear hroom); omega) | omega)) (by (first | ((try clear ex9); (try clear ha2); (try clear e2); (try clear ha1); (try clear e1); (try clear hbA); (try clear hT0); (try clear hT); (try clear Bs); (try clear Wk); (try clear Ss); (try clear hsz0); (try clear hend); (try clear hroom); omega) | omega)) (by (first | ((try clear ex9); (try clear ha2); (try clear e2); (try clear ha1); (try clear e1); (try clear hbA); (try clear hT0); (try clear hT); (try clear Bs); (try clear Wk); (try clear Ss); (try clear hsz0); (try clear hend); (try clear hroom); (try clear hi); omega) | omega))) dL_law_491 ?_
  refine lv_topi (fun x9 ex9 => ?_)
  obtain rfl : x9 = iZ a1 := ex9.trans e1
  refine lv_aload_n hx hb dL_law_492 rfl (lv_at hl 1 rfl) ?_
  refine lv_iload hx hb dL_law_493 (lv_at hl 0 rfl) ?_
  refine lv_iconst (v := iZ 2) hx hb dL_law_495 rfl ?_
  refine lv_iadd hx hb dL_law_496 ?_
  refine lv_topi (fun x9 ex9 => ?_)
  obtain rfl : x9 = iZ (i + 2) := ex9.trans (iZ_add _ _)
  refine va_sld hx hb hX hbl hbA hS (iZ_in (by (first | ((try clear ex9); (try clear ha2); (try clear e2); (try clear ha1); (try clear e1); (try clear hbA); (try clear hT0); (try clear hT); (try clear Bs); (try clear Wk); (try clear Ss); (try clear hsz0); (try clear hend); (try clear hroom); omega) | omega)) (by (first | ((try clear ex9); (try clear ha2); (try clear e2); (try clear ha1); (try clear e1); (try clear hbA); (try clear hT0); (try clear hT); (try clear Bs); (try clear Wk); (try clear Ss); (try clear hsz0); (try clear hend); (try clear hroom); omega) | omega)) (by (first | ((try clear ex9); (try clear ha2); (try clear e2); (try clear ha1); (try clear e1); (try clear hbA); (try clear hT0); (try clear hT); (try clear Bs); (try clear Wk); (try clear Ss); (try clear hsz0); (try clear hend); (try clear hroom); (try clear hi); omega) | omega))) dL_law_497 ?_
  refine lv_topi (fun x9 ex9 => ?_)
  obtain rfl : x9 = iZ a2 := ex9.trans e2
  refine lv_aload_n hx hb dL_law_498 rfl (lv_at hl 4 rfl) ?_
  refine va_calli (vx_runSW (hh := [(0, 10, 13, 20)]) (As := [.ref h0, .int (iZ a1), .int (iZ a2), .ref (h0 + 6558)]) (rest := []) ⟨hx, hb, hml, hown, hts⟩ (w_token l hfl dC dI cI cL cII cR cO h0 (h0 + 6558) H.size μ f a1 a2 T (hT.1.1.1.1.1) ha1 ha2 (by (first | ((try clear ex9); (try clear ha2); (try clear e2); (try clear ha1); (try clear e1); (try clear hbA); (try clear hT0); (try clear hT); (try clear Bs); (try clear Wk); (try clear Ss); (try clear hsz0); (try clear hend); (try clear hroom); (try clear hi); omega) | omega))) (vx_cwSW 4 hts (gW_G k871 k872 k0 k873) rfl rfl rfl (by decide +kernel) ⟨Nat.le_of_ble_eq_true rfl, Nat.le_of_ble_eq_true rfl⟩) ⟨fun a U g mk q => by obtain ⟨q0, q1, qP, qO, qK, qKo, qM, qE, qN⟩ := q; exact ⟨q0, q1, qP, qO, va_K.moved (u := U) (U := U.calling g mk a) (Vm.Alike.refl U.vm) qK, va_K.moved (u := U) (U := U.calling g mk a) (Vm.Alike.refl U.vm) qKo, qM, xX_call qE, qN⟩, fun U hU hW9 => ⟨rfl, by rw [hU], by rw [hU]; exact hW.1, by rw [hU]; exact hW.2.2, va_K.moved hW9.alike hK, va_K.moved hW9.alike hKo, xM_warm hW9 hM, xX_at hEx hS (fun q h => lA_w hS hsz0 (by (first | ((try clear h); (try clear q); (try clear hU); (try clear U); (try clear mk); (try clear g); (try clear ex9); (try clear ha2); (try clear e2); (try clear ha1); (try clear e1); (try clear hbA); (try clear hT0); (try clear hT); (try clear Bs); (try clear Wk); (try clear Ss); (try clear hsz0); (try clear hend); (try clear hroom); (try clear hi); omega) | omega)) q h) hU hW9, xNC_warm hW9 hNc⟩⟩ rfl rfl hl.1 rfl (lv_room (Nat.le_of_ble_eq_true rfl)) dL_law_499 ⟨by show cells + 1 ≤ 601024; (first | ((try clear ex9); (try clear ha2); (try clear e2); (try clear ha1); (try clear e1); (try clear hbA); (try clear hT0); (try clear hT); (try clear Bs); (try clear Wk); (try clear Ss); (try clear hsz0); (try clear hend); (try clear hi); omega) | omega), by show slots + 6 ≤ 7293034; (first | ((try clear ex9); (try clear ha2); (try clear e2); (try clear ha1); (try clear e1); (try clear hbA); (try clear hT0); (try clear hT); (try clear Bs); (try clear Wk); (try clear Ss); (try clear hsz0); (try clear hend); (try clear hi); omega) | omega)⟩) hS (fun q _ h => lA_w hS hsz0 (by (first | ((try clear h); (try clear ex9); (try clear ha2); (try clear e2); (try clear ha1); (try clear e1); (try clear hbA); (try clear hT0); (try clear hT); (try clear Bs); (try clear Wk); (try clear Ss); (try clear hsz0); (try clear hend); (try clear hroom); (try clear hi); omega) | omega)) q h) (lA_w hS hsz0 (by (first | ((try clear ex9); (try clear ha2); (try clear e2); (try clear ha1); (try clear e1); (try clear hbA); (try clear hT0); (try clear hT); (try clear Bs); (try clear Wk); (try clear Ss); (try clear hsz0); (try clear hend); (try clear hroom); (try clear hi); omega) | omega))) (fun r1 u9 t9 H1 locs ht9 hvm9 hw9 hB9 hz9 hk9 hS => ?_)
  obtain ⟨hP9, hO9⟩ := hB9
  rw [ht9] at hP9 hO9
  have hW := LW_w hW hk9 hP9 hO9
  have hT := LWt_c hT hw9
  obtain ⟨u1, f1⟩ := u9
  try dsimp only at hW hT
  clear hk9 hP9 hO9
  generalize H1 = H at hW hS ⊢
  refine lv_istore (lv' := [(5, .int r1), (4, .int (iZ i)), (0, .ref b), (1, .ref h0), (2, .ref (h0 + 233)), (3, .ref (h0 + 6558))]) hx hb dL_law_502 hl (by decide) rfl (fun ls hl => ?_)
  refine lv_aload_n hx hb dL_law_504 rfl (lv_at hl 4 rfl) ?_
  refine lv_aload_n hx hb dL_law_505 rfl (lv_at hl 2 rfl) ?_
  refine lv_iload hx hb dL_law_506 (lv_at hl 1 rfl) ?_
  refine lv_iconst (v := iZ 1) hx hb dL_law_508 rfl ?_
  refine lv_iadd hx hb dL_law_509 ?_
  refine lv_topi (fun x9 ex9 => ?_)
  obtain rfl : x9 = iZ (i + 1) := ex9.trans (iZ_add _ _)
  refine va_sld hx hb hX hbl hbA hS (iZ_in (by (first | ((try clear ex9); (try clear f1); (try clear u1); (try clear hT); (try clear hO9); (try clear hP9); (try clear hz9); (try clear r1); (try clear ha2); (try clear e2); (try clear ha1); (try clear e1); (try clear hbA); (try clear hT0); (try clear Bs); (try clear Wk); (try clear Ss); (try clear hsz0); (try clear hend); (try clear hroom); omega) | omega)) (by (first | ((try clear ex9); (try clear f1); (try clear u1); (try clear hT); (try clear hO9); (try clear hP9); (try clear hz9); (try clear r1); (try clear ha2); (try clear e2); (try clear ha1); (try clear e1); (try clear hbA); (try clear hT0); (try clear Bs); (try clear Wk); (try clear Ss); (try clear hsz0); (try clear hend); (try clear hroom); omega) | omega)) (by (first | ((try clear ex9); (try clear f1); (try clear u1); (try clear hT); (try clear hO9); (try clear hP9); (try clear hz9); (try clear r1); (try clear ha2); (try clear e2); (try clear ha1); (try clear e1); (try clear hbA); (try clear hT0); (try clear Bs); (try clear Wk); (try clear Ss); (try clear hsz0); (try clear hend); (try clear hroom); (try clear hi); omega) | omega))) dL_law_510 ?_
  refine lv_topi (fun x9 ex9 => ?_)
  obtain rfl : x9 = iZ a1 := ex9.trans e1
  refine lv_aload_n hx hb dL_law_511 rfl (lv_at hl 2 rfl) ?_
  refine lv_iload hx hb dL_law_512 (lv_at hl 1 rfl) ?_
  refine lv_iconst (v := iZ 2) hx hb dL_law_514 rfl ?_
  refine lv_iadd hx hb dL_law_515 ?_
  refine lv_topi (fun x9 ex9 => ?_)
  obtain rfl : x9 = iZ (i + 2) := ex9.trans (iZ_add _ _)
  refine va_sld hx hb hX hbl hbA hS (iZ_in (by (first | ((try clear ex9); (try clear f1); (try clear u1); (try clear hT); (try clear hO9); (try clear hP9); (try clear hz9); (try clear r1); (try clear ha2); (try clear e2); (try clear ha1); (try clear e1); (try clear hbA); (try clear hT0); (try clear Bs); (try clear Wk); (try clear Ss); (try clear hsz0); (try clear hend); (try clear hroom); omega) | omega)) (by (first | ((try clear ex9); (try clear f1); (try clear u1); (try clear hT); (try clear hO9); (try clear hP9); (try clear hz9); (try clear r1); (try clear ha2); (try clear e2); (try clear ha1); (try clear e1); (try clear hbA); (try clear hT0); (try clear Bs); (try clear Wk); (try clear Ss); (try clear hsz0); (try clear hend); (try clear hroom); omega) | omega)) (by (first | ((try clear ex9); (try clear f1); (try clear u1); (try clear hT); (try clear hO9); (try clear hP9); (try clear hz9); (try clear r1); (try clear ha2); (try clear e2); (try clear ha1); (try clear e1); (try clear hbA); (try clear hT0); (try clear Bs); (try clear Wk); (try clear Ss); (try clear hsz0); (try clear hend); (try clear hroom); (try clear hi); omega) | omega))) dL_law_516 ?_
  refine lv_topi (fun x9 ex9 => ?_)
  obtain rfl : x9 = iZ a2 := ex9.trans e2
  refine va_calli (va_runV (As := [.int (iZ a1), .int (iZ a2)]) (rest := []) ⟨hx, hb, hml, hown, hts⟩ (m_token l dC dI cI cZ cII cIII (h0 + 233) H.size ν a1 a2 hT.1.1.1.1.2.1.1 ha1 ha2) (cwV 2 hts (gV_G k1603 k1604 k1605 k13 k1606) rfl rfl rfl (by decide +kernel) ⟨Nat.le_of_ble_eq_true rfl, Nat.le_of_ble_eq_true rfl⟩) ⟨fun a U g mk q => by obtain ⟨q0, q1, qP, qK⟩ := q; exact ⟨q0, q1, qP, va_K.moved (u := U) (U := U.calling g mk a) (Vm.Alike.refl U.vm) qK⟩, va_recv hKm hW.2.1 (ci := 10) (q0 := 0) rfl ((fw_get (by decide)).trans (by rw [mE_obj])), fun U hU hW9 => ⟨rfl, by rw [hU], by rw [hU]; exact hW.2.1, va_K.moved hW9.alike hKm⟩⟩ rfl rfl hl.1 rfl (lv_room (Nat.le_of_ble_eq_true rfl)) dL_law_517 ⟨by show cells + 1 + 0 ≤ 601024; (first | ((try clear ex9); (try clear f1); (try clear u1); (try clear hT); (try clear hO9); (try clear hP9); (try clear hz9); (try clear r1); (try clear ha2); (try clear e2); (try clear ha1); (try clear e1); (try clear hbA); (try clear hT0); (try clear Bs); (try clear Wk); (try clear Ss); (try clear hsz0); (try clear hend); (try clear hi); omega) | omega), by show slots + 6 + 0 ≤ 7293034; (first | ((try clear ex9); (try clear f1); (try clear u1); (try clear hT); (try clear hO9); (try clear hP9); (try clear hz9); (try clear r1); (try clear ha2); (try clear e2); (try clear ha1); (try clear e1); (try clear hbA); (try clear hT0); (try clear Bs); (try clear Wk); (try clear Ss); (try clear hsz0); (try clear hend); (try clear hi); omega) | omega)⟩) hS (fun q _ h => lA_f hS hsz0 (by (first | ((try clear h); (try clear ex9); (try clear f1); (try clear u1); (try clear hT); (try clear hO9); (try clear hP9); (try clear hz9); (try clear r1); (try clear ha2); (try clear e2); (try clear ha1); (try clear e1); (try clear hbA); (try clear hT0); (try clear Bs); (try clear Wk); (try clear Ss); (try clear hsz0); (try clear hend); (try clear hroom); (try clear hi); omega) | omega)) q h) (lA_f hS hsz0 (by (first | ((try clear ex9); (try clear f1); (try clear u1); (try clear hT); (try clear hO9); (try clear hP9); (try clear hz9); (try clear r1); (try clear ha2); (try clear e2); (try clear ha1); (try clear e1); (try clear hbA); (try clear hT0); (try clear Bs); (try clear Wk); (try clear Ss); (try clear hsz0); (try clear hend); (try clear hroom); (try clear hi); omega) | omega))) (fun r2 u9 t9 H1 locs ht9 hvm9 hw9 hB9 hz9 hk9 hS => ?_)
  obtain ⟨hP9, -⟩ := hB9
  rw [ht9] at hP9
  have hW := LW_m hW hk9 hP9
  obtain ⟨v1, q2⟩ := u9
  obtain ⟨er9, hw9⟩ := hw9
  have er2 : r2 = iZ q2 := er9
  subst er2
  have hT := LWt_ps hT hw9
  try dsimp only at hW hT
  clear hk9 hP9
  generalize H1 = H at hW hS ⊢
  refine lv_istore (lv' := [(6, .int (iZ q2)), (5, .int r1), (4, .int (iZ i)), (0, .ref b), (1, .ref h0), (2, .ref (h0 + 233)), (3, .ref (h0 + 6558))]) hx hb dL_law_520 hl (by decide) rfl (fun ls hl => ?_)
  refine lv_goto (tgt := 1468) hx hb dL_law_522 (by decide) ?_
  have hV9 : LW9 u1 v1 := ⟨T, Ss, Wk, Bs, hT⟩
  refine W.widen (k := cells + 1) (n := slots + 6) (by (first | ((try clear hT); (try clear er2); (try clear er9); (try clear q2); (try clear v1); (try clear hP9); (try clear hz9); (try clear r2); (try clear ex9); (try clear f1); (try clear u1); (try clear hO9); (try clear r1); (try clear ha2); (try clear e2); (try clear ha1); (try clear e1); (try clear hbA); (try clear hT0); (try clear Bs); (try clear Wk); (try clear Ss); (try clear hsz0); (try clear hend); (try clear hroom); (try clear hi); omega) | omega)) (by (first | ((try clear hT); (try clear er2); (try clear er9); (try clear q2); (try clear v1); (try clear hP9); (try clear hz9); (try clear r2); (try clear ex9); (try clear f1); (try clear u1); (try clear hO9); (try clear r1); (try clear ha2); (try clear e2); (try clear ha1); (try clear e1); (try clear hbA); (try clear hT0); (try clear Bs); (try clear Wk); (try clear Ss); (try clear hsz0); (try clear hend); (try clear hroom); (try clear hi); omega) | omega)) ?_
  exact hend _ _ _ H locs ls hV9 hW hS (lv_sub hl [2, 3, 4, 5, 6] rfl)
set_option maxHeartbeats 4000000 in
set_option maxRecDepth 100000 in
theorem lc_tokenOf {p : Program} {l : Launch} {e : Env} {s : State} {m : MethodId} {below : List Frame} {meth : Method} {c : Code} {dC : Nat → ClassId} {dI : Nat → Nat → Nat} {cI cL cII cR cZ cIII cO : ClassId} {h0 b L : Nat} {xs : Nat → Int32} (C0 : lx_C p l s m c b L xs dC dI cI cL cII cR cZ cIII cO h0) {i : Int} (hi : 0 ≤ i ∧ i + 6 ≤ L) {μ ν : va_M} {f : Nat → Int64} (hV : LW9 μ ν) {cells slots : Nat} (hroom : cells + 1 ≤ 601024 ∧ slots + 6 ≤ 7293034)
    (hend : ∀ (μ ν : va_M) (f : Nat → Int64) (H : Heap) (locs : List Loc) (ls : Array Slot), LW9 μ ν → LW dC dI cI cL cII cR cZ cIII cO h0 μ ν f H → va_S (lA h0) s.heap H locs → lv_has ls 7 [(4, .int (iZ i)), (0, .ref b), (1, .ref h0), (2, .ref (h0 + 233)), (3, .ref (h0 + 6558))] → W p l e room_1 s m #[Value.ref b] below meth c H locs (cells + 1) (slots + 6) (lw_Z below #[Value.ref b] s) (F0 m 1468 ls []))
    {H : Heap} {locs : List Loc} {ls : Array Slot} (hW : LW dC dI cI cL cII cR cZ cIII cO h0 μ ν f H) (hS : va_S (lA h0) s.heap H locs) (hl : lv_has ls 7 [(4, .int (iZ i)), (0, .ref b), (1, .ref h0), (2, .ref (h0 + 233)), (3, .ref (h0 + 6558))]) : W p l e room_1 s m #[Value.ref b] below meth c H locs cells slots (lw_Z below #[Value.ref b] s) (F0 m 525 ls []) := by
  obtain ⟨hfl, hx, hb, hml, hown, hts, hX, hbl, hsz0, hL9, hK, hKm, hKo, hM, hEx, hNc⟩ := C0
  obtain ⟨T, Ss, Wk, Bs, hT⟩ := hV
  have hT : LWt T Ss Wk Bs μ ν := hT
  have hT0 := hT
  have hbA : ¬ lA h0 b := Nat.not_le.mpr (by (first | ((try clear hbA); (try clear hT0); (try clear hT); (try clear Bs); (try clear Wk); (try clear Ss); (try clear hend); (try clear hroom); (try clear hi); omega) | omega))
  obtain ⟨a1, e1, ha1⟩ := iZ_ex (xs (iZ (i + 1)).toNatClampNeg)
  obtain ⟨a2, e2, ha2⟩ := iZ_ex (xs (iZ (i + 2)).toNatClampNeg)
  refine lv_aload_n hx hb dL_law_525 rfl (lv_at hl 2 rfl) ?_
  refine lv_aload_n hx hb dL_law_526 rfl (lv_at hl 1 rfl) ?_
  refine lv_iload hx hb dL_law_527 (lv_at hl 0 rfl) ?_
  refine lv_iconst (v := iZ 1) hx hb dL_law_529 rfl ?_
  refine lv_iadd hx hb dL_law_530 ?_
  refine lv_topi (fun x9 ex9 => ?_)
  obtain rfl : x9 = iZ (i + 1) := ex9.trans (iZ_add _ _)
  refine va_sld hx hb hX hbl hbA hS (iZ_in (by (first | ((try clear ex9); (try clear ha2); (try clear e2); (try clear ha1); (try clear e1); (try clear hbA); (try clear hT0); (try clear hT); (try clear Bs); (try clear Wk); (try clear Ss); (try clear hsz0); (try clear hend); (try clear hroom); omega) | omega)) (by (first | ((try clear ex9); (try clear ha2); (try clear e2); (try clear ha1); (try clear e1); (try clear hbA); (try clear hT0); (try clear hT); (try clear Bs); (try clear Wk); (try clear Ss); (try clear hsz0); (try clear hend); (try clear hroom); omega) | omega)) (by (first | ((try clear ex9); (try clear ha2); (try clear e2); (try clear ha1); (try clear e1); (try clear hbA); (try clear hT0); (try clear hT); (try clear Bs); (try clear Wk); (try clear Ss); (try clear hsz0); (try clear hend); (try clear hroom); (try clear hi); omega) | omega))) dL_law_531 ?_
  refine lv_topi (fun x9 ex9 => ?_)
  obtain rfl : x9 = iZ a1 := ex9.trans e1
  refine lv_aload_n hx hb dL_law_532 rfl (lv_at hl 1 rfl) ?_
  refine lv_iload hx hb dL_law_533 (lv_at hl 0 rfl) ?_
  refine lv_iconst (v := iZ 2) hx hb dL_law_535 rfl ?_
  refine lv_iadd hx hb dL_law_536 ?_
  refine lv_topi (fun x9 ex9 => ?_)
  obtain rfl : x9 = iZ (i + 2) := ex9.trans (iZ_add _ _)
  refine va_sld hx hb hX hbl hbA hS (iZ_in (by (first | ((try clear ex9); (try clear ha2); (try clear e2); (try clear ha1); (try clear e1); (try clear hbA); (try clear hT0); (try clear hT); (try clear Bs); (try clear Wk); (try clear Ss); (try clear hsz0); (try clear hend); (try clear hroom); omega) | omega)) (by (first | ((try clear ex9); (try clear ha2); (try clear e2); (try clear ha1); (try clear e1); (try clear hbA); (try clear hT0); (try clear hT); (try clear Bs); (try clear Wk); (try clear Ss); (try clear hsz0); (try clear hend); (try clear hroom); omega) | omega)) (by (first | ((try clear ex9); (try clear ha2); (try clear e2); (try clear ha1); (try clear e1); (try clear hbA); (try clear hT0); (try clear hT); (try clear Bs); (try clear Wk); (try clear Ss); (try clear hsz0); (try clear hend); (try clear hroom); (try clear hi); omega) | omega))) dL_law_537 ?_
  refine lv_topi (fun x9 ex9 => ?_)
  obtain rfl : x9 = iZ a2 := ex9.trans e2
  refine lv_aload_n hx hb dL_law_538 rfl (lv_at hl 4 rfl) ?_
  refine va_calli (vx_runSW (hh := [(0, 10, 13, 20), (0, 10, 17, 13)]) (As := [.ref h0, .int (iZ a1), .int (iZ a2), .ref (h0 + 6558)]) (rest := []) ⟨hx, hb, hml, hown, hts⟩ (w_tokenOf l hfl dC dI cI cL cII cR cO h0 (h0 + 6558) H.size μ f a1 a2 T (hT.1.1.1.1.1) ha1 ha2 (by (first | ((try clear ex9); (try clear ha2); (try clear e2); (try clear ha1); (try clear e1); (try clear hbA); (try clear hT0); (try clear hT); (try clear Bs); (try clear Wk); (try clear Ss); (try clear hsz0); (try clear hend); (try clear hroom); (try clear hi); omega) | omega))) (vx_cwSW 4 hts (gW_G k882 k883 k0 k884) rfl rfl rfl (by decide +kernel) ⟨Nat.le_of_ble_eq_true rfl, Nat.le_of_ble_eq_true rfl⟩) ⟨fun a U g mk q => by obtain ⟨q0, q1, qP, qO, qK, qKo, qM, qE, qN⟩ := q; exact ⟨q0, q1, qP, qO, va_K.moved (u := U) (U := U.calling g mk a) (Vm.Alike.refl U.vm) qK, va_K.moved (u := U) (U := U.calling g mk a) (Vm.Alike.refl U.vm) qKo, qM, xX_call qE, qN⟩, fun U hU hW9 => ⟨rfl, by rw [hU], by rw [hU]; exact hW.1, by rw [hU]; exact hW.2.2, va_K.moved hW9.alike hK, va_K.moved hW9.alike hKo, xM_warm hW9 hM, xX_at hEx hS (fun q h => lA_w hS hsz0 (by (first | ((try clear h); (try clear q); (try clear hU); (try clear U); (try clear mk); (try clear g); (try clear ex9); (try clear ha2); (try clear e2); (try clear ha1); (try clear e1); (try clear hbA); (try clear hT0); (try clear hT); (try clear Bs); (try clear Wk); (try clear Ss); (try clear hsz0); (try clear hend); (try clear hroom); (try clear hi); omega) | omega)) q h) hU hW9, xNC_warm hW9 hNc⟩⟩ rfl rfl hl.1 rfl (lv_room (Nat.le_of_ble_eq_true rfl)) dL_law_539 ⟨by show cells + 1 ≤ 601024; (first | ((try clear ex9); (try clear ha2); (try clear e2); (try clear ha1); (try clear e1); (try clear hbA); (try clear hT0); (try clear hT); (try clear Bs); (try clear Wk); (try clear Ss); (try clear hsz0); (try clear hend); (try clear hi); omega) | omega), by show slots + 6 ≤ 7293034; (first | ((try clear ex9); (try clear ha2); (try clear e2); (try clear ha1); (try clear e1); (try clear hbA); (try clear hT0); (try clear hT); (try clear Bs); (try clear Wk); (try clear Ss); (try clear hsz0); (try clear hend); (try clear hi); omega) | omega)⟩) hS (fun q _ h => lA_w hS hsz0 (by (first | ((try clear h); (try clear ex9); (try clear ha2); (try clear e2); (try clear ha1); (try clear e1); (try clear hbA); (try clear hT0); (try clear hT); (try clear Bs); (try clear Wk); (try clear Ss); (try clear hsz0); (try clear hend); (try clear hroom); (try clear hi); omega) | omega)) q h) (lA_w hS hsz0 (by (first | ((try clear ex9); (try clear ha2); (try clear e2); (try clear ha1); (try clear e1); (try clear hbA); (try clear hT0); (try clear hT); (try clear Bs); (try clear Wk); (try clear Ss); (try clear hsz0); (try clear hend); (try clear hroom); (try clear hi); omega) | omega))) (fun r1 u9 t9 H1 locs ht9 hvm9 hw9 hB9 hz9 hk9 hS => ?_)
  obtain ⟨hP9, hO9⟩ := hB9
  rw [ht9] at hP9 hO9
  have hW := LW_w hW hk9 hP9 hO9
  have hT := LWt_c hT hw9
  obtain ⟨u1, f1⟩ := u9
  try dsimp only at hW hT
  clear hk9 hP9 hO9
  generalize H1 = H at hW hS ⊢
  refine lv_istore (lv' := [(5, .int r1), (4, .int (iZ i)), (0, .ref b), (1, .ref h0), (2, .ref (h0 + 233)), (3, .ref (h0 + 6558))]) hx hb dL_law_542 hl (by decide) rfl (fun ls hl => ?_)
  refine lv_aload_n hx hb dL_law_544 rfl (lv_at hl 4 rfl) ?_
  refine lv_aload_n hx hb dL_law_545 rfl (lv_at hl 2 rfl) ?_
  refine lv_iload hx hb dL_law_546 (lv_at hl 1 rfl) ?_
  refine lv_iconst (v := iZ 1) hx hb dL_law_548 rfl ?_
  refine lv_iadd hx hb dL_law_549 ?_
  refine lv_topi (fun x9 ex9 => ?_)
  obtain rfl : x9 = iZ (i + 1) := ex9.trans (iZ_add _ _)
  refine va_sld hx hb hX hbl hbA hS (iZ_in (by (first | ((try clear ex9); (try clear f1); (try clear u1); (try clear hT); (try clear hO9); (try clear hP9); (try clear hz9); (try clear r1); (try clear ha2); (try clear e2); (try clear ha1); (try clear e1); (try clear hbA); (try clear hT0); (try clear Bs); (try clear Wk); (try clear Ss); (try clear hsz0); (try clear hend); (try clear hroom); omega) | omega)) (by (first | ((try clear ex9); (try clear f1); (try clear u1); (try clear hT); (try clear hO9); (try clear hP9); (try clear hz9); (try clear r1); (try clear ha2); (try clear e2); (try clear ha1); (try clear e1); (try clear hbA); (try clear hT0); (try clear Bs); (try clear Wk); (try clear Ss); (try clear hsz0); (try clear hend); (try clear hroom); omega) | omega)) (by (first | ((try clear ex9); (try clear f1); (try clear u1); (try clear hT); (try clear hO9); (try clear hP9); (try clear hz9); (try clear r1); (try clear ha2); (try clear e2); (try clear ha1); (try clear e1); (try clear hbA); (try clear hT0); (try clear Bs); (try clear Wk); (try clear Ss); (try clear hsz0); (try clear hend); (try clear hroom); (try clear hi); omega) | omega))) dL_law_550 ?_
  refine lv_topi (fun x9 ex9 => ?_)
  obtain rfl : x9 = iZ a1 := ex9.trans e1
  refine lv_aload_n hx hb dL_law_551 rfl (lv_at hl 2 rfl) ?_
  refine lv_iload hx hb dL_law_552 (lv_at hl 1 rfl) ?_
  refine lv_iconst (v := iZ 2) hx hb dL_law_554 rfl ?_
  refine lv_iadd hx hb dL_law_555 ?_
  refine lv_topi (fun x9 ex9 => ?_)
  obtain rfl : x9 = iZ (i + 2) := ex9.trans (iZ_add _ _)
  refine va_sld hx hb hX hbl hbA hS (iZ_in (by (first | ((try clear ex9); (try clear f1); (try clear u1); (try clear hT); (try clear hO9); (try clear hP9); (try clear hz9); (try clear r1); (try clear ha2); (try clear e2); (try clear ha1); (try clear e1); (try clear hbA); (try clear hT0); (try clear Bs); (try clear Wk); (try clear Ss); (try clear hsz0); (try clear hend); (try clear hroom); omega) | omega)) (by (first | ((try clear ex9); (try clear f1); (try clear u1); (try clear hT); (try clear hO9); (try clear hP9); (try clear hz9); (try clear r1); (try clear ha2); (try clear e2); (try clear ha1); (try clear e1); (try clear hbA); (try clear hT0); (try clear Bs); (try clear Wk); (try clear Ss); (try clear hsz0); (try clear hend); (try clear hroom); omega) | omega)) (by (first | ((try clear ex9); (try clear f1); (try clear u1); (try clear hT); (try clear hO9); (try clear hP9); (try clear hz9); (try clear r1); (try clear ha2); (try clear e2); (try clear ha1); (try clear e1); (try clear hbA); (try clear hT0); (try clear Bs); (try clear Wk); (try clear Ss); (try clear hsz0); (try clear hend); (try clear hroom); (try clear hi); omega) | omega))) dL_law_556 ?_
  refine lv_topi (fun x9 ex9 => ?_)
  obtain rfl : x9 = iZ a2 := ex9.trans e2
  refine va_calli (va_runV (As := [.int (iZ a1), .int (iZ a2)]) (rest := []) ⟨hx, hb, hml, hown, hts⟩ (m_tokenOf l dC dI cI cZ cII cIII (h0 + 233) H.size ν a1 a2 hT.1.1.1.1.2.1.1 ha1 ha2) (cwV 2 hts (gV_G k1607 k1608 k1609 k13 k1610) rfl rfl rfl (by decide +kernel) ⟨Nat.le_of_ble_eq_true rfl, Nat.le_of_ble_eq_true rfl⟩) ⟨fun a U g mk q => by obtain ⟨q0, q1, qP, qK⟩ := q; exact ⟨q0, q1, qP, va_K.moved (u := U) (U := U.calling g mk a) (Vm.Alike.refl U.vm) qK⟩, va_recv hKm hW.2.1 (ci := 10) (q0 := 0) rfl ((fw_get (by decide)).trans (by rw [mE_obj])), fun U hU hW9 => ⟨rfl, by rw [hU], by rw [hU]; exact hW.2.1, va_K.moved hW9.alike hKm⟩⟩ rfl rfl hl.1 rfl (lv_room (Nat.le_of_ble_eq_true rfl)) dL_law_557 ⟨by show cells + 1 + 0 ≤ 601024; (first | ((try clear ex9); (try clear f1); (try clear u1); (try clear hT); (try clear hO9); (try clear hP9); (try clear hz9); (try clear r1); (try clear ha2); (try clear e2); (try clear ha1); (try clear e1); (try clear hbA); (try clear hT0); (try clear Bs); (try clear Wk); (try clear Ss); (try clear hsz0); (try clear hend); (try clear hi); omega) | omega), by show slots + 6 + 0 ≤ 7293034; (first | ((try clear ex9); (try clear f1); (try clear u1); (try clear hT); (try clear hO9); (try clear hP9); (try clear hz9); (try clear r1); (try clear ha2); (try clear e2); (try clear ha1); (try clear e1); (try clear hbA); (try clear hT0); (try clear Bs); (try clear Wk); (try clear Ss); (try clear hsz0); (try clear hend); (try clear hi); omega) | omega)⟩) hS (fun q _ h => lA_f hS hsz0 (by (first | ((try clear h); (try clear ex9); (try clear f1); (try clear u1); (try clear hT); (try clear hO9); (try clear hP9); (try clear hz9); (try clear r1); (try clear ha2); (try clear e2); (try clear ha1); (try clear e1); (try clear hbA); (try clear hT0); (try clear Bs); (try clear Wk); (try clear Ss); (try clear hsz0); (try clear hend); (try clear hroom); (try clear hi); omega) | omega)) q h) (lA_f hS hsz0 (by (first | ((try clear ex9); (try clear f1); (try clear u1); (try clear hT); (try clear hO9); (try clear hP9); (try clear hz9); (try clear r1); (try clear ha2); (try clear e2); (try clear ha1); (try clear e1); (try clear hbA); (try clear hT0); (try clear Bs); (try clear Wk); (try clear Ss); (try clear hsz0); (try clear hend); (try clear hroom); (try clear hi); omega) | omega))) (fun r2 u9 t9 H1 locs ht9 hvm9 hw9 hB9 hz9 hk9 hS => ?_)
  obtain ⟨hP9, -⟩ := hB9
  rw [ht9] at hP9
  have hW := LW_m hW hk9 hP9
  obtain ⟨v1, q2⟩ := u9
  obtain ⟨er9, hw9⟩ := hw9
  have er2 : r2 = iZ q2 := er9
  subst er2
  have hT := LWt_ps hT hw9
  try dsimp only at hW hT
  clear hk9 hP9
  generalize H1 = H at hW hS ⊢
  refine lv_istore (lv' := [(6, .int (iZ q2)), (5, .int r1), (4, .int (iZ i)), (0, .ref b), (1, .ref h0), (2, .ref (h0 + 233)), (3, .ref (h0 + 6558))]) hx hb dL_law_560 hl (by decide) rfl (fun ls hl => ?_)
  refine lv_goto (tgt := 1468) hx hb dL_law_562 (by decide) ?_
  have hV9 : LW9 u1 v1 := ⟨T, Ss, Wk, Bs, hT⟩
  refine W.widen (k := cells + 1) (n := slots + 6) (by (first | ((try clear hT); (try clear er2); (try clear er9); (try clear q2); (try clear v1); (try clear hP9); (try clear hz9); (try clear r2); (try clear ex9); (try clear f1); (try clear u1); (try clear hO9); (try clear r1); (try clear ha2); (try clear e2); (try clear ha1); (try clear e1); (try clear hbA); (try clear hT0); (try clear Bs); (try clear Wk); (try clear Ss); (try clear hsz0); (try clear hend); (try clear hroom); (try clear hi); omega) | omega)) (by (first | ((try clear hT); (try clear er2); (try clear er9); (try clear q2); (try clear v1); (try clear hP9); (try clear hz9); (try clear r2); (try clear ex9); (try clear f1); (try clear u1); (try clear hO9); (try clear r1); (try clear ha2); (try clear e2); (try clear ha1); (try clear e1); (try clear hbA); (try clear hT0); (try clear Bs); (try clear Wk); (try clear Ss); (try clear hsz0); (try clear hend); (try clear hroom); (try clear hi); omega) | omega)) ?_
  exact hend _ _ _ H locs ls hV9 hW hS (lv_sub hl [2, 3, 4, 5, 6] rfl)
set_option maxHeartbeats 4000000 in
set_option maxRecDepth 100000 in
theorem lc_node {p : Program} {l : Launch} {e : Env} {s : State} {m : MethodId} {below : List Frame} {meth : Method} {c : Code} {dC : Nat → ClassId} {dI : Nat → Nat → Nat} {cI cL cII cR cZ cIII cO : ClassId} {h0 b L : Nat} {xs : Nat → Int32} (C0 : lx_C p l s m c b L xs dC dI cI cL cII cR cZ cIII cO h0) {i : Int} (hi : 0 ≤ i ∧ i + 6 ≤ L) {μ ν : va_M} {f : Nat → Int64} (hV : LW9 μ ν) {cells slots : Nat} (hroom : cells + 1 ≤ 601024 ∧ slots + 6 ≤ 7293034)
    (hend : ∀ (μ ν : va_M) (f : Nat → Int64) (H : Heap) (locs : List Loc) (ls : Array Slot), LW9 μ ν → LW dC dI cI cL cII cR cZ cIII cO h0 μ ν f H → va_S (lA h0) s.heap H locs → lv_has ls 7 [(4, .int (iZ i)), (0, .ref b), (1, .ref h0), (2, .ref (h0 + 233)), (3, .ref (h0 + 6558))] → W p l e room_1 s m #[Value.ref b] below meth c H locs (cells + 1) (slots + 6) (lw_Z below #[Value.ref b] s) (F0 m 1468 ls []))
    {H : Heap} {locs : List Loc} {ls : Array Slot} (hW : LW dC dI cI cL cII cR cZ cIII cO h0 μ ν f H) (hS : va_S (lA h0) s.heap H locs) (hl : lv_has ls 7 [(4, .int (iZ i)), (0, .ref b), (1, .ref h0), (2, .ref (h0 + 233)), (3, .ref (h0 + 6558))]) : W p l e room_1 s m #[Value.ref b] below meth c H locs cells slots (lw_Z below #[Value.ref b] s) (F0 m 565 ls []) := by
  obtain ⟨hfl, hx, hb, hml, hown, hts, hX, hbl, hsz0, hL9, hK, hKm, hKo, hM, hEx, hNc⟩ := C0
  obtain ⟨T, Ss, Wk, Bs, hT⟩ := hV
  have hT : LWt T Ss Wk Bs μ ν := hT
  have hT0 := hT
  have hbA : ¬ lA h0 b := Nat.not_le.mpr (by (first | ((try clear hbA); (try clear hT0); (try clear hT); (try clear Bs); (try clear Wk); (try clear Ss); (try clear hend); (try clear hroom); (try clear hi); omega) | omega))
  obtain ⟨a1, e1, ha1⟩ := iZ_ex (xs (iZ (i + 1)).toNatClampNeg)
  obtain ⟨a2, e2, ha2⟩ := iZ_ex (xs (iZ (i + 2)).toNatClampNeg)
  refine lv_aload_n hx hb dL_law_565 rfl (lv_at hl 2 rfl) ?_
  refine lv_aload_n hx hb dL_law_566 rfl (lv_at hl 1 rfl) ?_
  refine lv_iload hx hb dL_law_567 (lv_at hl 0 rfl) ?_
  refine lv_iconst (v := iZ 1) hx hb dL_law_569 rfl ?_
  refine lv_iadd hx hb dL_law_570 ?_
  refine lv_topi (fun x9 ex9 => ?_)
  obtain rfl : x9 = iZ (i + 1) := ex9.trans (iZ_add _ _)
  refine va_sld hx hb hX hbl hbA hS (iZ_in (by (first | ((try clear ex9); (try clear ha2); (try clear e2); (try clear ha1); (try clear e1); (try clear hbA); (try clear hT0); (try clear hT); (try clear Bs); (try clear Wk); (try clear Ss); (try clear hsz0); (try clear hend); (try clear hroom); omega) | omega)) (by (first | ((try clear ex9); (try clear ha2); (try clear e2); (try clear ha1); (try clear e1); (try clear hbA); (try clear hT0); (try clear hT); (try clear Bs); (try clear Wk); (try clear Ss); (try clear hsz0); (try clear hend); (try clear hroom); omega) | omega)) (by (first | ((try clear ex9); (try clear ha2); (try clear e2); (try clear ha1); (try clear e1); (try clear hbA); (try clear hT0); (try clear hT); (try clear Bs); (try clear Wk); (try clear Ss); (try clear hsz0); (try clear hend); (try clear hroom); (try clear hi); omega) | omega))) dL_law_571 ?_
  refine lv_topi (fun x9 ex9 => ?_)
  obtain rfl : x9 = iZ a1 := ex9.trans e1
  refine lv_aload_n hx hb dL_law_572 rfl (lv_at hl 1 rfl) ?_
  refine lv_iload hx hb dL_law_573 (lv_at hl 0 rfl) ?_
  refine lv_iconst (v := iZ 2) hx hb dL_law_575 rfl ?_
  refine lv_iadd hx hb dL_law_576 ?_
  refine lv_topi (fun x9 ex9 => ?_)
  obtain rfl : x9 = iZ (i + 2) := ex9.trans (iZ_add _ _)
  refine va_sld hx hb hX hbl hbA hS (iZ_in (by (first | ((try clear ex9); (try clear ha2); (try clear e2); (try clear ha1); (try clear e1); (try clear hbA); (try clear hT0); (try clear hT); (try clear Bs); (try clear Wk); (try clear Ss); (try clear hsz0); (try clear hend); (try clear hroom); omega) | omega)) (by (first | ((try clear ex9); (try clear ha2); (try clear e2); (try clear ha1); (try clear e1); (try clear hbA); (try clear hT0); (try clear hT); (try clear Bs); (try clear Wk); (try clear Ss); (try clear hsz0); (try clear hend); (try clear hroom); omega) | omega)) (by (first | ((try clear ex9); (try clear ha2); (try clear e2); (try clear ha1); (try clear e1); (try clear hbA); (try clear hT0); (try clear hT); (try clear Bs); (try clear Wk); (try clear Ss); (try clear hsz0); (try clear hend); (try clear hroom); (try clear hi); omega) | omega))) dL_law_577 ?_
  refine lv_topi (fun x9 ex9 => ?_)
  obtain rfl : x9 = iZ a2 := ex9.trans e2
  refine lv_aload_n hx hb dL_law_578 rfl (lv_at hl 4 rfl) ?_
  refine va_calli (vx_runSW (hh := [(0, 10, 13, 20), (0, 10, 17, 13)]) (As := [.ref h0, .int (iZ a1), .int (iZ a2), .ref (h0 + 6558)]) (rest := []) ⟨hx, hb, hml, hown, hts⟩ (w_node l hfl dC dI cI cL cII cR cO h0 (h0 + 6558) H.size μ f a1 a2 T (hT.1.1.1.1.1) ha1 ha2 (by (first | ((try clear ex9); (try clear ha2); (try clear e2); (try clear ha1); (try clear e1); (try clear hbA); (try clear hT0); (try clear hT); (try clear Bs); (try clear Wk); (try clear Ss); (try clear hsz0); (try clear hend); (try clear hroom); (try clear hi); omega) | omega))) (vx_cwSW 4 hts (gW_G k907 k908 k0 k909) rfl rfl rfl (by decide +kernel) ⟨Nat.le_of_ble_eq_true rfl, Nat.le_of_ble_eq_true rfl⟩) ⟨fun a U g mk q => by obtain ⟨q0, q1, qP, qO, qK, qKo, qM, qE, qN⟩ := q; exact ⟨q0, q1, qP, qO, va_K.moved (u := U) (U := U.calling g mk a) (Vm.Alike.refl U.vm) qK, va_K.moved (u := U) (U := U.calling g mk a) (Vm.Alike.refl U.vm) qKo, qM, xX_call qE, qN⟩, fun U hU hW9 => ⟨rfl, by rw [hU], by rw [hU]; exact hW.1, by rw [hU]; exact hW.2.2, va_K.moved hW9.alike hK, va_K.moved hW9.alike hKo, xM_warm hW9 hM, xX_at hEx hS (fun q h => lA_w hS hsz0 (by (first | ((try clear h); (try clear q); (try clear hU); (try clear U); (try clear mk); (try clear g); (try clear ex9); (try clear ha2); (try clear e2); (try clear ha1); (try clear e1); (try clear hbA); (try clear hT0); (try clear hT); (try clear Bs); (try clear Wk); (try clear Ss); (try clear hsz0); (try clear hend); (try clear hroom); (try clear hi); omega) | omega)) q h) hU hW9, xNC_warm hW9 hNc⟩⟩ rfl rfl hl.1 rfl (lv_room (Nat.le_of_ble_eq_true rfl)) dL_law_579 ⟨by show cells + 1 ≤ 601024; (first | ((try clear ex9); (try clear ha2); (try clear e2); (try clear ha1); (try clear e1); (try clear hbA); (try clear hT0); (try clear hT); (try clear Bs); (try clear Wk); (try clear Ss); (try clear hsz0); (try clear hend); (try clear hi); omega) | omega), by show slots + 6 ≤ 7293034; (first | ((try clear ex9); (try clear ha2); (try clear e2); (try clear ha1); (try clear e1); (try clear hbA); (try clear hT0); (try clear hT); (try clear Bs); (try clear Wk); (try clear Ss); (try clear hsz0); (try clear hend); (try clear hi); omega) | omega)⟩) hS (fun q _ h => lA_w hS hsz0 (by (first | ((try clear h); (try clear ex9); (try clear ha2); (try clear e2); (try clear ha1); (try clear e1); (try clear hbA); (try clear hT0); (try clear hT); (try clear Bs); (try clear Wk); (try clear Ss); (try clear hsz0); (try clear hend); (try clear hroom); (try clear hi); omega) | omega)) q h) (lA_w hS hsz0 (by (first | ((try clear ex9); (try clear ha2); (try clear e2); (try clear ha1); (try clear e1); (try clear hbA); (try clear hT0); (try clear hT); (try clear Bs); (try clear Wk); (try clear Ss); (try clear hsz0); (try clear hend); (try clear hroom); (try clear hi); omega) | omega))) (fun r1 u9 t9 H1 locs ht9 hvm9 hw9 hB9 hz9 hk9 hS => ?_)
  obtain ⟨hP9, hO9⟩ := hB9
  rw [ht9] at hP9 hO9
  have hW := LW_w hW hk9 hP9 hO9
  have hT := LWt_c hT hw9
  obtain ⟨u1, f1⟩ := u9
  try dsimp only at hW hT
  clear hk9 hP9 hO9
  generalize H1 = H at hW hS ⊢
  refine lv_istore (lv' := [(5, .int r1), (4, .int (iZ i)), (0, .ref b), (1, .ref h0), (2, .ref (h0 + 233)), (3, .ref (h0 + 6558))]) hx hb dL_law_582 hl (by decide) rfl (fun ls hl => ?_)
  refine lv_aload_n hx hb dL_law_584 rfl (lv_at hl 4 rfl) ?_
  refine lv_aload_n hx hb dL_law_585 rfl (lv_at hl 2 rfl) ?_
  refine lv_iload hx hb dL_law_586 (lv_at hl 1 rfl) ?_
  refine lv_iconst (v := iZ 1) hx hb dL_law_588 rfl ?_
  refine lv_iadd hx hb dL_law_589 ?_
  refine lv_topi (fun x9 ex9 => ?_)
  obtain rfl : x9 = iZ (i + 1) := ex9.trans (iZ_add _ _)
  refine va_sld hx hb hX hbl hbA hS (iZ_in (by (first | ((try clear ex9); (try clear f1); (try clear u1); (try clear hT); (try clear hO9); (try clear hP9); (try clear hz9); (try clear r1); (try clear ha2); (try clear e2); (try clear ha1); (try clear e1); (try clear hbA); (try clear hT0); (try clear Bs); (try clear Wk); (try clear Ss); (try clear hsz0); (try clear hend); (try clear hroom); omega) | omega)) (by (first | ((try clear ex9); (try clear f1); (try clear u1); (try clear hT); (try clear hO9); (try clear hP9); (try clear hz9); (try clear r1); (try clear ha2); (try clear e2); (try clear ha1); (try clear e1); (try clear hbA); (try clear hT0); (try clear Bs); (try clear Wk); (try clear Ss); (try clear hsz0); (try clear hend); (try clear hroom); omega) | omega)) (by (first | ((try clear ex9); (try clear f1); (try clear u1); (try clear hT); (try clear hO9); (try clear hP9); (try clear hz9); (try clear r1); (try clear ha2); (try clear e2); (try clear ha1); (try clear e1); (try clear hbA); (try clear hT0); (try clear Bs); (try clear Wk); (try clear Ss); (try clear hsz0); (try clear hend); (try clear hroom); (try clear hi); omega) | omega))) dL_law_590 ?_
  refine lv_topi (fun x9 ex9 => ?_)
  obtain rfl : x9 = iZ a1 := ex9.trans e1
  refine lv_aload_n hx hb dL_law_591 rfl (lv_at hl 2 rfl) ?_
  refine lv_iload hx hb dL_law_592 (lv_at hl 1 rfl) ?_
  refine lv_iconst (v := iZ 2) hx hb dL_law_594 rfl ?_
  refine lv_iadd hx hb dL_law_595 ?_
  refine lv_topi (fun x9 ex9 => ?_)
  obtain rfl : x9 = iZ (i + 2) := ex9.trans (iZ_add _ _)
  refine va_sld hx hb hX hbl hbA hS (iZ_in (by (first | ((try clear ex9); (try clear f1); (try clear u1); (try clear hT); (try clear hO9); (try clear hP9); (try clear hz9); (try clear r1); (try clear ha2); (try clear e2); (try clear ha1); (try clear e1); (try clear hbA); (try clear hT0); (try clear Bs); (try clear Wk); (try clear Ss); (try clear hsz0); (try clear hend); (try clear hroom); omega) | omega)) (by (first | ((try clear ex9); (try clear f1); (try clear u1); (try clear hT); (try clear hO9); (try clear hP9); (try clear hz9); (try clear r1); (try clear ha2); (try clear e2); (try clear ha1); (try clear e1); (try clear hbA); (try clear hT0); (try clear Bs); (try clear Wk); (try clear Ss); (try clear hsz0); (try clear hend); (try clear hroom); omega) | omega)) (by (first | ((try clear ex9); (try clear f1); (try clear u1); (try clear hT); (try clear hO9); (try clear hP9); (try clear hz9); (try clear r1); (try clear ha2); (try clear e2); (try clear ha1); (try clear e1); (try clear hbA); (try clear hT0); (try clear Bs); (try clear Wk); (try clear Ss); (try clear hsz0); (try clear hend); (try clear hroom); (try clear hi); omega) | omega))) dL_law_596 ?_
  refine lv_topi (fun x9 ex9 => ?_)
  obtain rfl : x9 = iZ a2 := ex9.trans e2
  refine va_calli (va_runV (As := [.int (iZ a1), .int (iZ a2)]) (rest := []) ⟨hx, hb, hml, hown, hts⟩ (m_node l dC dI cI cZ cII cIII (h0 + 233) H.size ν a1 a2 hT.1.1.1.1.2.1.1 ha1 ha2) (cwV 2 hts (gV_G k1619 k1620 k1621 k13 k1622) rfl rfl rfl (by decide +kernel) ⟨Nat.le_of_ble_eq_true rfl, Nat.le_of_ble_eq_true rfl⟩) ⟨fun a U g mk q => by obtain ⟨q0, q1, qP, qK⟩ := q; exact ⟨q0, q1, qP, va_K.moved (u := U) (U := U.calling g mk a) (Vm.Alike.refl U.vm) qK⟩, va_recv hKm hW.2.1 (ci := 10) (q0 := 0) rfl ((fw_get (by decide)).trans (by rw [mE_obj])), fun U hU hW9 => ⟨rfl, by rw [hU], by rw [hU]; exact hW.2.1, va_K.moved hW9.alike hKm⟩⟩ rfl rfl hl.1 rfl (lv_room (Nat.le_of_ble_eq_true rfl)) dL_law_597 ⟨by show cells + 1 + 0 ≤ 601024; (first | ((try clear ex9); (try clear f1); (try clear u1); (try clear hT); (try clear hO9); (try clear hP9); (try clear hz9); (try clear r1); (try clear ha2); (try clear e2); (try clear ha1); (try clear e1); (try clear hbA); (try clear hT0); (try clear Bs); (try clear Wk); (try clear Ss); (try clear hsz0); (try clear hend); (try clear hi); omega) | omega), by show slots + 6 + 0 ≤ 7293034; (first | ((try clear ex9); (try clear f1); (try clear u1); (try clear hT); (try clear hO9); (try clear hP9); (try clear hz9); (try clear r1); (try clear ha2); (try clear e2); (try clear ha1); (try clear e1); (try clear hbA); (try clear hT0); (try clear Bs); (try clear Wk); (try clear Ss); (try clear hsz0); (try clear hend); (try clear hi); omega) | omega)⟩) hS (fun q _ h => lA_f hS hsz0 (by (first | ((try clear h); (try clear ex9); (try clear f1); (try clear u1); (try clear hT); (try clear hO9); (try clear hP9); (try clear hz9); (try clear r1); (try clear ha2); (try clear e2); (try clear ha1); (try clear e1); (try clear hbA); (try clear hT0); (try clear Bs); (try clear Wk); (try clear Ss); (try clear hsz0); (try clear hend); (try clear hroom); (try clear hi); omega) | omega)) q h) (lA_f hS hsz0 (by (first | ((try clear ex9); (try clear f1); (try clear u1); (try clear hT); (try clear hO9); (try clear hP9); (try clear hz9); (try clear r1); (try clear ha2); (try clear e2); (try clear ha1); (try clear e1); (try clear hbA); (try clear hT0); (try clear Bs); (try clear Wk); (try clear Ss); (try clear hsz0); (try clear hend); (try clear hroom); (try clear hi); omega) | omega))) (fun r2 u9 t9 H1 locs ht9 hvm9 hw9 hB9 hz9 hk9 hS => ?_)
  obtain ⟨hP9, -⟩ := hB9
  rw [ht9] at hP9
  have hW := LW_m hW hk9 hP9
  obtain ⟨v1, q2⟩ := u9
  obtain ⟨er9, hw9⟩ := hw9
  have er2 : r2 = iZ q2 := er9
  subst er2
  have hT := LWt_ps hT hw9
  try dsimp only at hW hT
  clear hk9 hP9
  generalize H1 = H at hW hS ⊢
  refine lv_istore (lv' := [(6, .int (iZ q2)), (5, .int r1), (4, .int (iZ i)), (0, .ref b), (1, .ref h0), (2, .ref (h0 + 233)), (3, .ref (h0 + 6558))]) hx hb dL_law_600 hl (by decide) rfl (fun ls hl => ?_)
  refine lv_goto (tgt := 1468) hx hb dL_law_602 (by decide) ?_
  have hV9 : LW9 u1 v1 := ⟨T, Ss, Wk, Bs, hT⟩
  refine W.widen (k := cells + 1) (n := slots + 6) (by (first | ((try clear hT); (try clear er2); (try clear er9); (try clear q2); (try clear v1); (try clear hP9); (try clear hz9); (try clear r2); (try clear ex9); (try clear f1); (try clear u1); (try clear hO9); (try clear r1); (try clear ha2); (try clear e2); (try clear ha1); (try clear e1); (try clear hbA); (try clear hT0); (try clear Bs); (try clear Wk); (try clear Ss); (try clear hsz0); (try clear hend); (try clear hroom); (try clear hi); omega) | omega)) (by (first | ((try clear hT); (try clear er2); (try clear er9); (try clear q2); (try clear v1); (try clear hP9); (try clear hz9); (try clear r2); (try clear ex9); (try clear f1); (try clear u1); (try clear hO9); (try clear r1); (try clear ha2); (try clear e2); (try clear ha1); (try clear e1); (try clear hbA); (try clear hT0); (try clear Bs); (try clear Wk); (try clear Ss); (try clear hsz0); (try clear hend); (try clear hroom); (try clear hi); omega) | omega)) ?_
  exact hend _ _ _ H locs ls hV9 hW hS (lv_sub hl [2, 3, 4, 5, 6] rfl)
set_option maxHeartbeats 4000000 in
set_option maxRecDepth 100000 in
theorem lc_pageNode {p : Program} {l : Launch} {e : Env} {s : State} {m : MethodId} {below : List Frame} {meth : Method} {c : Code} {dC : Nat → ClassId} {dI : Nat → Nat → Nat} {cI cL cII cR cZ cIII cO : ClassId} {h0 b L : Nat} {xs : Nat → Int32} (C0 : lx_C p l s m c b L xs dC dI cI cL cII cR cZ cIII cO h0) {i : Int} (hi : 0 ≤ i ∧ i + 6 ≤ L) {μ ν : va_M} {f : Nat → Int64} (hV : LW9 μ ν) {cells slots : Nat} (hroom : cells + 1 ≤ 601024 ∧ slots + 6 ≤ 7293034)
    (hend : ∀ (μ ν : va_M) (f : Nat → Int64) (H : Heap) (locs : List Loc) (ls : Array Slot), LW9 μ ν → LW dC dI cI cL cII cR cZ cIII cO h0 μ ν f H → va_S (lA h0) s.heap H locs → lv_has ls 7 [(4, .int (iZ i)), (0, .ref b), (1, .ref h0), (2, .ref (h0 + 233)), (3, .ref (h0 + 6558))] → W p l e room_1 s m #[Value.ref b] below meth c H locs (cells + 1) (slots + 6) (lw_Z below #[Value.ref b] s) (F0 m 1468 ls []))
    {H : Heap} {locs : List Loc} {ls : Array Slot} (hW : LW dC dI cI cL cII cR cZ cIII cO h0 μ ν f H) (hS : va_S (lA h0) s.heap H locs) (hl : lv_has ls 7 [(4, .int (iZ i)), (0, .ref b), (1, .ref h0), (2, .ref (h0 + 233)), (3, .ref (h0 + 6558))]) : W p l e room_1 s m #[Value.ref b] below meth c H locs cells slots (lw_Z below #[Value.ref b] s) (F0 m 605 ls []) := by
  obtain ⟨hfl, hx, hb, hml, hown, hts, hX, hbl, hsz0, hL9, hK, hKm, hKo, hM, hEx, hNc⟩ := C0
  obtain ⟨T, Ss, Wk, Bs, hT⟩ := hV
  have hT : LWt T Ss Wk Bs μ ν := hT
  have hT0 := hT
  have hbA : ¬ lA h0 b := Nat.not_le.mpr (by (first | ((try clear hbA); (try clear hT0); (try clear hT); (try clear Bs); (try clear Wk); (try clear Ss); (try clear hend); (try clear hroom); (try clear hi); omega) | omega))
  obtain ⟨a1, e1, ha1⟩ := iZ_ex (xs (iZ (i + 1)).toNatClampNeg)
  obtain ⟨a2, e2, ha2⟩ := iZ_ex (xs (iZ (i + 2)).toNatClampNeg)
  obtain ⟨a3, e3, ha3⟩ := iZ_ex (xs (iZ (i + 3)).toNatClampNeg)
  refine lv_aload_n hx hb dL_law_605 rfl (lv_at hl 2 rfl) ?_
  refine lv_aload_n hx hb dL_law_606 rfl (lv_at hl 1 rfl) ?_
  refine lv_iload hx hb dL_law_607 (lv_at hl 0 rfl) ?_
  refine lv_iconst (v := iZ 1) hx hb dL_law_609 rfl ?_
  refine lv_iadd hx hb dL_law_610 ?_
  refine lv_topi (fun x9 ex9 => ?_)
  obtain rfl : x9 = iZ (i + 1) := ex9.trans (iZ_add _ _)
  refine va_sld hx hb hX hbl hbA hS (iZ_in (by (first | ((try clear ex9); (try clear ha3); (try clear e3); (try clear ha2); (try clear e2); (try clear ha1); (try clear e1); (try clear hbA); (try clear hT0); (try clear hT); (try clear Bs); (try clear Wk); (try clear Ss); (try clear hsz0); (try clear hend); (try clear hroom); omega) | omega)) (by (first | ((try clear ex9); (try clear ha3); (try clear e3); (try clear ha2); (try clear e2); (try clear ha1); (try clear e1); (try clear hbA); (try clear hT0); (try clear hT); (try clear Bs); (try clear Wk); (try clear Ss); (try clear hsz0); (try clear hend); (try clear hroom); omega) | omega)) (by (first | ((try clear ex9); (try clear ha3); (try clear e3); (try clear ha2); (try clear e2); (try clear ha1); (try clear e1); (try clear hbA); (try clear hT0); (try clear hT); (try clear Bs); (try clear Wk); (try clear Ss); (try clear hsz0); (try clear hend); (try clear hroom); (try clear hi); omega) | omega))) dL_law_611 ?_
  refine lv_topi (fun x9 ex9 => ?_)
  obtain rfl : x9 = iZ a1 := ex9.trans e1
  refine lv_aload_n hx hb dL_law_612 rfl (lv_at hl 1 rfl) ?_
  refine lv_iload hx hb dL_law_613 (lv_at hl 0 rfl) ?_
  refine lv_iconst (v := iZ 2) hx hb dL_law_615 rfl ?_
  refine lv_iadd hx hb dL_law_616 ?_
  refine lv_topi (fun x9 ex9 => ?_)
  obtain rfl : x9 = iZ (i + 2) := ex9.trans (iZ_add _ _)
  refine va_sld hx hb hX hbl hbA hS (iZ_in (by (first | ((try clear ex9); (try clear ha3); (try clear e3); (try clear ha2); (try clear e2); (try clear ha1); (try clear e1); (try clear hbA); (try clear hT0); (try clear hT); (try clear Bs); (try clear Wk); (try clear Ss); (try clear hsz0); (try clear hend); (try clear hroom); omega) | omega)) (by (first | ((try clear ex9); (try clear ha3); (try clear e3); (try clear ha2); (try clear e2); (try clear ha1); (try clear e1); (try clear hbA); (try clear hT0); (try clear hT); (try clear Bs); (try clear Wk); (try clear Ss); (try clear hsz0); (try clear hend); (try clear hroom); omega) | omega)) (by (first | ((try clear ex9); (try clear ha3); (try clear e3); (try clear ha2); (try clear e2); (try clear ha1); (try clear e1); (try clear hbA); (try clear hT0); (try clear hT); (try clear Bs); (try clear Wk); (try clear Ss); (try clear hsz0); (try clear hend); (try clear hroom); (try clear hi); omega) | omega))) dL_law_617 ?_
  refine lv_topi (fun x9 ex9 => ?_)
  obtain rfl : x9 = iZ a2 := ex9.trans e2
  refine lv_aload_n hx hb dL_law_618 rfl (lv_at hl 1 rfl) ?_
  refine lv_iload hx hb dL_law_619 (lv_at hl 0 rfl) ?_
  refine lv_iconst (v := iZ 3) hx hb dL_law_621 rfl ?_
  refine lv_iadd hx hb dL_law_622 ?_
  refine lv_topi (fun x9 ex9 => ?_)
  obtain rfl : x9 = iZ (i + 3) := ex9.trans (iZ_add _ _)
  refine va_sld hx hb hX hbl hbA hS (iZ_in (by (first | ((try clear ex9); (try clear ha3); (try clear e3); (try clear ha2); (try clear e2); (try clear ha1); (try clear e1); (try clear hbA); (try clear hT0); (try clear hT); (try clear Bs); (try clear Wk); (try clear Ss); (try clear hsz0); (try clear hend); (try clear hroom); omega) | omega)) (by (first | ((try clear ex9); (try clear ha3); (try clear e3); (try clear ha2); (try clear e2); (try clear ha1); (try clear e1); (try clear hbA); (try clear hT0); (try clear hT); (try clear Bs); (try clear Wk); (try clear Ss); (try clear hsz0); (try clear hend); (try clear hroom); omega) | omega)) (by (first | ((try clear ex9); (try clear ha3); (try clear e3); (try clear ha2); (try clear e2); (try clear ha1); (try clear e1); (try clear hbA); (try clear hT0); (try clear hT); (try clear Bs); (try clear Wk); (try clear Ss); (try clear hsz0); (try clear hend); (try clear hroom); (try clear hi); omega) | omega))) dL_law_623 ?_
  refine lv_topi (fun x9 ex9 => ?_)
  obtain rfl : x9 = iZ a3 := ex9.trans e3
  refine lv_aload_n hx hb dL_law_624 rfl (lv_at hl 4 rfl) ?_
  refine va_calli (vx_runSW (hh := [(0, 12, 15, 20), (0, 12, 19, 13)]) (As := [.ref h0, .int (iZ a1), .int (iZ a2), .int (iZ a3), .ref (h0 + 6558)]) (rest := []) ⟨hx, hb, hml, hown, hts⟩ (w_pageNode l hfl dC dI cI cL cII cR cO h0 (h0 + 6558) H.size μ f a1 a2 a3 T (hT.1.1.1.1.1) ha1 ha2 ha3 (by (first | ((try clear ex9); (try clear ha3); (try clear e3); (try clear ha2); (try clear e2); (try clear ha1); (try clear e1); (try clear hbA); (try clear hT0); (try clear hT); (try clear Bs); (try clear Wk); (try clear Ss); (try clear hsz0); (try clear hend); (try clear hroom); (try clear hi); omega) | omega))) (vx_cwSW 5 hts (gW_G k941 k942 k0 k943) rfl rfl rfl (by decide +kernel) ⟨Nat.le_of_ble_eq_true rfl, Nat.le_of_ble_eq_true rfl⟩) ⟨fun a U g mk q => by obtain ⟨q0, q1, qP, qO, qK, qKo, qM, qE, qN⟩ := q; exact ⟨q0, q1, qP, qO, va_K.moved (u := U) (U := U.calling g mk a) (Vm.Alike.refl U.vm) qK, va_K.moved (u := U) (U := U.calling g mk a) (Vm.Alike.refl U.vm) qKo, qM, xX_call qE, qN⟩, fun U hU hW9 => ⟨rfl, by rw [hU], by rw [hU]; exact hW.1, by rw [hU]; exact hW.2.2, va_K.moved hW9.alike hK, va_K.moved hW9.alike hKo, xM_warm hW9 hM, xX_at hEx hS (fun q h => lA_w hS hsz0 (by (first | ((try clear h); (try clear q); (try clear hU); (try clear U); (try clear mk); (try clear g); (try clear ex9); (try clear ha3); (try clear e3); (try clear ha2); (try clear e2); (try clear ha1); (try clear e1); (try clear hbA); (try clear hT0); (try clear hT); (try clear Bs); (try clear Wk); (try clear Ss); (try clear hsz0); (try clear hend); (try clear hroom); (try clear hi); omega) | omega)) q h) hU hW9, xNC_warm hW9 hNc⟩⟩ rfl rfl hl.1 rfl (lv_room (Nat.le_of_ble_eq_true rfl)) dL_law_625 ⟨by show cells + 1 ≤ 601024; (first | ((try clear ex9); (try clear ha3); (try clear e3); (try clear ha2); (try clear e2); (try clear ha1); (try clear e1); (try clear hbA); (try clear hT0); (try clear hT); (try clear Bs); (try clear Wk); (try clear Ss); (try clear hsz0); (try clear hend); (try clear hi); omega) | omega), by show slots + 6 ≤ 7293034; (first | ((try clear ex9); (try clear ha3); (try clear e3); (try clear ha2); (try clear e2); (try clear ha1); (try clear e1); (try clear hbA); (try clear hT0); (try clear hT); (try clear Bs); (try clear Wk); (try clear Ss); (try clear hsz0); (try clear hend); (try clear hi); omega) | omega)⟩) hS (fun q _ h => lA_w hS hsz0 (by (first | ((try clear h); (try clear ex9); (try clear ha3); (try clear e3); (try clear ha2); (try clear e2); (try clear ha1); (try clear e1); (try clear hbA); (try clear hT0); (try clear hT); (try clear Bs); (try clear Wk); (try clear Ss); (try clear hsz0); (try clear hend); (try clear hroom); (try clear hi); omega) | omega)) q h) (lA_w hS hsz0 (by (first | ((try clear ex9); (try clear ha3); (try clear e3); (try clear ha2); (try clear e2); (try clear ha1); (try clear e1); (try clear hbA); (try clear hT0); (try clear hT); (try clear Bs); (try clear Wk); (try clear Ss); (try clear hsz0); (try clear hend); (try clear hroom); (try clear hi); omega) | omega))) (fun r1 u9 t9 H1 locs ht9 hvm9 hw9 hB9 hz9 hk9 hS => ?_)
  obtain ⟨hP9, hO9⟩ := hB9
  rw [ht9] at hP9 hO9
  have hW := LW_w hW hk9 hP9 hO9
  have hT := LWt_c hT hw9
  obtain ⟨u1, f1⟩ := u9
  try dsimp only at hW hT
  clear hk9 hP9 hO9
  generalize H1 = H at hW hS ⊢
  refine lv_istore (lv' := [(5, .int r1), (4, .int (iZ i)), (0, .ref b), (1, .ref h0), (2, .ref (h0 + 233)), (3, .ref (h0 + 6558))]) hx hb dL_law_628 hl (by decide) rfl (fun ls hl => ?_)
  refine lv_aload_n hx hb dL_law_630 rfl (lv_at hl 4 rfl) ?_
  refine lv_aload_n hx hb dL_law_631 rfl (lv_at hl 2 rfl) ?_
  refine lv_iload hx hb dL_law_632 (lv_at hl 1 rfl) ?_
  refine lv_iconst (v := iZ 1) hx hb dL_law_634 rfl ?_
  refine lv_iadd hx hb dL_law_635 ?_
  refine lv_topi (fun x9 ex9 => ?_)
  obtain rfl : x9 = iZ (i + 1) := ex9.trans (iZ_add _ _)
  refine va_sld hx hb hX hbl hbA hS (iZ_in (by (first | ((try clear ex9); (try clear f1); (try clear u1); (try clear hT); (try clear hO9); (try clear hP9); (try clear hz9); (try clear r1); (try clear ha3); (try clear e3); (try clear ha2); (try clear e2); (try clear ha1); (try clear e1); (try clear hbA); (try clear hT0); (try clear Bs); (try clear Wk); (try clear Ss); (try clear hsz0); (try clear hend); (try clear hroom); omega) | omega)) (by (first | ((try clear ex9); (try clear f1); (try clear u1); (try clear hT); (try clear hO9); (try clear hP9); (try clear hz9); (try clear r1); (try clear ha3); (try clear e3); (try clear ha2); (try clear e2); (try clear ha1); (try clear e1); (try clear hbA); (try clear hT0); (try clear Bs); (try clear Wk); (try clear Ss); (try clear hsz0); (try clear hend); (try clear hroom); omega) | omega)) (by (first | ((try clear ex9); (try clear f1); (try clear u1); (try clear hT); (try clear hO9); (try clear hP9); (try clear hz9); (try clear r1); (try clear ha3); (try clear e3); (try clear ha2); (try clear e2); (try clear ha1); (try clear e1); (try clear hbA); (try clear hT0); (try clear Bs); (try clear Wk); (try clear Ss); (try clear hsz0); (try clear hend); (try clear hroom); (try clear hi); omega) | omega))) dL_law_636 ?_
  refine lv_topi (fun x9 ex9 => ?_)
  obtain rfl : x9 = iZ a1 := ex9.trans e1
  refine lv_aload_n hx hb dL_law_637 rfl (lv_at hl 2 rfl) ?_
  refine lv_iload hx hb dL_law_638 (lv_at hl 1 rfl) ?_
  refine lv_iconst (v := iZ 2) hx hb dL_law_640 rfl ?_
  refine lv_iadd hx hb dL_law_641 ?_
  refine lv_topi (fun x9 ex9 => ?_)
  obtain rfl : x9 = iZ (i + 2) := ex9.trans (iZ_add _ _)
  refine va_sld hx hb hX hbl hbA hS (iZ_in (by (first | ((try clear ex9); (try clear f1); (try clear u1); (try clear hT); (try clear hO9); (try clear hP9); (try clear hz9); (try clear r1); (try clear ha3); (try clear e3); (try clear ha2); (try clear e2); (try clear ha1); (try clear e1); (try clear hbA); (try clear hT0); (try clear Bs); (try clear Wk); (try clear Ss); (try clear hsz0); (try clear hend); (try clear hroom); omega) | omega)) (by (first | ((try clear ex9); (try clear f1); (try clear u1); (try clear hT); (try clear hO9); (try clear hP9); (try clear hz9); (try clear r1); (try clear ha3); (try clear e3); (try clear ha2); (try clear e2); (try clear ha1); (try clear e1); (try clear hbA); (try clear hT0); (try clear Bs); (try clear Wk); (try clear Ss); (try clear hsz0); (try clear hend); (try clear hroom); omega) | omega)) (by (first | ((try clear ex9); (try clear f1); (try clear u1); (try clear hT); (try clear hO9); (try clear hP9); (try clear hz9); (try clear r1); (try clear ha3); (try clear e3); (try clear ha2); (try clear e2); (try clear ha1); (try clear e1); (try clear hbA); (try clear hT0); (try clear Bs); (try clear Wk); (try clear Ss); (try clear hsz0); (try clear hend); (try clear hroom); (try clear hi); omega) | omega))) dL_law_642 ?_
  refine lv_topi (fun x9 ex9 => ?_)
  obtain rfl : x9 = iZ a2 := ex9.trans e2
  refine lv_aload_n hx hb dL_law_643 rfl (lv_at hl 2 rfl) ?_
  refine lv_iload hx hb dL_law_644 (lv_at hl 1 rfl) ?_
  refine lv_iconst (v := iZ 3) hx hb dL_law_646 rfl ?_
  refine lv_iadd hx hb dL_law_647 ?_
  refine lv_topi (fun x9 ex9 => ?_)
  obtain rfl : x9 = iZ (i + 3) := ex9.trans (iZ_add _ _)
  refine va_sld hx hb hX hbl hbA hS (iZ_in (by (first | ((try clear ex9); (try clear f1); (try clear u1); (try clear hT); (try clear hO9); (try clear hP9); (try clear hz9); (try clear r1); (try clear ha3); (try clear e3); (try clear ha2); (try clear e2); (try clear ha1); (try clear e1); (try clear hbA); (try clear hT0); (try clear Bs); (try clear Wk); (try clear Ss); (try clear hsz0); (try clear hend); (try clear hroom); omega) | omega)) (by (first | ((try clear ex9); (try clear f1); (try clear u1); (try clear hT); (try clear hO9); (try clear hP9); (try clear hz9); (try clear r1); (try clear ha3); (try clear e3); (try clear ha2); (try clear e2); (try clear ha1); (try clear e1); (try clear hbA); (try clear hT0); (try clear Bs); (try clear Wk); (try clear Ss); (try clear hsz0); (try clear hend); (try clear hroom); omega) | omega)) (by (first | ((try clear ex9); (try clear f1); (try clear u1); (try clear hT); (try clear hO9); (try clear hP9); (try clear hz9); (try clear r1); (try clear ha3); (try clear e3); (try clear ha2); (try clear e2); (try clear ha1); (try clear e1); (try clear hbA); (try clear hT0); (try clear Bs); (try clear Wk); (try clear Ss); (try clear hsz0); (try clear hend); (try clear hroom); (try clear hi); omega) | omega))) dL_law_648 ?_
  refine lv_topi (fun x9 ex9 => ?_)
  obtain rfl : x9 = iZ a3 := ex9.trans e3
  refine va_calli (va_runV (As := [.int (iZ a1), .int (iZ a2), .int (iZ a3)]) (rest := []) ⟨hx, hb, hml, hown, hts⟩ (m_pageNode l dC dI cI cZ cII cIII (h0 + 233) H.size ν a1 a2 a3 hT.1.1.1.1.2.1.1 ha1 ha2 ha3) (cwV 3 hts (gV_G k1635 k1636 k1637 k13 k1638) rfl rfl rfl (by decide +kernel) ⟨Nat.le_of_ble_eq_true rfl, Nat.le_of_ble_eq_true rfl⟩) ⟨fun a U g mk q => by obtain ⟨q0, q1, qP, qK⟩ := q; exact ⟨q0, q1, qP, va_K.moved (u := U) (U := U.calling g mk a) (Vm.Alike.refl U.vm) qK⟩, va_recv hKm hW.2.1 (ci := 10) (q0 := 0) rfl ((fw_get (by decide)).trans (by rw [mE_obj])), fun U hU hW9 => ⟨rfl, by rw [hU], by rw [hU]; exact hW.2.1, va_K.moved hW9.alike hKm⟩⟩ rfl rfl hl.1 rfl (lv_room (Nat.le_of_ble_eq_true rfl)) dL_law_649 ⟨by show cells + 1 + 0 ≤ 601024; (first | ((try clear ex9); (try clear f1); (try clear u1); (try clear hT); (try clear hO9); (try clear hP9); (try clear hz9); (try clear r1); (try clear ha3); (try clear e3); (try clear ha2); (try clear e2); (try clear ha1); (try clear e1); (try clear hbA); (try clear hT0); (try clear Bs); (try clear Wk); (try clear Ss); (try clear hsz0); (try clear hend); (try clear hi); omega) | omega), by show slots + 6 + 0 ≤ 7293034; (first | ((try clear ex9); (try clear f1); (try clear u1); (try clear hT); (try clear hO9); (try clear hP9); (try clear hz9); (try clear r1); (try clear ha3); (try clear e3); (try clear ha2); (try clear e2); (try clear ha1); (try clear e1); (try clear hbA); (try clear hT0); (try clear Bs); (try clear Wk); (try clear Ss); (try clear hsz0); (try clear hend); (try clear hi); omega) | omega)⟩) hS (fun q _ h => lA_f hS hsz0 (by (first | ((try clear h); (try clear ex9); (try clear f1); (try clear u1); (try clear hT); (try clear hO9); (try clear hP9); (try clear hz9); (try clear r1); (try clear ha3); (try clear e3); (try clear ha2); (try clear e2); (try clear ha1); (try clear e1); (try clear hbA); (try clear hT0); (try clear Bs); (try clear Wk); (try clear Ss); (try clear hsz0); (try clear hend); (try clear hroom); (try clear hi); omega) | omega)) q h) (lA_f hS hsz0 (by (first | ((try clear ex9); (try clear f1); (try clear u1); (try clear hT); (try clear hO9); (try clear hP9); (try clear hz9); (try clear r1); (try clear ha3); (try clear e3); (try clear ha2); (try clear e2); (try clear ha1); (try clear e1); (try clear hbA); (try clear hT0); (try clear Bs); (try clear Wk); (try clear Ss); (try clear hsz0); (try clear hend); (try clear hroom); (try clear hi); omega) | omega))) (fun r2 u9 t9 H1 locs ht9 hvm9 hw9 hB9 hz9 hk9 hS => ?_)
  obtain ⟨hP9, -⟩ := hB9
  rw [ht9] at hP9
  have hW := LW_m hW hk9 hP9
  obtain ⟨v1, q2⟩ := u9
  obtain ⟨er9, hw9⟩ := hw9
  have er2 : r2 = iZ q2 := er9
  subst er2
  have hT := LWt_ps hT hw9
  try dsimp only at hW hT
  clear hk9 hP9
  generalize H1 = H at hW hS ⊢
  refine lv_istore (lv' := [(6, .int (iZ q2)), (5, .int r1), (4, .int (iZ i)), (0, .ref b), (1, .ref h0), (2, .ref (h0 + 233)), (3, .ref (h0 + 6558))]) hx hb dL_law_652 hl (by decide) rfl (fun ls hl => ?_)
  refine lv_goto (tgt := 1468) hx hb dL_law_654 (by decide) ?_
  have hV9 : LW9 u1 v1 := ⟨T, Ss, Wk, Bs, hT⟩
  refine W.widen (k := cells + 1) (n := slots + 6) (by (first | ((try clear hT); (try clear er2); (try clear er9); (try clear q2); (try clear v1); (try clear hP9); (try clear hz9); (try clear r2); (try clear ex9); (try clear f1); (try clear u1); (try clear hO9); (try clear r1); (try clear ha3); (try clear e3); (try clear ha2); (try clear e2); (try clear ha1); (try clear e1); (try clear hbA); (try clear hT0); (try clear Bs); (try clear Wk); (try clear Ss); (try clear hsz0); (try clear hend); (try clear hroom); (try clear hi); omega) | omega)) (by (first | ((try clear hT); (try clear er2); (try clear er9); (try clear q2); (try clear v1); (try clear hP9); (try clear hz9); (try clear r2); (try clear ex9); (try clear f1); (try clear u1); (try clear hO9); (try clear r1); (try clear ha3); (try clear e3); (try clear ha2); (try clear e2); (try clear ha1); (try clear e1); (try clear hbA); (try clear hT0); (try clear Bs); (try clear Wk); (try clear Ss); (try clear hsz0); (try clear hend); (try clear hroom); (try clear hi); omega) | omega)) ?_
  exact hend _ _ _ H locs ls hV9 hW hS (lv_sub hl [2, 3, 4, 5, 6] rfl)
set_option maxHeartbeats 4000000 in
set_option maxRecDepth 100000 in
theorem lc_fits {p : Program} {l : Launch} {e : Env} {s : State} {m : MethodId} {below : List Frame} {meth : Method} {c : Code} {dC : Nat → ClassId} {dI : Nat → Nat → Nat} {cI cL cII cR cZ cIII cO : ClassId} {h0 b L : Nat} {xs : Nat → Int32} (C0 : lx_C p l s m c b L xs dC dI cI cL cII cR cZ cIII cO h0) {i : Int} (hi : 0 ≤ i ∧ i + 6 ≤ L) {μ ν : va_M} {f : Nat → Int64} (hV : LW9 μ ν) {cells slots : Nat} (hroom : cells + 1 ≤ 601024 ∧ slots + 6 ≤ 7293034)
    (hend : ∀ (μ ν : va_M) (f : Nat → Int64) (H : Heap) (locs : List Loc) (ls : Array Slot), LW9 μ ν → LW dC dI cI cL cII cR cZ cIII cO h0 μ ν f H → va_S (lA h0) s.heap H locs → lv_has ls 7 [(4, .int (iZ i)), (0, .ref b), (1, .ref h0), (2, .ref (h0 + 233)), (3, .ref (h0 + 6558))] → W p l e room_1 s m #[Value.ref b] below meth c H locs (cells + 1) (slots + 6) (lw_Z below #[Value.ref b] s) (F0 m 1468 ls []))
    {H : Heap} {locs : List Loc} {ls : Array Slot} (hW : LW dC dI cI cL cII cR cZ cIII cO h0 μ ν f H) (hS : va_S (lA h0) s.heap H locs) (hl : lv_has ls 7 [(4, .int (iZ i)), (0, .ref b), (1, .ref h0), (2, .ref (h0 + 233)), (3, .ref (h0 + 6558))]) : W p l e room_1 s m #[Value.ref b] below meth c H locs cells slots (lw_Z below #[Value.ref b] s) (F0 m 657 ls []) := by
  obtain ⟨hfl, hx, hb, hml, hown, hts, hX, hbl, hsz0, hL9, hK, hKm, hKo, hM, hEx, hNc⟩ := C0
  obtain ⟨T, Ss, Wk, Bs, hT⟩ := hV
  have hT : LWt T Ss Wk Bs μ ν := hT
  have hT0 := hT
  have hbA : ¬ lA h0 b := Nat.not_le.mpr (by (first | ((try clear hbA); (try clear hT0); (try clear hT); (try clear Bs); (try clear Wk); (try clear Ss); (try clear hend); (try clear hroom); (try clear hi); omega) | omega))
  obtain ⟨a1, e1, ha1⟩ := iZ_ex (xs (iZ (i + 1)).toNatClampNeg)
  refine lv_aload_n hx hb dL_law_657 rfl (lv_at hl 2 rfl) ?_
  refine lv_aload_n hx hb dL_law_658 rfl (lv_at hl 1 rfl) ?_
  refine lv_iload hx hb dL_law_659 (lv_at hl 0 rfl) ?_
  refine lv_iconst (v := iZ 1) hx hb dL_law_661 rfl ?_
  refine lv_iadd hx hb dL_law_662 ?_
  refine lv_topi (fun x9 ex9 => ?_)
  obtain rfl : x9 = iZ (i + 1) := ex9.trans (iZ_add _ _)
  refine va_sld hx hb hX hbl hbA hS (iZ_in (by (first | ((try clear ex9); (try clear ha1); (try clear e1); (try clear hbA); (try clear hT0); (try clear hT); (try clear Bs); (try clear Wk); (try clear Ss); (try clear hsz0); (try clear hend); (try clear hroom); omega) | omega)) (by (first | ((try clear ex9); (try clear ha1); (try clear e1); (try clear hbA); (try clear hT0); (try clear hT); (try clear Bs); (try clear Wk); (try clear Ss); (try clear hsz0); (try clear hend); (try clear hroom); omega) | omega)) (by (first | ((try clear ex9); (try clear ha1); (try clear e1); (try clear hbA); (try clear hT0); (try clear hT); (try clear Bs); (try clear Wk); (try clear Ss); (try clear hsz0); (try clear hend); (try clear hroom); (try clear hi); omega) | omega))) dL_law_663 ?_
  refine lv_topi (fun x9 ex9 => ?_)
  obtain rfl : x9 = iZ a1 := ex9.trans e1
  refine lv_aload_n hx hb dL_law_664 rfl (lv_at hl 4 rfl) ?_
  refine va_calli (vx_runSW (hh := [(0, 16, 19, 20)]) (As := [.ref h0, .int (iZ a1), .ref (h0 + 6558)]) (rest := []) ⟨hx, hb, hml, hown, hts⟩ (w_fits l hfl dC dI cI cL cII cR cO h0 (h0 + 6558) H.size μ f a1 T (hT.1.1.1.1.1) ha1 (by (first | ((try clear ex9); (try clear ha1); (try clear e1); (try clear hbA); (try clear hT0); (try clear hT); (try clear Bs); (try clear Wk); (try clear Ss); (try clear hsz0); (try clear hend); (try clear hroom); (try clear hi); omega) | omega))) (vx_cwSW 3 hts (gW_G k948 k949 k0 k950) rfl rfl rfl (by decide +kernel) ⟨Nat.le_of_ble_eq_true rfl, Nat.le_of_ble_eq_true rfl⟩) ⟨fun a U g mk q => by obtain ⟨q0, q1, qP, qO, qK, qKo, qM, qE, qN⟩ := q; exact ⟨q0, q1, qP, qO, va_K.moved (u := U) (U := U.calling g mk a) (Vm.Alike.refl U.vm) qK, va_K.moved (u := U) (U := U.calling g mk a) (Vm.Alike.refl U.vm) qKo, qM, xX_call qE, qN⟩, fun U hU hW9 => ⟨rfl, by rw [hU], by rw [hU]; exact hW.1, by rw [hU]; exact hW.2.2, va_K.moved hW9.alike hK, va_K.moved hW9.alike hKo, xM_warm hW9 hM, xX_at hEx hS (fun q h => lA_w hS hsz0 (by (first | ((try clear h); (try clear q); (try clear hU); (try clear U); (try clear mk); (try clear g); (try clear ex9); (try clear ha1); (try clear e1); (try clear hbA); (try clear hT0); (try clear hT); (try clear Bs); (try clear Wk); (try clear Ss); (try clear hsz0); (try clear hend); (try clear hroom); (try clear hi); omega) | omega)) q h) hU hW9, xNC_warm hW9 hNc⟩⟩ rfl rfl hl.1 rfl (lv_room (Nat.le_of_ble_eq_true rfl)) dL_law_665 ⟨by show cells + 1 ≤ 601024; (first | ((try clear ex9); (try clear ha1); (try clear e1); (try clear hbA); (try clear hT0); (try clear hT); (try clear Bs); (try clear Wk); (try clear Ss); (try clear hsz0); (try clear hend); (try clear hi); omega) | omega), by show slots + 6 ≤ 7293034; (first | ((try clear ex9); (try clear ha1); (try clear e1); (try clear hbA); (try clear hT0); (try clear hT); (try clear Bs); (try clear Wk); (try clear Ss); (try clear hsz0); (try clear hend); (try clear hi); omega) | omega)⟩) hS (fun q _ h => lA_w hS hsz0 (by (first | ((try clear h); (try clear ex9); (try clear ha1); (try clear e1); (try clear hbA); (try clear hT0); (try clear hT); (try clear Bs); (try clear Wk); (try clear Ss); (try clear hsz0); (try clear hend); (try clear hroom); (try clear hi); omega) | omega)) q h) (lA_w hS hsz0 (by (first | ((try clear ex9); (try clear ha1); (try clear e1); (try clear hbA); (try clear hT0); (try clear hT); (try clear Bs); (try clear Wk); (try clear Ss); (try clear hsz0); (try clear hend); (try clear hroom); (try clear hi); omega) | omega))) (fun r1 u9 t9 H1 locs ht9 hvm9 hw9 hB9 hz9 hk9 hS => ?_)
  obtain ⟨hP9, hO9⟩ := hB9
  rw [ht9] at hP9 hO9
  have hW := LW_w hW hk9 hP9 hO9
  have hT := LWt_c hT hw9
  obtain ⟨u1, f1⟩ := u9
  try dsimp only at hW hT
  clear hk9 hP9 hO9
  generalize H1 = H at hW hS ⊢
  refine lv_istore (lv' := [(5, .int r1), (4, .int (iZ i)), (0, .ref b), (1, .ref h0), (2, .ref (h0 + 233)), (3, .ref (h0 + 6558))]) hx hb dL_law_668 hl (by decide) rfl (fun ls hl => ?_)
  refine lv_aload_n hx hb dL_law_670 rfl (lv_at hl 4 rfl) ?_
  refine lv_aload_n hx hb dL_law_671 rfl (lv_at hl 2 rfl) ?_
  refine lv_iload hx hb dL_law_672 (lv_at hl 1 rfl) ?_
  refine lv_iconst (v := iZ 1) hx hb dL_law_674 rfl ?_
  refine lv_iadd hx hb dL_law_675 ?_
  refine lv_topi (fun x9 ex9 => ?_)
  obtain rfl : x9 = iZ (i + 1) := ex9.trans (iZ_add _ _)
  refine va_sld hx hb hX hbl hbA hS (iZ_in (by (first | ((try clear ex9); (try clear f1); (try clear u1); (try clear hT); (try clear hO9); (try clear hP9); (try clear hz9); (try clear r1); (try clear ha1); (try clear e1); (try clear hbA); (try clear hT0); (try clear Bs); (try clear Wk); (try clear Ss); (try clear hsz0); (try clear hend); (try clear hroom); omega) | omega)) (by (first | ((try clear ex9); (try clear f1); (try clear u1); (try clear hT); (try clear hO9); (try clear hP9); (try clear hz9); (try clear r1); (try clear ha1); (try clear e1); (try clear hbA); (try clear hT0); (try clear Bs); (try clear Wk); (try clear Ss); (try clear hsz0); (try clear hend); (try clear hroom); omega) | omega)) (by (first | ((try clear ex9); (try clear f1); (try clear u1); (try clear hT); (try clear hO9); (try clear hP9); (try clear hz9); (try clear r1); (try clear ha1); (try clear e1); (try clear hbA); (try clear hT0); (try clear Bs); (try clear Wk); (try clear Ss); (try clear hsz0); (try clear hend); (try clear hroom); (try clear hi); omega) | omega))) dL_law_676 ?_
  refine lv_topi (fun x9 ex9 => ?_)
  obtain rfl : x9 = iZ a1 := ex9.trans e1
  refine va_calli (va_runV (As := [.int (iZ a1)]) (rest := []) ⟨hx, hb, hml, hown, hts⟩ (m_fits l dC dI cI cZ cII cIII (h0 + 233) H.size ν a1 hT.1.1.1.1.2.1.1 ha1) (cwV 1 hts (gV_G k1643 k1644 k1645 k13 k1646) rfl rfl rfl (by decide +kernel) ⟨Nat.le_of_ble_eq_true rfl, Nat.le_of_ble_eq_true rfl⟩) ⟨fun a U g mk q => by obtain ⟨q0, q1, qP, qK⟩ := q; exact ⟨q0, q1, qP, va_K.moved (u := U) (U := U.calling g mk a) (Vm.Alike.refl U.vm) qK⟩, va_recv hKm hW.2.1 (ci := 10) (q0 := 0) rfl ((fw_get (by decide)).trans (by rw [mE_obj])), fun U hU hW9 => ⟨rfl, by rw [hU], by rw [hU]; exact hW.2.1, va_K.moved hW9.alike hKm⟩⟩ rfl rfl hl.1 rfl (lv_room (Nat.le_of_ble_eq_true rfl)) dL_law_677 ⟨by show cells + 1 + 0 ≤ 601024; (first | ((try clear ex9); (try clear f1); (try clear u1); (try clear hT); (try clear hO9); (try clear hP9); (try clear hz9); (try clear r1); (try clear ha1); (try clear e1); (try clear hbA); (try clear hT0); (try clear Bs); (try clear Wk); (try clear Ss); (try clear hsz0); (try clear hend); (try clear hi); omega) | omega), by show slots + 6 + 0 ≤ 7293034; (first | ((try clear ex9); (try clear f1); (try clear u1); (try clear hT); (try clear hO9); (try clear hP9); (try clear hz9); (try clear r1); (try clear ha1); (try clear e1); (try clear hbA); (try clear hT0); (try clear Bs); (try clear Wk); (try clear Ss); (try clear hsz0); (try clear hend); (try clear hi); omega) | omega)⟩) hS (fun q _ h => lA_f hS hsz0 (by (first | ((try clear h); (try clear ex9); (try clear f1); (try clear u1); (try clear hT); (try clear hO9); (try clear hP9); (try clear hz9); (try clear r1); (try clear ha1); (try clear e1); (try clear hbA); (try clear hT0); (try clear Bs); (try clear Wk); (try clear Ss); (try clear hsz0); (try clear hend); (try clear hroom); (try clear hi); omega) | omega)) q h) (lA_f hS hsz0 (by (first | ((try clear ex9); (try clear f1); (try clear u1); (try clear hT); (try clear hO9); (try clear hP9); (try clear hz9); (try clear r1); (try clear ha1); (try clear e1); (try clear hbA); (try clear hT0); (try clear Bs); (try clear Wk); (try clear Ss); (try clear hsz0); (try clear hend); (try clear hroom); (try clear hi); omega) | omega))) (fun r2 u9 t9 H1 locs ht9 hvm9 hw9 hB9 hz9 hk9 hS => ?_)
  obtain ⟨hP9, -⟩ := hB9
  rw [ht9] at hP9
  have hW := LW_m hW hk9 hP9
  obtain ⟨v1, q2⟩ := u9
  obtain ⟨er9, hw9⟩ := hw9
  have er2 : r2 = iZ q2 := er9
  subst er2
  have hT := LWt_ps hT hw9
  try dsimp only at hW hT
  clear hk9 hP9
  generalize H1 = H at hW hS ⊢
  refine lv_istore (lv' := [(6, .int (iZ q2)), (5, .int r1), (4, .int (iZ i)), (0, .ref b), (1, .ref h0), (2, .ref (h0 + 233)), (3, .ref (h0 + 6558))]) hx hb dL_law_680 hl (by decide) rfl (fun ls hl => ?_)
  refine lv_goto (tgt := 1468) hx hb dL_law_682 (by decide) ?_
  have hV9 : LW9 u1 v1 := ⟨T, Ss, Wk, Bs, hT⟩
  refine W.widen (k := cells + 1) (n := slots + 6) (by (first | ((try clear hT); (try clear er2); (try clear er9); (try clear q2); (try clear v1); (try clear hP9); (try clear hz9); (try clear r2); (try clear ex9); (try clear f1); (try clear u1); (try clear hO9); (try clear r1); (try clear ha1); (try clear e1); (try clear hbA); (try clear hT0); (try clear Bs); (try clear Wk); (try clear Ss); (try clear hsz0); (try clear hend); (try clear hroom); (try clear hi); omega) | omega)) (by (first | ((try clear hT); (try clear er2); (try clear er9); (try clear q2); (try clear v1); (try clear hP9); (try clear hz9); (try clear r2); (try clear ex9); (try clear f1); (try clear u1); (try clear hO9); (try clear r1); (try clear ha1); (try clear e1); (try clear hbA); (try clear hT0); (try clear Bs); (try clear Wk); (try clear Ss); (try clear hsz0); (try clear hend); (try clear hroom); (try clear hi); omega) | omega)) ?_
  exact hend _ _ _ H locs ls hV9 hW hS (lv_sub hl [2, 3, 4, 5, 6] rfl)
set_option maxHeartbeats 4000000 in
set_option maxRecDepth 100000 in
theorem lc_reach {p : Program} {l : Launch} {e : Env} {s : State} {m : MethodId} {below : List Frame} {meth : Method} {c : Code} {dC : Nat → ClassId} {dI : Nat → Nat → Nat} {cI cL cII cR cZ cIII cO : ClassId} {h0 b L : Nat} {xs : Nat → Int32} (C0 : lx_C p l s m c b L xs dC dI cI cL cII cR cZ cIII cO h0) {i : Int} (hi : 0 ≤ i ∧ i + 6 ≤ L) {μ ν : va_M} {f : Nat → Int64} (hV : LW9 μ ν) {cells slots : Nat} (hroom : cells + 1 ≤ 601024 ∧ slots + 6 ≤ 7293034)
    (hend : ∀ (μ ν : va_M) (f : Nat → Int64) (H : Heap) (locs : List Loc) (ls : Array Slot), LW9 μ ν → LW dC dI cI cL cII cR cZ cIII cO h0 μ ν f H → va_S (lA h0) s.heap H locs → lv_has ls 7 [(4, .int (iZ i)), (0, .ref b), (1, .ref h0), (2, .ref (h0 + 233)), (3, .ref (h0 + 6558))] → W p l e room_1 s m #[Value.ref b] below meth c H locs (cells + 1) (slots + 6) (lw_Z below #[Value.ref b] s) (F0 m 1468 ls []))
    {H : Heap} {locs : List Loc} {ls : Array Slot} (hW : LW dC dI cI cL cII cR cZ cIII cO h0 μ ν f H) (hS : va_S (lA h0) s.heap H locs) (hl : lv_has ls 7 [(4, .int (iZ i)), (0, .ref b), (1, .ref h0), (2, .ref (h0 + 233)), (3, .ref (h0 + 6558))]) : W p l e room_1 s m #[Value.ref b] below meth c H locs cells slots (lw_Z below #[Value.ref b] s) (F0 m 685 ls []) := by
  obtain ⟨hfl, hx, hb, hml, hown, hts, hX, hbl, hsz0, hL9, hK, hKm, hKo, hM, hEx, hNc⟩ := C0
  obtain ⟨T, Ss, Wk, Bs, hT⟩ := hV
  have hT : LWt T Ss Wk Bs μ ν := hT
  have hT0 := hT
  have hbA : ¬ lA h0 b := Nat.not_le.mpr (by (first | ((try clear hbA); (try clear hT0); (try clear hT); (try clear Bs); (try clear Wk); (try clear Ss); (try clear hend); (try clear hroom); (try clear hi); omega) | omega))
  obtain ⟨a1, e1, ha1⟩ := iZ_ex (xs (iZ (i + 1)).toNatClampNeg)
  refine lv_aload_n hx hb dL_law_685 rfl (lv_at hl 2 rfl) ?_
  refine lv_aload_n hx hb dL_law_686 rfl (lv_at hl 1 rfl) ?_
  refine lv_iload hx hb dL_law_687 (lv_at hl 0 rfl) ?_
  refine lv_iconst (v := iZ 1) hx hb dL_law_689 rfl ?_
  refine lv_iadd hx hb dL_law_690 ?_
  refine lv_topi (fun x9 ex9 => ?_)
  obtain rfl : x9 = iZ (i + 1) := ex9.trans (iZ_add _ _)
  refine va_sld hx hb hX hbl hbA hS (iZ_in (by (first | ((try clear ex9); (try clear ha1); (try clear e1); (try clear hbA); (try clear hT0); (try clear hT); (try clear Bs); (try clear Wk); (try clear Ss); (try clear hsz0); (try clear hend); (try clear hroom); omega) | omega)) (by (first | ((try clear ex9); (try clear ha1); (try clear e1); (try clear hbA); (try clear hT0); (try clear hT); (try clear Bs); (try clear Wk); (try clear Ss); (try clear hsz0); (try clear hend); (try clear hroom); omega) | omega)) (by (first | ((try clear ex9); (try clear ha1); (try clear e1); (try clear hbA); (try clear hT0); (try clear hT); (try clear Bs); (try clear Wk); (try clear Ss); (try clear hsz0); (try clear hend); (try clear hroom); (try clear hi); omega) | omega))) dL_law_691 ?_
  refine lv_topi (fun x9 ex9 => ?_)
  obtain rfl : x9 = iZ a1 := ex9.trans e1
  refine lv_aload_n hx hb dL_law_692 rfl (lv_at hl 4 rfl) ?_
  refine va_calli (vx_runSW (hh := [(0, 9, 12, 20)]) (As := [.ref h0, .int (iZ a1), .ref (h0 + 6558)]) (rest := []) ⟨hx, hb, hml, hown, hts⟩ (w_reach l hfl dC dI cI cL cII cR cO h0 (h0 + 6558) H.size μ f a1 T (hT.1.1.1.1.1) ha1 (by (first | ((try clear ex9); (try clear ha1); (try clear e1); (try clear hbA); (try clear hT0); (try clear hT); (try clear Bs); (try clear Wk); (try clear Ss); (try clear hsz0); (try clear hend); (try clear hroom); (try clear hi); omega) | omega))) (vx_cwSW 3 hts (gW_G k955 k956 k0 k957) rfl rfl rfl (by decide +kernel) ⟨Nat.le_of_ble_eq_true rfl, Nat.le_of_ble_eq_true rfl⟩) ⟨fun a U g mk q => by obtain ⟨q0, q1, qP, qO, qK, qKo, qM, qE, qN⟩ := q; exact ⟨q0, q1, qP, qO, va_K.moved (u := U) (U := U.calling g mk a) (Vm.Alike.refl U.vm) qK, va_K.moved (u := U) (U := U.calling g mk a) (Vm.Alike.refl U.vm) qKo, qM, xX_call qE, qN⟩, fun U hU hW9 => ⟨rfl, by rw [hU], by rw [hU]; exact hW.1, by rw [hU]; exact hW.2.2, va_K.moved hW9.alike hK, va_K.moved hW9.alike hKo, xM_warm hW9 hM, xX_at hEx hS (fun q h => lA_w hS hsz0 (by (first | ((try clear h); (try clear q); (try clear hU); (try clear U); (try clear mk); (try clear g); (try clear ex9); (try clear ha1); (try clear e1); (try clear hbA); (try clear hT0); (try clear hT); (try clear Bs); (try clear Wk); (try clear Ss); (try clear hsz0); (try clear hend); (try clear hroom); (try clear hi); omega) | omega)) q h) hU hW9, xNC_warm hW9 hNc⟩⟩ rfl rfl hl.1 rfl (lv_room (Nat.le_of_ble_eq_true rfl)) dL_law_693 ⟨by show cells + 1 ≤ 601024; (first | ((try clear ex9); (try clear ha1); (try clear e1); (try clear hbA); (try clear hT0); (try clear hT); (try clear Bs); (try clear Wk); (try clear Ss); (try clear hsz0); (try clear hend); (try clear hi); omega) | omega), by show slots + 6 ≤ 7293034; (first | ((try clear ex9); (try clear ha1); (try clear e1); (try clear hbA); (try clear hT0); (try clear hT); (try clear Bs); (try clear Wk); (try clear Ss); (try clear hsz0); (try clear hend); (try clear hi); omega) | omega)⟩) hS (fun q _ h => lA_w hS hsz0 (by (first | ((try clear h); (try clear ex9); (try clear ha1); (try clear e1); (try clear hbA); (try clear hT0); (try clear hT); (try clear Bs); (try clear Wk); (try clear Ss); (try clear hsz0); (try clear hend); (try clear hroom); (try clear hi); omega) | omega)) q h) (lA_w hS hsz0 (by (first | ((try clear ex9); (try clear ha1); (try clear e1); (try clear hbA); (try clear hT0); (try clear hT); (try clear Bs); (try clear Wk); (try clear Ss); (try clear hsz0); (try clear hend); (try clear hroom); (try clear hi); omega) | omega))) (fun r1 u9 t9 H1 locs ht9 hvm9 hw9 hB9 hz9 hk9 hS => ?_)
  obtain ⟨hP9, hO9⟩ := hB9
  rw [ht9] at hP9 hO9
  have hW := LW_w hW hk9 hP9 hO9
  have hT := LWt_c hT hw9
  obtain ⟨u1, f1⟩ := u9
  try dsimp only at hW hT
  clear hk9 hP9 hO9
  generalize H1 = H at hW hS ⊢
  refine lv_istore (lv' := [(5, .int r1), (4, .int (iZ i)), (0, .ref b), (1, .ref h0), (2, .ref (h0 + 233)), (3, .ref (h0 + 6558))]) hx hb dL_law_696 hl (by decide) rfl (fun ls hl => ?_)
  refine lv_aload_n hx hb dL_law_698 rfl (lv_at hl 4 rfl) ?_
  refine lv_aload_n hx hb dL_law_699 rfl (lv_at hl 2 rfl) ?_
  refine lv_iload hx hb dL_law_700 (lv_at hl 1 rfl) ?_
  refine lv_iconst (v := iZ 1) hx hb dL_law_702 rfl ?_
  refine lv_iadd hx hb dL_law_703 ?_
  refine lv_topi (fun x9 ex9 => ?_)
  obtain rfl : x9 = iZ (i + 1) := ex9.trans (iZ_add _ _)
  refine va_sld hx hb hX hbl hbA hS (iZ_in (by (first | ((try clear ex9); (try clear f1); (try clear u1); (try clear hT); (try clear hO9); (try clear hP9); (try clear hz9); (try clear r1); (try clear ha1); (try clear e1); (try clear hbA); (try clear hT0); (try clear Bs); (try clear Wk); (try clear Ss); (try clear hsz0); (try clear hend); (try clear hroom); omega) | omega)) (by (first | ((try clear ex9); (try clear f1); (try clear u1); (try clear hT); (try clear hO9); (try clear hP9); (try clear hz9); (try clear r1); (try clear ha1); (try clear e1); (try clear hbA); (try clear hT0); (try clear Bs); (try clear Wk); (try clear Ss); (try clear hsz0); (try clear hend); (try clear hroom); omega) | omega)) (by (first | ((try clear ex9); (try clear f1); (try clear u1); (try clear hT); (try clear hO9); (try clear hP9); (try clear hz9); (try clear r1); (try clear ha1); (try clear e1); (try clear hbA); (try clear hT0); (try clear Bs); (try clear Wk); (try clear Ss); (try clear hsz0); (try clear hend); (try clear hroom); (try clear hi); omega) | omega))) dL_law_704 ?_
  refine lv_topi (fun x9 ex9 => ?_)
  obtain rfl : x9 = iZ a1 := ex9.trans e1
  refine va_calli (va_runV (As := [.int (iZ a1)]) (rest := []) ⟨hx, hb, hml, hown, hts⟩ (m_reach l dC dI cI cZ cII cIII (h0 + 233) H.size ν a1 hT.1.1.1.1.2.1.1 ha1) (cwV 1 hts (gV_G k1651 k1652 k1653 k13 k1654) rfl rfl rfl (by decide +kernel) ⟨Nat.le_of_ble_eq_true rfl, Nat.le_of_ble_eq_true rfl⟩) ⟨fun a U g mk q => by obtain ⟨q0, q1, qP, qK⟩ := q; exact ⟨q0, q1, qP, va_K.moved (u := U) (U := U.calling g mk a) (Vm.Alike.refl U.vm) qK⟩, va_recv hKm hW.2.1 (ci := 10) (q0 := 0) rfl ((fw_get (by decide)).trans (by rw [mE_obj])), fun U hU hW9 => ⟨rfl, by rw [hU], by rw [hU]; exact hW.2.1, va_K.moved hW9.alike hKm⟩⟩ rfl rfl hl.1 rfl (lv_room (Nat.le_of_ble_eq_true rfl)) dL_law_705 ⟨by show cells + 1 + 0 ≤ 601024; (first | ((try clear ex9); (try clear f1); (try clear u1); (try clear hT); (try clear hO9); (try clear hP9); (try clear hz9); (try clear r1); (try clear ha1); (try clear e1); (try clear hbA); (try clear hT0); (try clear Bs); (try clear Wk); (try clear Ss); (try clear hsz0); (try clear hend); (try clear hi); omega) | omega), by show slots + 6 + 0 ≤ 7293034; (first | ((try clear ex9); (try clear f1); (try clear u1); (try clear hT); (try clear hO9); (try clear hP9); (try clear hz9); (try clear r1); (try clear ha1); (try clear e1); (try clear hbA); (try clear hT0); (try clear Bs); (try clear Wk); (try clear Ss); (try clear hsz0); (try clear hend); (try clear hi); omega) | omega)⟩) hS (fun q _ h => lA_f hS hsz0 (by (first | ((try clear h); (try clear ex9); (try clear f1); (try clear u1); (try clear hT); (try clear hO9); (try clear hP9); (try clear hz9); (try clear r1); (try clear ha1); (try clear e1); (try clear hbA); (try clear hT0); (try clear Bs); (try clear Wk); (try clear Ss); (try clear hsz0); (try clear hend); (try clear hroom); (try clear hi); omega) | omega)) q h) (lA_f hS hsz0 (by (first | ((try clear ex9); (try clear f1); (try clear u1); (try clear hT); (try clear hO9); (try clear hP9); (try clear hz9); (try clear r1); (try clear ha1); (try clear e1); (try clear hbA); (try clear hT0); (try clear Bs); (try clear Wk); (try clear Ss); (try clear hsz0); (try clear hend); (try clear hroom); (try clear hi); omega) | omega))) (fun r2 u9 t9 H1 locs ht9 hvm9 hw9 hB9 hz9 hk9 hS => ?_)
  obtain ⟨hP9, -⟩ := hB9
  rw [ht9] at hP9
  have hW := LW_m hW hk9 hP9
  obtain ⟨v1, q2⟩ := u9
  obtain ⟨er9, hw9⟩ := hw9
  have er2 : r2 = iZ q2 := er9
  subst er2
  have hT := LWt_ps hT hw9
  try dsimp only at hW hT
  clear hk9 hP9
  generalize H1 = H at hW hS ⊢
  refine lv_istore (lv' := [(6, .int (iZ q2)), (5, .int r1), (4, .int (iZ i)), (0, .ref b), (1, .ref h0), (2, .ref (h0 + 233)), (3, .ref (h0 + 6558))]) hx hb dL_law_708 hl (by decide) rfl (fun ls hl => ?_)
  refine lv_goto (tgt := 1468) hx hb dL_law_710 (by decide) ?_
  have hV9 : LW9 u1 v1 := ⟨T, Ss, Wk, Bs, hT⟩
  refine W.widen (k := cells + 1) (n := slots + 6) (by (first | ((try clear hT); (try clear er2); (try clear er9); (try clear q2); (try clear v1); (try clear hP9); (try clear hz9); (try clear r2); (try clear ex9); (try clear f1); (try clear u1); (try clear hO9); (try clear r1); (try clear ha1); (try clear e1); (try clear hbA); (try clear hT0); (try clear Bs); (try clear Wk); (try clear Ss); (try clear hsz0); (try clear hend); (try clear hroom); (try clear hi); omega) | omega)) (by (first | ((try clear hT); (try clear er2); (try clear er9); (try clear q2); (try clear v1); (try clear hP9); (try clear hz9); (try clear r2); (try clear ex9); (try clear f1); (try clear u1); (try clear hO9); (try clear r1); (try clear ha1); (try clear e1); (try clear hbA); (try clear hT0); (try clear Bs); (try clear Wk); (try clear Ss); (try clear hsz0); (try clear hend); (try clear hroom); (try clear hi); omega) | omega)) ?_
  exact hend _ _ _ H locs ls hV9 hW hS (lv_sub hl [2, 3, 4, 5, 6] rfl)
set_option maxHeartbeats 4000000 in
set_option maxRecDepth 100000 in
theorem lc_ways {p : Program} {l : Launch} {e : Env} {s : State} {m : MethodId} {below : List Frame} {meth : Method} {c : Code} {dC : Nat → ClassId} {dI : Nat → Nat → Nat} {cI cL cII cR cZ cIII cO : ClassId} {h0 b L : Nat} {xs : Nat → Int32} (C0 : lx_C p l s m c b L xs dC dI cI cL cII cR cZ cIII cO h0) {i : Int} (hi : 0 ≤ i ∧ i + 6 ≤ L) {μ ν : va_M} {f : Nat → Int64} (hV : LW9 μ ν) {cells slots : Nat} (hroom : cells + 1 ≤ 601024 ∧ slots + 6 ≤ 7293034)
    (hend : ∀ (μ ν : va_M) (f : Nat → Int64) (H : Heap) (locs : List Loc) (ls : Array Slot), LW9 μ ν → LW dC dI cI cL cII cR cZ cIII cO h0 μ ν f H → va_S (lA h0) s.heap H locs → lv_has ls 7 [(4, .int (iZ i)), (0, .ref b), (1, .ref h0), (2, .ref (h0 + 233)), (3, .ref (h0 + 6558))] → W p l e room_1 s m #[Value.ref b] below meth c H locs (cells + 1) (slots + 6) (lw_Z below #[Value.ref b] s) (F0 m 1468 ls []))
    {H : Heap} {locs : List Loc} {ls : Array Slot} (hW : LW dC dI cI cL cII cR cZ cIII cO h0 μ ν f H) (hS : va_S (lA h0) s.heap H locs) (hl : lv_has ls 7 [(4, .int (iZ i)), (0, .ref b), (1, .ref h0), (2, .ref (h0 + 233)), (3, .ref (h0 + 6558))]) : W p l e room_1 s m #[Value.ref b] below meth c H locs cells slots (lw_Z below #[Value.ref b] s) (F0 m 713 ls []) := by
  obtain ⟨hfl, hx, hb, hml, hown, hts, hX, hbl, hsz0, hL9, hK, hKm, hKo, hM, hEx, hNc⟩ := C0
  obtain ⟨T, Ss, Wk, Bs, hT⟩ := hV
  have hT : LWt T Ss Wk Bs μ ν := hT
  have hT0 := hT
  have hbA : ¬ lA h0 b := Nat.not_le.mpr (by (first | ((try clear hbA); (try clear hT0); (try clear hT); (try clear Bs); (try clear Wk); (try clear Ss); (try clear hend); (try clear hroom); (try clear hi); omega) | omega))
  obtain ⟨a1, e1, ha1⟩ := iZ_ex (xs (iZ (i + 1)).toNatClampNeg)
  refine lv_aload_n hx hb dL_law_713 rfl (lv_at hl 2 rfl) ?_
  refine lv_aload_n hx hb dL_law_714 rfl (lv_at hl 1 rfl) ?_
  refine lv_iload hx hb dL_law_715 (lv_at hl 0 rfl) ?_
  refine lv_iconst (v := iZ 1) hx hb dL_law_717 rfl ?_
  refine lv_iadd hx hb dL_law_718 ?_
  refine lv_topi (fun x9 ex9 => ?_)
  obtain rfl : x9 = iZ (i + 1) := ex9.trans (iZ_add _ _)
  refine va_sld hx hb hX hbl hbA hS (iZ_in (by (first | ((try clear ex9); (try clear ha1); (try clear e1); (try clear hbA); (try clear hT0); (try clear hT); (try clear Bs); (try clear Wk); (try clear Ss); (try clear hsz0); (try clear hend); (try clear hroom); omega) | omega)) (by (first | ((try clear ex9); (try clear ha1); (try clear e1); (try clear hbA); (try clear hT0); (try clear hT); (try clear Bs); (try clear Wk); (try clear Ss); (try clear hsz0); (try clear hend); (try clear hroom); omega) | omega)) (by (first | ((try clear ex9); (try clear ha1); (try clear e1); (try clear hbA); (try clear hT0); (try clear hT); (try clear Bs); (try clear Wk); (try clear Ss); (try clear hsz0); (try clear hend); (try clear hroom); (try clear hi); omega) | omega))) dL_law_719 ?_
  refine lv_topi (fun x9 ex9 => ?_)
  obtain rfl : x9 = iZ a1 := ex9.trans e1
  refine lv_aload_n hx hb dL_law_720 rfl (lv_at hl 4 rfl) ?_
  refine va_calli (vx_runSW (hh := [(0, 9, 12, 20)]) (As := [.ref h0, .int (iZ a1), .ref (h0 + 6558)]) (rest := []) ⟨hx, hb, hml, hown, hts⟩ (w_ways l hfl dC dI cI cL cII cR cO h0 (h0 + 6558) H.size μ f a1 T (hT.1.1.1.1.1) ha1 (by (first | ((try clear ex9); (try clear ha1); (try clear e1); (try clear hbA); (try clear hT0); (try clear hT); (try clear Bs); (try clear Wk); (try clear Ss); (try clear hsz0); (try clear hend); (try clear hroom); (try clear hi); omega) | omega))) (vx_cwSW 3 hts (gW_G k962 k963 k0 k964) rfl rfl rfl (by decide +kernel) ⟨Nat.le_of_ble_eq_true rfl, Nat.le_of_ble_eq_true rfl⟩) ⟨fun a U g mk q => by obtain ⟨q0, q1, qP, qO, qK, qKo, qM, qE, qN⟩ := q; exact ⟨q0, q1, qP, qO, va_K.moved (u := U) (U := U.calling g mk a) (Vm.Alike.refl U.vm) qK, va_K.moved (u := U) (U := U.calling g mk a) (Vm.Alike.refl U.vm) qKo, qM, xX_call qE, qN⟩, fun U hU hW9 => ⟨rfl, by rw [hU], by rw [hU]; exact hW.1, by rw [hU]; exact hW.2.2, va_K.moved hW9.alike hK, va_K.moved hW9.alike hKo, xM_warm hW9 hM, xX_at hEx hS (fun q h => lA_w hS hsz0 (by (first | ((try clear h); (try clear q); (try clear hU); (try clear U); (try clear mk); (try clear g); (try clear ex9); (try clear ha1); (try clear e1); (try clear hbA); (try clear hT0); (try clear hT); (try clear Bs); (try clear Wk); (try clear Ss); (try clear hsz0); (try clear hend); (try clear hroom); (try clear hi); omega) | omega)) q h) hU hW9, xNC_warm hW9 hNc⟩⟩ rfl rfl hl.1 rfl (lv_room (Nat.le_of_ble_eq_true rfl)) dL_law_721 ⟨by show cells + 1 ≤ 601024; (first | ((try clear ex9); (try clear ha1); (try clear e1); (try clear hbA); (try clear hT0); (try clear hT); (try clear Bs); (try clear Wk); (try clear Ss); (try clear hsz0); (try clear hend); (try clear hi); omega) | omega), by show slots + 6 ≤ 7293034; (first | ((try clear ex9); (try clear ha1); (try clear e1); (try clear hbA); (try clear hT0); (try clear hT); (try clear Bs); (try clear Wk); (try clear Ss); (try clear hsz0); (try clear hend); (try clear hi); omega) | omega)⟩) hS (fun q _ h => lA_w hS hsz0 (by (first | ((try clear h); (try clear ex9); (try clear ha1); (try clear e1); (try clear hbA); (try clear hT0); (try clear hT); (try clear Bs); (try clear Wk); (try clear Ss); (try clear hsz0); (try clear hend); (try clear hroom); (try clear hi); omega) | omega)) q h) (lA_w hS hsz0 (by (first | ((try clear ex9); (try clear ha1); (try clear e1); (try clear hbA); (try clear hT0); (try clear hT); (try clear Bs); (try clear Wk); (try clear Ss); (try clear hsz0); (try clear hend); (try clear hroom); (try clear hi); omega) | omega))) (fun r1 u9 t9 H1 locs ht9 hvm9 hw9 hB9 hz9 hk9 hS => ?_)
  obtain ⟨hP9, hO9⟩ := hB9
  rw [ht9] at hP9 hO9
  have hW := LW_w hW hk9 hP9 hO9
  have hT := LWt_c hT hw9
  obtain ⟨u1, f1⟩ := u9
  try dsimp only at hW hT
  clear hk9 hP9 hO9
  generalize H1 = H at hW hS ⊢
  refine lv_istore (lv' := [(5, .int r1), (4, .int (iZ i)), (0, .ref b), (1, .ref h0), (2, .ref (h0 + 233)), (3, .ref (h0 + 6558))]) hx hb dL_law_724 hl (by decide) rfl (fun ls hl => ?_)
  refine lv_aload_n hx hb dL_law_726 rfl (lv_at hl 4 rfl) ?_
  refine lv_aload_n hx hb dL_law_727 rfl (lv_at hl 2 rfl) ?_
  refine lv_iload hx hb dL_law_728 (lv_at hl 1 rfl) ?_
  refine lv_iconst (v := iZ 1) hx hb dL_law_730 rfl ?_
  refine lv_iadd hx hb dL_law_731 ?_
  refine lv_topi (fun x9 ex9 => ?_)
  obtain rfl : x9 = iZ (i + 1) := ex9.trans (iZ_add _ _)
  refine va_sld hx hb hX hbl hbA hS (iZ_in (by (first | ((try clear ex9); (try clear f1); (try clear u1); (try clear hT); (try clear hO9); (try clear hP9); (try clear hz9); (try clear r1); (try clear ha1); (try clear e1); (try clear hbA); (try clear hT0); (try clear Bs); (try clear Wk); (try clear Ss); (try clear hsz0); (try clear hend); (try clear hroom); omega) | omega)) (by (first | ((try clear ex9); (try clear f1); (try clear u1); (try clear hT); (try clear hO9); (try clear hP9); (try clear hz9); (try clear r1); (try clear ha1); (try clear e1); (try clear hbA); (try clear hT0); (try clear Bs); (try clear Wk); (try clear Ss); (try clear hsz0); (try clear hend); (try clear hroom); omega) | omega)) (by (first | ((try clear ex9); (try clear f1); (try clear u1); (try clear hT); (try clear hO9); (try clear hP9); (try clear hz9); (try clear r1); (try clear ha1); (try clear e1); (try clear hbA); (try clear hT0); (try clear Bs); (try clear Wk); (try clear Ss); (try clear hsz0); (try clear hend); (try clear hroom); (try clear hi); omega) | omega))) dL_law_732 ?_
  refine lv_topi (fun x9 ex9 => ?_)
  obtain rfl : x9 = iZ a1 := ex9.trans e1
  refine va_calli (va_runV (As := [.int (iZ a1)]) (rest := []) ⟨hx, hb, hml, hown, hts⟩ (m_ways l dC dI cI cZ cII cIII (h0 + 233) H.size ν a1 hT.1.1.1.1.2.1.1 ha1) (cwV 1 hts (gV_G k1639 k1640 k1641 k13 k1642) rfl rfl rfl (by decide +kernel) ⟨Nat.le_of_ble_eq_true rfl, Nat.le_of_ble_eq_true rfl⟩) ⟨fun a U g mk q => by obtain ⟨q0, q1, qP, qK⟩ := q; exact ⟨q0, q1, qP, va_K.moved (u := U) (U := U.calling g mk a) (Vm.Alike.refl U.vm) qK⟩, va_recv hKm hW.2.1 (ci := 10) (q0 := 0) rfl ((fw_get (by decide)).trans (by rw [mE_obj])), fun U hU hW9 => ⟨rfl, by rw [hU], by rw [hU]; exact hW.2.1, va_K.moved hW9.alike hKm⟩⟩ rfl rfl hl.1 rfl (lv_room (Nat.le_of_ble_eq_true rfl)) dL_law_733 ⟨by show cells + 1 + 0 ≤ 601024; (first | ((try clear ex9); (try clear f1); (try clear u1); (try clear hT); (try clear hO9); (try clear hP9); (try clear hz9); (try clear r1); (try clear ha1); (try clear e1); (try clear hbA); (try clear hT0); (try clear Bs); (try clear Wk); (try clear Ss); (try clear hsz0); (try clear hend); (try clear hi); omega) | omega), by show slots + 6 + 0 ≤ 7293034; (first | ((try clear ex9); (try clear f1); (try clear u1); (try clear hT); (try clear hO9); (try clear hP9); (try clear hz9); (try clear r1); (try clear ha1); (try clear e1); (try clear hbA); (try clear hT0); (try clear Bs); (try clear Wk); (try clear Ss); (try clear hsz0); (try clear hend); (try clear hi); omega) | omega)⟩) hS (fun q _ h => lA_f hS hsz0 (by (first | ((try clear h); (try clear ex9); (try clear f1); (try clear u1); (try clear hT); (try clear hO9); (try clear hP9); (try clear hz9); (try clear r1); (try clear ha1); (try clear e1); (try clear hbA); (try clear hT0); (try clear Bs); (try clear Wk); (try clear Ss); (try clear hsz0); (try clear hend); (try clear hroom); (try clear hi); omega) | omega)) q h) (lA_f hS hsz0 (by (first | ((try clear ex9); (try clear f1); (try clear u1); (try clear hT); (try clear hO9); (try clear hP9); (try clear hz9); (try clear r1); (try clear ha1); (try clear e1); (try clear hbA); (try clear hT0); (try clear Bs); (try clear Wk); (try clear Ss); (try clear hsz0); (try clear hend); (try clear hroom); (try clear hi); omega) | omega))) (fun r2 u9 t9 H1 locs ht9 hvm9 hw9 hB9 hz9 hk9 hS => ?_)
  obtain ⟨hP9, -⟩ := hB9
  rw [ht9] at hP9
  have hW := LW_m hW hk9 hP9
  obtain ⟨v1, q2⟩ := u9
  obtain ⟨er9, hw9⟩ := hw9
  have er2 : r2 = iZ q2 := er9
  subst er2
  have hT := LWt_ps hT hw9
  try dsimp only at hW hT
  clear hk9 hP9
  generalize H1 = H at hW hS ⊢
  refine lv_istore (lv' := [(6, .int (iZ q2)), (5, .int r1), (4, .int (iZ i)), (0, .ref b), (1, .ref h0), (2, .ref (h0 + 233)), (3, .ref (h0 + 6558))]) hx hb dL_law_736 hl (by decide) rfl (fun ls hl => ?_)
  refine lv_goto (tgt := 1468) hx hb dL_law_738 (by decide) ?_
  have hV9 : LW9 u1 v1 := ⟨T, Ss, Wk, Bs, hT⟩
  refine W.widen (k := cells + 1) (n := slots + 6) (by (first | ((try clear hT); (try clear er2); (try clear er9); (try clear q2); (try clear v1); (try clear hP9); (try clear hz9); (try clear r2); (try clear ex9); (try clear f1); (try clear u1); (try clear hO9); (try clear r1); (try clear ha1); (try clear e1); (try clear hbA); (try clear hT0); (try clear Bs); (try clear Wk); (try clear Ss); (try clear hsz0); (try clear hend); (try clear hroom); (try clear hi); omega) | omega)) (by (first | ((try clear hT); (try clear er2); (try clear er9); (try clear q2); (try clear v1); (try clear hP9); (try clear hz9); (try clear r2); (try clear ex9); (try clear f1); (try clear u1); (try clear hO9); (try clear r1); (try clear ha1); (try clear e1); (try clear hbA); (try clear hT0); (try clear Bs); (try clear Wk); (try clear Ss); (try clear hsz0); (try clear hend); (try clear hroom); (try clear hi); omega) | omega)) ?_
  exact hend _ _ _ H locs ls hV9 hW hS (lv_sub hl [2, 3, 4, 5, 6] rfl)
set_option maxHeartbeats 4000000 in
set_option maxRecDepth 100000 in
theorem lc_times {p : Program} {l : Launch} {e : Env} {s : State} {m : MethodId} {below : List Frame} {meth : Method} {c : Code} {dC : Nat → ClassId} {dI : Nat → Nat → Nat} {cI cL cII cR cZ cIII cO : ClassId} {h0 b L : Nat} {xs : Nat → Int32} (C0 : lx_C p l s m c b L xs dC dI cI cL cII cR cZ cIII cO h0) {i : Int} (hi : 0 ≤ i ∧ i + 6 ≤ L) {μ ν : va_M} {f : Nat → Int64} (hV : LW9 μ ν) {cells slots : Nat} (hroom : cells + 1 ≤ 601024 ∧ slots + 6 ≤ 7293034)
    (hend : ∀ (μ ν : va_M) (f : Nat → Int64) (H : Heap) (locs : List Loc) (ls : Array Slot), LW9 μ ν → LW dC dI cI cL cII cR cZ cIII cO h0 μ ν f H → va_S (lA h0) s.heap H locs → lv_has ls 7 [(4, .int (iZ i)), (0, .ref b), (1, .ref h0), (2, .ref (h0 + 233)), (3, .ref (h0 + 6558))] → W p l e room_1 s m #[Value.ref b] below meth c H locs (cells + 1) (slots + 6) (lw_Z below #[Value.ref b] s) (F0 m 1468 ls []))
    {H : Heap} {locs : List Loc} {ls : Array Slot} (hW : LW dC dI cI cL cII cR cZ cIII cO h0 μ ν f H) (hS : va_S (lA h0) s.heap H locs) (hl : lv_has ls 7 [(4, .int (iZ i)), (0, .ref b), (1, .ref h0), (2, .ref (h0 + 233)), (3, .ref (h0 + 6558))]) : W p l e room_1 s m #[Value.ref b] below meth c H locs cells slots (lw_Z below #[Value.ref b] s) (F0 m 741 ls []) := by
  obtain ⟨hfl, hx, hb, hml, hown, hts, hX, hbl, hsz0, hL9, hK, hKm, hKo, hM, hEx, hNc⟩ := C0
  obtain ⟨T, Ss, Wk, Bs, hT⟩ := hV
  have hT : LWt T Ss Wk Bs μ ν := hT
  have hT0 := hT
  have hbA : ¬ lA h0 b := Nat.not_le.mpr (by (first | ((try clear hbA); (try clear hT0); (try clear hT); (try clear Bs); (try clear Wk); (try clear Ss); (try clear hend); (try clear hroom); (try clear hi); omega) | omega))
  obtain ⟨a1, e1, ha1⟩ := iZ_ex (xs (iZ (i + 1)).toNatClampNeg)
  obtain ⟨a2, e2, ha2⟩ := iZ_ex (xs (iZ (i + 2)).toNatClampNeg)
  refine lv_aload_n hx hb dL_law_741 rfl (lv_at hl 2 rfl) ?_
  refine lv_aload_n hx hb dL_law_742 rfl (lv_at hl 1 rfl) ?_
  refine lv_iload hx hb dL_law_743 (lv_at hl 0 rfl) ?_
  refine lv_iconst (v := iZ 1) hx hb dL_law_745 rfl ?_
  refine lv_iadd hx hb dL_law_746 ?_
  refine lv_topi (fun x9 ex9 => ?_)
  obtain rfl : x9 = iZ (i + 1) := ex9.trans (iZ_add _ _)
  refine va_sld hx hb hX hbl hbA hS (iZ_in (by (first | ((try clear ex9); (try clear ha2); (try clear e2); (try clear ha1); (try clear e1); (try clear hbA); (try clear hT0); (try clear hT); (try clear Bs); (try clear Wk); (try clear Ss); (try clear hsz0); (try clear hend); (try clear hroom); omega) | omega)) (by (first | ((try clear ex9); (try clear ha2); (try clear e2); (try clear ha1); (try clear e1); (try clear hbA); (try clear hT0); (try clear hT); (try clear Bs); (try clear Wk); (try clear Ss); (try clear hsz0); (try clear hend); (try clear hroom); omega) | omega)) (by (first | ((try clear ex9); (try clear ha2); (try clear e2); (try clear ha1); (try clear e1); (try clear hbA); (try clear hT0); (try clear hT); (try clear Bs); (try clear Wk); (try clear Ss); (try clear hsz0); (try clear hend); (try clear hroom); (try clear hi); omega) | omega))) dL_law_747 ?_
  refine lv_topi (fun x9 ex9 => ?_)
  obtain rfl : x9 = iZ a1 := ex9.trans e1
  refine lv_aload_n hx hb dL_law_748 rfl (lv_at hl 1 rfl) ?_
  refine lv_iload hx hb dL_law_749 (lv_at hl 0 rfl) ?_
  refine lv_iconst (v := iZ 2) hx hb dL_law_751 rfl ?_
  refine lv_iadd hx hb dL_law_752 ?_
  refine lv_topi (fun x9 ex9 => ?_)
  obtain rfl : x9 = iZ (i + 2) := ex9.trans (iZ_add _ _)
  refine va_sld hx hb hX hbl hbA hS (iZ_in (by (first | ((try clear ex9); (try clear ha2); (try clear e2); (try clear ha1); (try clear e1); (try clear hbA); (try clear hT0); (try clear hT); (try clear Bs); (try clear Wk); (try clear Ss); (try clear hsz0); (try clear hend); (try clear hroom); omega) | omega)) (by (first | ((try clear ex9); (try clear ha2); (try clear e2); (try clear ha1); (try clear e1); (try clear hbA); (try clear hT0); (try clear hT); (try clear Bs); (try clear Wk); (try clear Ss); (try clear hsz0); (try clear hend); (try clear hroom); omega) | omega)) (by (first | ((try clear ex9); (try clear ha2); (try clear e2); (try clear ha1); (try clear e1); (try clear hbA); (try clear hT0); (try clear hT); (try clear Bs); (try clear Wk); (try clear Ss); (try clear hsz0); (try clear hend); (try clear hroom); (try clear hi); omega) | omega))) dL_law_753 ?_
  refine lv_topi (fun x9 ex9 => ?_)
  obtain rfl : x9 = iZ a2 := ex9.trans e2
  refine lv_aload_n hx hb dL_law_754 rfl (lv_at hl 4 rfl) ?_
  refine va_calli (vx_runSW (hh := [(0, 10, 13, 20)]) (As := [.ref h0, .int (iZ a1), .int (iZ a2), .ref (h0 + 6558)]) (rest := []) ⟨hx, hb, hml, hown, hts⟩ (w_times l hfl dC dI cI cL cII cR cO h0 (h0 + 6558) H.size μ f a1 a2 T (hT.1.1.1.1.1) ha1 ha2 (by (first | ((try clear ex9); (try clear ha2); (try clear e2); (try clear ha1); (try clear e1); (try clear hbA); (try clear hT0); (try clear hT); (try clear Bs); (try clear Wk); (try clear Ss); (try clear hsz0); (try clear hend); (try clear hroom); (try clear hi); omega) | omega))) (vx_cwSW 4 hts (gW_G k969 k970 k0 k971) rfl rfl rfl (by decide +kernel) ⟨Nat.le_of_ble_eq_true rfl, Nat.le_of_ble_eq_true rfl⟩) ⟨fun a U g mk q => by obtain ⟨q0, q1, qP, qO, qK, qKo, qM, qE, qN⟩ := q; exact ⟨q0, q1, qP, qO, va_K.moved (u := U) (U := U.calling g mk a) (Vm.Alike.refl U.vm) qK, va_K.moved (u := U) (U := U.calling g mk a) (Vm.Alike.refl U.vm) qKo, qM, xX_call qE, qN⟩, fun U hU hW9 => ⟨rfl, by rw [hU], by rw [hU]; exact hW.1, by rw [hU]; exact hW.2.2, va_K.moved hW9.alike hK, va_K.moved hW9.alike hKo, xM_warm hW9 hM, xX_at hEx hS (fun q h => lA_w hS hsz0 (by (first | ((try clear h); (try clear q); (try clear hU); (try clear U); (try clear mk); (try clear g); (try clear ex9); (try clear ha2); (try clear e2); (try clear ha1); (try clear e1); (try clear hbA); (try clear hT0); (try clear hT); (try clear Bs); (try clear Wk); (try clear Ss); (try clear hsz0); (try clear hend); (try clear hroom); (try clear hi); omega) | omega)) q h) hU hW9, xNC_warm hW9 hNc⟩⟩ rfl rfl hl.1 rfl (lv_room (Nat.le_of_ble_eq_true rfl)) dL_law_755 ⟨by show cells + 1 ≤ 601024; (first | ((try clear ex9); (try clear ha2); (try clear e2); (try clear ha1); (try clear e1); (try clear hbA); (try clear hT0); (try clear hT); (try clear Bs); (try clear Wk); (try clear Ss); (try clear hsz0); (try clear hend); (try clear hi); omega) | omega), by show slots + 6 ≤ 7293034; (first | ((try clear ex9); (try clear ha2); (try clear e2); (try clear ha1); (try clear e1); (try clear hbA); (try clear hT0); (try clear hT); (try clear Bs); (try clear Wk); (try clear Ss); (try clear hsz0); (try clear hend); (try clear hi); omega) | omega)⟩) hS (fun q _ h => lA_w hS hsz0 (by (first | ((try clear h); (try clear ex9); (try clear ha2); (try clear e2); (try clear ha1); (try clear e1); (try clear hbA); (try clear hT0); (try clear hT); (try clear Bs); (try clear Wk); (try clear Ss); (try clear hsz0); (try clear hend); (try clear hroom); (try clear hi); omega) | omega)) q h) (lA_w hS hsz0 (by (first | ((try clear ex9); (try clear ha2); (try clear e2); (try clear ha1); (try clear e1); (try clear hbA); (try clear hT0); (try clear hT); (try clear Bs); (try clear Wk); (try clear Ss); (try clear hsz0); (try clear hend); (try clear hroom); (try clear hi); omega) | omega))) (fun r1 u9 t9 H1 locs ht9 hvm9 hw9 hB9 hz9 hk9 hS => ?_)
  obtain ⟨hP9, hO9⟩ := hB9
  rw [ht9] at hP9 hO9
  have hW := LW_w hW hk9 hP9 hO9
  have hT := LWt_c hT hw9
  obtain ⟨u1, f1⟩ := u9
  try dsimp only at hW hT
  clear hk9 hP9 hO9
  generalize H1 = H at hW hS ⊢
  refine lv_istore (lv' := [(5, .int r1), (4, .int (iZ i)), (0, .ref b), (1, .ref h0), (2, .ref (h0 + 233)), (3, .ref (h0 + 6558))]) hx hb dL_law_758 hl (by decide) rfl (fun ls hl => ?_)
  refine lv_aload_n hx hb dL_law_760 rfl (lv_at hl 4 rfl) ?_
  refine lv_aload_n hx hb dL_law_761 rfl (lv_at hl 2 rfl) ?_
  refine lv_iload hx hb dL_law_762 (lv_at hl 1 rfl) ?_
  refine lv_iconst (v := iZ 1) hx hb dL_law_764 rfl ?_
  refine lv_iadd hx hb dL_law_765 ?_
  refine lv_topi (fun x9 ex9 => ?_)
  obtain rfl : x9 = iZ (i + 1) := ex9.trans (iZ_add _ _)
  refine va_sld hx hb hX hbl hbA hS (iZ_in (by (first | ((try clear ex9); (try clear f1); (try clear u1); (try clear hT); (try clear hO9); (try clear hP9); (try clear hz9); (try clear r1); (try clear ha2); (try clear e2); (try clear ha1); (try clear e1); (try clear hbA); (try clear hT0); (try clear Bs); (try clear Wk); (try clear Ss); (try clear hsz0); (try clear hend); (try clear hroom); omega) | omega)) (by (first | ((try clear ex9); (try clear f1); (try clear u1); (try clear hT); (try clear hO9); (try clear hP9); (try clear hz9); (try clear r1); (try clear ha2); (try clear e2); (try clear ha1); (try clear e1); (try clear hbA); (try clear hT0); (try clear Bs); (try clear Wk); (try clear Ss); (try clear hsz0); (try clear hend); (try clear hroom); omega) | omega)) (by (first | ((try clear ex9); (try clear f1); (try clear u1); (try clear hT); (try clear hO9); (try clear hP9); (try clear hz9); (try clear r1); (try clear ha2); (try clear e2); (try clear ha1); (try clear e1); (try clear hbA); (try clear hT0); (try clear Bs); (try clear Wk); (try clear Ss); (try clear hsz0); (try clear hend); (try clear hroom); (try clear hi); omega) | omega))) dL_law_766 ?_
  refine lv_topi (fun x9 ex9 => ?_)
  obtain rfl : x9 = iZ a1 := ex9.trans e1
  refine lv_aload_n hx hb dL_law_767 rfl (lv_at hl 2 rfl) ?_
  refine lv_iload hx hb dL_law_768 (lv_at hl 1 rfl) ?_
  refine lv_iconst (v := iZ 2) hx hb dL_law_770 rfl ?_
  refine lv_iadd hx hb dL_law_771 ?_
  refine lv_topi (fun x9 ex9 => ?_)
  obtain rfl : x9 = iZ (i + 2) := ex9.trans (iZ_add _ _)
  refine va_sld hx hb hX hbl hbA hS (iZ_in (by (first | ((try clear ex9); (try clear f1); (try clear u1); (try clear hT); (try clear hO9); (try clear hP9); (try clear hz9); (try clear r1); (try clear ha2); (try clear e2); (try clear ha1); (try clear e1); (try clear hbA); (try clear hT0); (try clear Bs); (try clear Wk); (try clear Ss); (try clear hsz0); (try clear hend); (try clear hroom); omega) | omega)) (by (first | ((try clear ex9); (try clear f1); (try clear u1); (try clear hT); (try clear hO9); (try clear hP9); (try clear hz9); (try clear r1); (try clear ha2); (try clear e2); (try clear ha1); (try clear e1); (try clear hbA); (try clear hT0); (try clear Bs); (try clear Wk); (try clear Ss); (try clear hsz0); (try clear hend); (try clear hroom); omega) | omega)) (by (first | ((try clear ex9); (try clear f1); (try clear u1); (try clear hT); (try clear hO9); (try clear hP9); (try clear hz9); (try clear r1); (try clear ha2); (try clear e2); (try clear ha1); (try clear e1); (try clear hbA); (try clear hT0); (try clear Bs); (try clear Wk); (try clear Ss); (try clear hsz0); (try clear hend); (try clear hroom); (try clear hi); omega) | omega))) dL_law_772 ?_
  refine lv_topi (fun x9 ex9 => ?_)
  obtain rfl : x9 = iZ a2 := ex9.trans e2
  refine va_calli (va_runV (As := [.int (iZ a1), .int (iZ a2)]) (rest := []) ⟨hx, hb, hml, hown, hts⟩ (m_times l dC dI cI cZ cII cIII (h0 + 233) H.size ν a1 a2 hT.1.1.1.1.2.1.1 ha1 ha2) (cwV 2 hts (gV_G k1663 k1664 k1665 k13 k1666) rfl rfl rfl (by decide +kernel) ⟨Nat.le_of_ble_eq_true rfl, Nat.le_of_ble_eq_true rfl⟩) ⟨fun a U g mk q => by obtain ⟨q0, q1, qP, qK⟩ := q; exact ⟨q0, q1, qP, va_K.moved (u := U) (U := U.calling g mk a) (Vm.Alike.refl U.vm) qK⟩, va_recv hKm hW.2.1 (ci := 10) (q0 := 0) rfl ((fw_get (by decide)).trans (by rw [mE_obj])), fun U hU hW9 => ⟨rfl, by rw [hU], by rw [hU]; exact hW.2.1, va_K.moved hW9.alike hKm⟩⟩ rfl rfl hl.1 rfl (lv_room (Nat.le_of_ble_eq_true rfl)) dL_law_773 ⟨by show cells + 1 + 0 ≤ 601024; (first | ((try clear ex9); (try clear f1); (try clear u1); (try clear hT); (try clear hO9); (try clear hP9); (try clear hz9); (try clear r1); (try clear ha2); (try clear e2); (try clear ha1); (try clear e1); (try clear hbA); (try clear hT0); (try clear Bs); (try clear Wk); (try clear Ss); (try clear hsz0); (try clear hend); (try clear hi); omega) | omega), by show slots + 6 + 0 ≤ 7293034; (first | ((try clear ex9); (try clear f1); (try clear u1); (try clear hT); (try clear hO9); (try clear hP9); (try clear hz9); (try clear r1); (try clear ha2); (try clear e2); (try clear ha1); (try clear e1); (try clear hbA); (try clear hT0); (try clear Bs); (try clear Wk); (try clear Ss); (try clear hsz0); (try clear hend); (try clear hi); omega) | omega)⟩) hS (fun q _ h => lA_f hS hsz0 (by (first | ((try clear h); (try clear ex9); (try clear f1); (try clear u1); (try clear hT); (try clear hO9); (try clear hP9); (try clear hz9); (try clear r1); (try clear ha2); (try clear e2); (try clear ha1); (try clear e1); (try clear hbA); (try clear hT0); (try clear Bs); (try clear Wk); (try clear Ss); (try clear hsz0); (try clear hend); (try clear hroom); (try clear hi); omega) | omega)) q h) (lA_f hS hsz0 (by (first | ((try clear ex9); (try clear f1); (try clear u1); (try clear hT); (try clear hO9); (try clear hP9); (try clear hz9); (try clear r1); (try clear ha2); (try clear e2); (try clear ha1); (try clear e1); (try clear hbA); (try clear hT0); (try clear Bs); (try clear Wk); (try clear Ss); (try clear hsz0); (try clear hend); (try clear hroom); (try clear hi); omega) | omega))) (fun r2 u9 t9 H1 locs ht9 hvm9 hw9 hB9 hz9 hk9 hS => ?_)
  obtain ⟨hP9, -⟩ := hB9
  rw [ht9] at hP9
  have hW := LW_m hW hk9 hP9
  obtain ⟨v1, q2⟩ := u9
  obtain ⟨er9, hw9⟩ := hw9
  have er2 : r2 = iZ q2 := er9
  subst er2
  have hT := LWt_ps hT hw9
  try dsimp only at hW hT
  clear hk9 hP9
  generalize H1 = H at hW hS ⊢
  refine lv_istore (lv' := [(6, .int (iZ q2)), (5, .int r1), (4, .int (iZ i)), (0, .ref b), (1, .ref h0), (2, .ref (h0 + 233)), (3, .ref (h0 + 6558))]) hx hb dL_law_776 hl (by decide) rfl (fun ls hl => ?_)
  refine lv_goto (tgt := 1468) hx hb dL_law_778 (by decide) ?_
  have hV9 : LW9 u1 v1 := ⟨T, Ss, Wk, Bs, hT⟩
  refine W.widen (k := cells + 1) (n := slots + 6) (by (first | ((try clear hT); (try clear er2); (try clear er9); (try clear q2); (try clear v1); (try clear hP9); (try clear hz9); (try clear r2); (try clear ex9); (try clear f1); (try clear u1); (try clear hO9); (try clear r1); (try clear ha2); (try clear e2); (try clear ha1); (try clear e1); (try clear hbA); (try clear hT0); (try clear Bs); (try clear Wk); (try clear Ss); (try clear hsz0); (try clear hend); (try clear hroom); (try clear hi); omega) | omega)) (by (first | ((try clear hT); (try clear er2); (try clear er9); (try clear q2); (try clear v1); (try clear hP9); (try clear hz9); (try clear r2); (try clear ex9); (try clear f1); (try clear u1); (try clear hO9); (try clear r1); (try clear ha2); (try clear e2); (try clear ha1); (try clear e1); (try clear hbA); (try clear hT0); (try clear Bs); (try clear Wk); (try clear Ss); (try clear hsz0); (try clear hend); (try clear hroom); (try clear hi); omega) | omega)) ?_
  exact hend _ _ _ H locs ls hV9 hW hS (lv_sub hl [2, 3, 4, 5, 6] rfl)
set_option maxHeartbeats 4000000 in
set_option maxRecDepth 100000 in
theorem lc_passes {p : Program} {l : Launch} {e : Env} {s : State} {m : MethodId} {below : List Frame} {meth : Method} {c : Code} {dC : Nat → ClassId} {dI : Nat → Nat → Nat} {cI cL cII cR cZ cIII cO : ClassId} {h0 b L : Nat} {xs : Nat → Int32} (C0 : lx_C p l s m c b L xs dC dI cI cL cII cR cZ cIII cO h0) {i : Int} (hi : 0 ≤ i ∧ i + 6 ≤ L) {μ ν : va_M} {f : Nat → Int64} (hV : LW9 μ ν) {cells slots : Nat} (hroom : cells + 1 ≤ 601024 ∧ slots + 6 ≤ 7293034)
    (hend : ∀ (μ ν : va_M) (f : Nat → Int64) (H : Heap) (locs : List Loc) (ls : Array Slot), LW9 μ ν → LW dC dI cI cL cII cR cZ cIII cO h0 μ ν f H → va_S (lA h0) s.heap H locs → lv_has ls 7 [(4, .int (iZ i)), (0, .ref b), (1, .ref h0), (2, .ref (h0 + 233)), (3, .ref (h0 + 6558))] → W p l e room_1 s m #[Value.ref b] below meth c H locs (cells + 1) (slots + 6) (lw_Z below #[Value.ref b] s) (F0 m 1468 ls []))
    {H : Heap} {locs : List Loc} {ls : Array Slot} (hW : LW dC dI cI cL cII cR cZ cIII cO h0 μ ν f H) (hS : va_S (lA h0) s.heap H locs) (hl : lv_has ls 7 [(4, .int (iZ i)), (0, .ref b), (1, .ref h0), (2, .ref (h0 + 233)), (3, .ref (h0 + 6558))]) : W p l e room_1 s m #[Value.ref b] below meth c H locs cells slots (lw_Z below #[Value.ref b] s) (F0 m 781 ls []) := by
  obtain ⟨hfl, hx, hb, hml, hown, hts, hX, hbl, hsz0, hL9, hK, hKm, hKo, hM, hEx, hNc⟩ := C0
  obtain ⟨T, Ss, Wk, Bs, hT⟩ := hV
  have hT : LWt T Ss Wk Bs μ ν := hT
  have hT0 := hT
  have hbA : ¬ lA h0 b := Nat.not_le.mpr (by (first | ((try clear hbA); (try clear hT0); (try clear hT); (try clear Bs); (try clear Wk); (try clear Ss); (try clear hend); (try clear hroom); (try clear hi); omega) | omega))
  obtain ⟨a1, e1, ha1⟩ := iZ_ex (xs (iZ (i + 1)).toNatClampNeg)
  obtain ⟨a2, e2, ha2⟩ := iZ_ex (xs (iZ (i + 2)).toNatClampNeg)
  refine lv_aload_n hx hb dL_law_781 rfl (lv_at hl 2 rfl) ?_
  refine lv_aload_n hx hb dL_law_782 rfl (lv_at hl 1 rfl) ?_
  refine lv_iload hx hb dL_law_783 (lv_at hl 0 rfl) ?_
  refine lv_iconst (v := iZ 1) hx hb dL_law_785 rfl ?_
  refine lv_iadd hx hb dL_law_786 ?_
  refine lv_topi (fun x9 ex9 => ?_)
  obtain rfl : x9 = iZ (i + 1) := ex9.trans (iZ_add _ _)
  refine va_sld hx hb hX hbl hbA hS (iZ_in (by (first | ((try clear ex9); (try clear ha2); (try clear e2); (try clear ha1); (try clear e1); (try clear hbA); (try clear hT0); (try clear hT); (try clear Bs); (try clear Wk); (try clear Ss); (try clear hsz0); (try clear hend); (try clear hroom); omega) | omega)) (by (first | ((try clear ex9); (try clear ha2); (try clear e2); (try clear ha1); (try clear e1); (try clear hbA); (try clear hT0); (try clear hT); (try clear Bs); (try clear Wk); (try clear Ss); (try clear hsz0); (try clear hend); (try clear hroom); omega) | omega)) (by (first | ((try clear ex9); (try clear ha2); (try clear e2); (try clear ha1); (try clear e1); (try clear hbA); (try clear hT0); (try clear hT); (try clear Bs); (try clear Wk); (try clear Ss); (try clear hsz0); (try clear hend); (try clear hroom); (try clear hi); omega) | omega))) dL_law_787 ?_
  refine lv_topi (fun x9 ex9 => ?_)
  obtain rfl : x9 = iZ a1 := ex9.trans e1
  refine lv_aload_n hx hb dL_law_788 rfl (lv_at hl 1 rfl) ?_
  refine lv_iload hx hb dL_law_789 (lv_at hl 0 rfl) ?_
  refine lv_iconst (v := iZ 2) hx hb dL_law_791 rfl ?_
  refine lv_iadd hx hb dL_law_792 ?_
  refine lv_topi (fun x9 ex9 => ?_)
  obtain rfl : x9 = iZ (i + 2) := ex9.trans (iZ_add _ _)
  refine va_sld hx hb hX hbl hbA hS (iZ_in (by (first | ((try clear ex9); (try clear ha2); (try clear e2); (try clear ha1); (try clear e1); (try clear hbA); (try clear hT0); (try clear hT); (try clear Bs); (try clear Wk); (try clear Ss); (try clear hsz0); (try clear hend); (try clear hroom); omega) | omega)) (by (first | ((try clear ex9); (try clear ha2); (try clear e2); (try clear ha1); (try clear e1); (try clear hbA); (try clear hT0); (try clear hT); (try clear Bs); (try clear Wk); (try clear Ss); (try clear hsz0); (try clear hend); (try clear hroom); omega) | omega)) (by (first | ((try clear ex9); (try clear ha2); (try clear e2); (try clear ha1); (try clear e1); (try clear hbA); (try clear hT0); (try clear hT); (try clear Bs); (try clear Wk); (try clear Ss); (try clear hsz0); (try clear hend); (try clear hroom); (try clear hi); omega) | omega))) dL_law_793 ?_
  refine lv_topi (fun x9 ex9 => ?_)
  obtain rfl : x9 = iZ a2 := ex9.trans e2
  refine lv_aload_n hx hb dL_law_794 rfl (lv_at hl 4 rfl) ?_
  refine va_calli (vx_runSW (hh := [(0, 10, 13, 20)]) (As := [.ref h0, .int (iZ a1), .int (iZ a2), .ref (h0 + 6558)]) (rest := []) ⟨hx, hb, hml, hown, hts⟩ (w_passes l hfl dC dI cI cL cII cR cO h0 (h0 + 6558) H.size μ f a1 a2 T (hT.1.1.1.1.1) ha1 ha2 (by (first | ((try clear ex9); (try clear ha2); (try clear e2); (try clear ha1); (try clear e1); (try clear hbA); (try clear hT0); (try clear hT); (try clear Bs); (try clear Wk); (try clear Ss); (try clear hsz0); (try clear hend); (try clear hroom); (try clear hi); omega) | omega))) (vx_cwSW 4 hts (gW_G k976 k977 k0 k978) rfl rfl rfl (by decide +kernel) ⟨Nat.le_of_ble_eq_true rfl, Nat.le_of_ble_eq_true rfl⟩) ⟨fun a U g mk q => by obtain ⟨q0, q1, qP, qO, qK, qKo, qM, qE, qN⟩ := q; exact ⟨q0, q1, qP, qO, va_K.moved (u := U) (U := U.calling g mk a) (Vm.Alike.refl U.vm) qK, va_K.moved (u := U) (U := U.calling g mk a) (Vm.Alike.refl U.vm) qKo, qM, xX_call qE, qN⟩, fun U hU hW9 => ⟨rfl, by rw [hU], by rw [hU]; exact hW.1, by rw [hU]; exact hW.2.2, va_K.moved hW9.alike hK, va_K.moved hW9.alike hKo, xM_warm hW9 hM, xX_at hEx hS (fun q h => lA_w hS hsz0 (by (first | ((try clear h); (try clear q); (try clear hU); (try clear U); (try clear mk); (try clear g); (try clear ex9); (try clear ha2); (try clear e2); (try clear ha1); (try clear e1); (try clear hbA); (try clear hT0); (try clear hT); (try clear Bs); (try clear Wk); (try clear Ss); (try clear hsz0); (try clear hend); (try clear hroom); (try clear hi); omega) | omega)) q h) hU hW9, xNC_warm hW9 hNc⟩⟩ rfl rfl hl.1 rfl (lv_room (Nat.le_of_ble_eq_true rfl)) dL_law_795 ⟨by show cells + 1 ≤ 601024; (first | ((try clear ex9); (try clear ha2); (try clear e2); (try clear ha1); (try clear e1); (try clear hbA); (try clear hT0); (try clear hT); (try clear Bs); (try clear Wk); (try clear Ss); (try clear hsz0); (try clear hend); (try clear hi); omega) | omega), by show slots + 6 ≤ 7293034; (first | ((try clear ex9); (try clear ha2); (try clear e2); (try clear ha1); (try clear e1); (try clear hbA); (try clear hT0); (try clear hT); (try clear Bs); (try clear Wk); (try clear Ss); (try clear hsz0); (try clear hend); (try clear hi); omega) | omega)⟩) hS (fun q _ h => lA_w hS hsz0 (by (first | ((try clear h); (try clear ex9); (try clear ha2); (try clear e2); (try clear ha1); (try clear e1); (try clear hbA); (try clear hT0); (try clear hT); (try clear Bs); (try clear Wk); (try clear Ss); (try clear hsz0); (try clear hend); (try clear hroom); (try clear hi); omega) | omega)) q h) (lA_w hS hsz0 (by (first | ((try clear ex9); (try clear ha2); (try clear e2); (try clear ha1); (try clear e1); (try clear hbA); (try clear hT0); (try clear hT); (try clear Bs); (try clear Wk); (try clear Ss); (try clear hsz0); (try clear hend); (try clear hroom); (try clear hi); omega) | omega))) (fun r1 u9 t9 H1 locs ht9 hvm9 hw9 hB9 hz9 hk9 hS => ?_)
  obtain ⟨hP9, hO9⟩ := hB9
  rw [ht9] at hP9 hO9
  have hW := LW_w hW hk9 hP9 hO9
  have hT := LWt_c hT hw9
  obtain ⟨u1, f1⟩ := u9
  try dsimp only at hW hT
  clear hk9 hP9 hO9
  generalize H1 = H at hW hS ⊢
  refine lv_istore (lv' := [(5, .int r1), (4, .int (iZ i)), (0, .ref b), (1, .ref h0), (2, .ref (h0 + 233)), (3, .ref (h0 + 6558))]) hx hb dL_law_798 hl (by decide) rfl (fun ls hl => ?_)
  refine lv_aload_n hx hb dL_law_800 rfl (lv_at hl 4 rfl) ?_
  refine lv_aload_n hx hb dL_law_801 rfl (lv_at hl 2 rfl) ?_
  refine lv_iload hx hb dL_law_802 (lv_at hl 1 rfl) ?_
  refine lv_iconst (v := iZ 1) hx hb dL_law_804 rfl ?_
  refine lv_iadd hx hb dL_law_805 ?_
  refine lv_topi (fun x9 ex9 => ?_)
  obtain rfl : x9 = iZ (i + 1) := ex9.trans (iZ_add _ _)
  refine va_sld hx hb hX hbl hbA hS (iZ_in (by (first | ((try clear ex9); (try clear f1); (try clear u1); (try clear hT); (try clear hO9); (try clear hP9); (try clear hz9); (try clear r1); (try clear ha2); (try clear e2); (try clear ha1); (try clear e1); (try clear hbA); (try clear hT0); (try clear Bs); (try clear Wk); (try clear Ss); (try clear hsz0); (try clear hend); (try clear hroom); omega) | omega)) (by (first | ((try clear ex9); (try clear f1); (try clear u1); (try clear hT); (try clear hO9); (try clear hP9); (try clear hz9); (try clear r1); (try clear ha2); (try clear e2); (try clear ha1); (try clear e1); (try clear hbA); (try clear hT0); (try clear Bs); (try clear Wk); (try clear Ss); (try clear hsz0); (try clear hend); (try clear hroom); omega) | omega)) (by (first | ((try clear ex9); (try clear f1); (try clear u1); (try clear hT); (try clear hO9); (try clear hP9); (try clear hz9); (try clear r1); (try clear ha2); (try clear e2); (try clear ha1); (try clear e1); (try clear hbA); (try clear hT0); (try clear Bs); (try clear Wk); (try clear Ss); (try clear hsz0); (try clear hend); (try clear hroom); (try clear hi); omega) | omega))) dL_law_806 ?_
  refine lv_topi (fun x9 ex9 => ?_)
  obtain rfl : x9 = iZ a1 := ex9.trans e1
  refine lv_aload_n hx hb dL_law_807 rfl (lv_at hl 2 rfl) ?_
  refine lv_iload hx hb dL_law_808 (lv_at hl 1 rfl) ?_
  refine lv_iconst (v := iZ 2) hx hb dL_law_810 rfl ?_
  refine lv_iadd hx hb dL_law_811 ?_
  refine lv_topi (fun x9 ex9 => ?_)
  obtain rfl : x9 = iZ (i + 2) := ex9.trans (iZ_add _ _)
  refine va_sld hx hb hX hbl hbA hS (iZ_in (by (first | ((try clear ex9); (try clear f1); (try clear u1); (try clear hT); (try clear hO9); (try clear hP9); (try clear hz9); (try clear r1); (try clear ha2); (try clear e2); (try clear ha1); (try clear e1); (try clear hbA); (try clear hT0); (try clear Bs); (try clear Wk); (try clear Ss); (try clear hsz0); (try clear hend); (try clear hroom); omega) | omega)) (by (first | ((try clear ex9); (try clear f1); (try clear u1); (try clear hT); (try clear hO9); (try clear hP9); (try clear hz9); (try clear r1); (try clear ha2); (try clear e2); (try clear ha1); (try clear e1); (try clear hbA); (try clear hT0); (try clear Bs); (try clear Wk); (try clear Ss); (try clear hsz0); (try clear hend); (try clear hroom); omega) | omega)) (by (first | ((try clear ex9); (try clear f1); (try clear u1); (try clear hT); (try clear hO9); (try clear hP9); (try clear hz9); (try clear r1); (try clear ha2); (try clear e2); (try clear ha1); (try clear e1); (try clear hbA); (try clear hT0); (try clear Bs); (try clear Wk); (try clear Ss); (try clear hsz0); (try clear hend); (try clear hroom); (try clear hi); omega) | omega))) dL_law_812 ?_
  refine lv_topi (fun x9 ex9 => ?_)
  obtain rfl : x9 = iZ a2 := ex9.trans e2
  refine va_calli (va_runV (As := [.int (iZ a1), .int (iZ a2)]) (rest := []) ⟨hx, hb, hml, hown, hts⟩ (m_passes l dC dI cI cZ cII cIII (h0 + 233) H.size ν a1 a2 hT.1.1.1.1.2.1.1 ha1 ha2) (cwV 2 hts (gV_G k1671 k1672 k1673 k13 k1674) rfl rfl rfl (by decide +kernel) ⟨Nat.le_of_ble_eq_true rfl, Nat.le_of_ble_eq_true rfl⟩) ⟨fun a U g mk q => by obtain ⟨q0, q1, qP, qK⟩ := q; exact ⟨q0, q1, qP, va_K.moved (u := U) (U := U.calling g mk a) (Vm.Alike.refl U.vm) qK⟩, va_recv hKm hW.2.1 (ci := 10) (q0 := 0) rfl ((fw_get (by decide)).trans (by rw [mE_obj])), fun U hU hW9 => ⟨rfl, by rw [hU], by rw [hU]; exact hW.2.1, va_K.moved hW9.alike hKm⟩⟩ rfl rfl hl.1 rfl (lv_room (Nat.le_of_ble_eq_true rfl)) dL_law_813 ⟨by show cells + 1 + 0 ≤ 601024; (first | ((try clear ex9); (try clear f1); (try clear u1); (try clear hT); (try clear hO9); (try clear hP9); (try clear hz9); (try clear r1); (try clear ha2); (try clear e2); (try clear ha1); (try clear e1); (try clear hbA); (try clear hT0); (try clear Bs); (try clear Wk); (try clear Ss); (try clear hsz0); (try clear hend); (try clear hi); omega) | omega), by show slots + 6 + 0 ≤ 7293034; (first | ((try clear ex9); (try clear f1); (try clear u1); (try clear hT); (try clear hO9); (try clear hP9); (try clear hz9); (try clear r1); (try clear ha2); (try clear e2); (try clear ha1); (try clear e1); (try clear hbA); (try clear hT0); (try clear Bs); (try clear Wk); (try clear Ss); (try clear hsz0); (try clear hend); (try clear hi); omega) | omega)⟩) hS (fun q _ h => lA_f hS hsz0 (by (first | ((try clear h); (try clear ex9); (try clear f1); (try clear u1); (try clear hT); (try clear hO9); (try clear hP9); (try clear hz9); (try clear r1); (try clear ha2); (try clear e2); (try clear ha1); (try clear e1); (try clear hbA); (try clear hT0); (try clear Bs); (try clear Wk); (try clear Ss); (try clear hsz0); (try clear hend); (try clear hroom); (try clear hi); omega) | omega)) q h) (lA_f hS hsz0 (by (first | ((try clear ex9); (try clear f1); (try clear u1); (try clear hT); (try clear hO9); (try clear hP9); (try clear hz9); (try clear r1); (try clear ha2); (try clear e2); (try clear ha1); (try clear e1); (try clear hbA); (try clear hT0); (try clear Bs); (try clear Wk); (try clear Ss); (try clear hsz0); (try clear hend); (try clear hroom); (try clear hi); omega) | omega))) (fun r2 u9 t9 H1 locs ht9 hvm9 hw9 hB9 hz9 hk9 hS => ?_)
  obtain ⟨hP9, -⟩ := hB9
  rw [ht9] at hP9
  have hW := LW_m hW hk9 hP9
  obtain ⟨v1, q2⟩ := u9
  obtain ⟨er9, hw9⟩ := hw9
  have er2 : r2 = iZ q2 := er9
  subst er2
  have hT := LWt_ps hT hw9
  try dsimp only at hW hT
  clear hk9 hP9
  generalize H1 = H at hW hS ⊢
  refine lv_istore (lv' := [(6, .int (iZ q2)), (5, .int r1), (4, .int (iZ i)), (0, .ref b), (1, .ref h0), (2, .ref (h0 + 233)), (3, .ref (h0 + 6558))]) hx hb dL_law_816 hl (by decide) rfl (fun ls hl => ?_)
  refine lv_goto (tgt := 1468) hx hb dL_law_818 (by decide) ?_
  have hV9 : LW9 u1 v1 := ⟨T, Ss, Wk, Bs, hT⟩
  refine W.widen (k := cells + 1) (n := slots + 6) (by (first | ((try clear hT); (try clear er2); (try clear er9); (try clear q2); (try clear v1); (try clear hP9); (try clear hz9); (try clear r2); (try clear ex9); (try clear f1); (try clear u1); (try clear hO9); (try clear r1); (try clear ha2); (try clear e2); (try clear ha1); (try clear e1); (try clear hbA); (try clear hT0); (try clear Bs); (try clear Wk); (try clear Ss); (try clear hsz0); (try clear hend); (try clear hroom); (try clear hi); omega) | omega)) (by (first | ((try clear hT); (try clear er2); (try clear er9); (try clear q2); (try clear v1); (try clear hP9); (try clear hz9); (try clear r2); (try clear ex9); (try clear f1); (try clear u1); (try clear hO9); (try clear r1); (try clear ha2); (try clear e2); (try clear ha1); (try clear e1); (try clear hbA); (try clear hT0); (try clear Bs); (try clear Wk); (try clear Ss); (try clear hsz0); (try clear hend); (try clear hroom); (try clear hi); omega) | omega)) ?_
  exact hend _ _ _ H locs ls hV9 hW hS (lv_sub hl [2, 3, 4, 5, 6] rfl)
set_option maxHeartbeats 4000000 in
set_option maxRecDepth 100000 in
theorem lc_value {p : Program} {l : Launch} {e : Env} {s : State} {m : MethodId} {below : List Frame} {meth : Method} {c : Code} {dC : Nat → ClassId} {dI : Nat → Nat → Nat} {cI cL cII cR cZ cIII cO : ClassId} {h0 b L : Nat} {xs : Nat → Int32} (C0 : lx_C p l s m c b L xs dC dI cI cL cII cR cZ cIII cO h0) {i : Int} (hi : 0 ≤ i ∧ i + 6 ≤ L) {μ ν : va_M} {f : Nat → Int64} (hV : LW9 μ ν) {cells slots : Nat} (hroom : cells + 1 ≤ 601024 ∧ slots + 6 ≤ 7293034)
    (hend : ∀ (μ ν : va_M) (f : Nat → Int64) (H : Heap) (locs : List Loc) (ls : Array Slot), LW9 μ ν → LW dC dI cI cL cII cR cZ cIII cO h0 μ ν f H → va_S (lA h0) s.heap H locs → lv_has ls 7 [(4, .int (iZ i)), (0, .ref b), (1, .ref h0), (2, .ref (h0 + 233)), (3, .ref (h0 + 6558))] → W p l e room_1 s m #[Value.ref b] below meth c H locs (cells + 1) (slots + 6) (lw_Z below #[Value.ref b] s) (F0 m 1468 ls []))
    {H : Heap} {locs : List Loc} {ls : Array Slot} (hW : LW dC dI cI cL cII cR cZ cIII cO h0 μ ν f H) (hS : va_S (lA h0) s.heap H locs) (hl : lv_has ls 7 [(4, .int (iZ i)), (0, .ref b), (1, .ref h0), (2, .ref (h0 + 233)), (3, .ref (h0 + 6558))]) : W p l e room_1 s m #[Value.ref b] below meth c H locs cells slots (lw_Z below #[Value.ref b] s) (F0 m 821 ls []) := by
  obtain ⟨hfl, hx, hb, hml, hown, hts, hX, hbl, hsz0, hL9, hK, hKm, hKo, hM, hEx, hNc⟩ := C0
  obtain ⟨T, Ss, Wk, Bs, hT⟩ := hV
  have hT : LWt T Ss Wk Bs μ ν := hT
  have hT0 := hT
  have hbA : ¬ lA h0 b := Nat.not_le.mpr (by (first | ((try clear hbA); (try clear hT0); (try clear hT); (try clear Bs); (try clear Wk); (try clear Ss); (try clear hend); (try clear hroom); (try clear hi); omega) | omega))
  obtain ⟨a1, e1, ha1⟩ := iZ_ex (xs (iZ (i + 1)).toNatClampNeg)
  obtain ⟨a2, e2, ha2⟩ := iZ_ex (xs (iZ (i + 2)).toNatClampNeg)
  obtain ⟨a3, e3, ha3⟩ := iZ_ex (xs (iZ (i + 3)).toNatClampNeg)
  refine lv_aload_n hx hb dL_law_821 rfl (lv_at hl 2 rfl) ?_
  refine lv_aload_n hx hb dL_law_822 rfl (lv_at hl 1 rfl) ?_
  refine lv_iload hx hb dL_law_823 (lv_at hl 0 rfl) ?_
  refine lv_iconst (v := iZ 1) hx hb dL_law_825 rfl ?_
  refine lv_iadd hx hb dL_law_826 ?_
  refine lv_topi (fun x9 ex9 => ?_)
  obtain rfl : x9 = iZ (i + 1) := ex9.trans (iZ_add _ _)
  refine va_sld hx hb hX hbl hbA hS (iZ_in (by (first | ((try clear ex9); (try clear ha3); (try clear e3); (try clear ha2); (try clear e2); (try clear ha1); (try clear e1); (try clear hbA); (try clear hT0); (try clear hT); (try clear Bs); (try clear Wk); (try clear Ss); (try clear hsz0); (try clear hend); (try clear hroom); omega) | omega)) (by (first | ((try clear ex9); (try clear ha3); (try clear e3); (try clear ha2); (try clear e2); (try clear ha1); (try clear e1); (try clear hbA); (try clear hT0); (try clear hT); (try clear Bs); (try clear Wk); (try clear Ss); (try clear hsz0); (try clear hend); (try clear hroom); omega) | omega)) (by (first | ((try clear ex9); (try clear ha3); (try clear e3); (try clear ha2); (try clear e2); (try clear ha1); (try clear e1); (try clear hbA); (try clear hT0); (try clear hT); (try clear Bs); (try clear Wk); (try clear Ss); (try clear hsz0); (try clear hend); (try clear hroom); (try clear hi); omega) | omega))) dL_law_827 ?_
  refine lv_topi (fun x9 ex9 => ?_)
  obtain rfl : x9 = iZ a1 := ex9.trans e1
  refine lv_aload_n hx hb dL_law_828 rfl (lv_at hl 1 rfl) ?_
  refine lv_iload hx hb dL_law_829 (lv_at hl 0 rfl) ?_
  refine lv_iconst (v := iZ 2) hx hb dL_law_831 rfl ?_
  refine lv_iadd hx hb dL_law_832 ?_
  refine lv_topi (fun x9 ex9 => ?_)
  obtain rfl : x9 = iZ (i + 2) := ex9.trans (iZ_add _ _)
  refine va_sld hx hb hX hbl hbA hS (iZ_in (by (first | ((try clear ex9); (try clear ha3); (try clear e3); (try clear ha2); (try clear e2); (try clear ha1); (try clear e1); (try clear hbA); (try clear hT0); (try clear hT); (try clear Bs); (try clear Wk); (try clear Ss); (try clear hsz0); (try clear hend); (try clear hroom); omega) | omega)) (by (first | ((try clear ex9); (try clear ha3); (try clear e3); (try clear ha2); (try clear e2); (try clear ha1); (try clear e1); (try clear hbA); (try clear hT0); (try clear hT); (try clear Bs); (try clear Wk); (try clear Ss); (try clear hsz0); (try clear hend); (try clear hroom); omega) | omega)) (by (first | ((try clear ex9); (try clear ha3); (try clear e3); (try clear ha2); (try clear e2); (try clear ha1); (try clear e1); (try clear hbA); (try clear hT0); (try clear hT); (try clear Bs); (try clear Wk); (try clear Ss); (try clear hsz0); (try clear hend); (try clear hroom); (try clear hi); omega) | omega))) dL_law_833 ?_
  refine lv_topi (fun x9 ex9 => ?_)
  obtain rfl : x9 = iZ a2 := ex9.trans e2
  refine lv_aload_n hx hb dL_law_834 rfl (lv_at hl 1 rfl) ?_
  refine lv_iload hx hb dL_law_835 (lv_at hl 0 rfl) ?_
  refine lv_iconst (v := iZ 3) hx hb dL_law_837 rfl ?_
  refine lv_iadd hx hb dL_law_838 ?_
  refine lv_topi (fun x9 ex9 => ?_)
  obtain rfl : x9 = iZ (i + 3) := ex9.trans (iZ_add _ _)
  refine va_sld hx hb hX hbl hbA hS (iZ_in (by (first | ((try clear ex9); (try clear ha3); (try clear e3); (try clear ha2); (try clear e2); (try clear ha1); (try clear e1); (try clear hbA); (try clear hT0); (try clear hT); (try clear Bs); (try clear Wk); (try clear Ss); (try clear hsz0); (try clear hend); (try clear hroom); omega) | omega)) (by (first | ((try clear ex9); (try clear ha3); (try clear e3); (try clear ha2); (try clear e2); (try clear ha1); (try clear e1); (try clear hbA); (try clear hT0); (try clear hT); (try clear Bs); (try clear Wk); (try clear Ss); (try clear hsz0); (try clear hend); (try clear hroom); omega) | omega)) (by (first | ((try clear ex9); (try clear ha3); (try clear e3); (try clear ha2); (try clear e2); (try clear ha1); (try clear e1); (try clear hbA); (try clear hT0); (try clear hT); (try clear Bs); (try clear Wk); (try clear Ss); (try clear hsz0); (try clear hend); (try clear hroom); (try clear hi); omega) | omega))) dL_law_839 ?_
  refine lv_topi (fun x9 ex9 => ?_)
  obtain rfl : x9 = iZ a3 := ex9.trans e3
  refine lv_aload_n hx hb dL_law_840 rfl (lv_at hl 4 rfl) ?_
  refine va_calli (vx_runSW (hh := [(0, 12, 15, 20)]) (As := [.ref h0, .int (iZ a1), .int (iZ a2), .int (iZ a3), .ref (h0 + 6558)]) (rest := []) ⟨hx, hb, hml, hown, hts⟩ (w_value l hfl dC dI cI cL cII cR cO h0 (h0 + 6558) H.size μ f a1 a2 a3 T (hT.1.1.1.1.1) ha1 ha2 ha3 (by (first | ((try clear ex9); (try clear ha3); (try clear e3); (try clear ha2); (try clear e2); (try clear ha1); (try clear e1); (try clear hbA); (try clear hT0); (try clear hT); (try clear Bs); (try clear Wk); (try clear Ss); (try clear hsz0); (try clear hend); (try clear hroom); (try clear hi); omega) | omega))) (vx_cwSW 5 hts (gW_G k987 k988 k0 k989) rfl rfl rfl (by decide +kernel) ⟨Nat.le_of_ble_eq_true rfl, Nat.le_of_ble_eq_true rfl⟩) ⟨fun a U g mk q => by obtain ⟨q0, q1, qP, qO, qK, qKo, qM, qE, qN⟩ := q; exact ⟨q0, q1, qP, qO, va_K.moved (u := U) (U := U.calling g mk a) (Vm.Alike.refl U.vm) qK, va_K.moved (u := U) (U := U.calling g mk a) (Vm.Alike.refl U.vm) qKo, qM, xX_call qE, qN⟩, fun U hU hW9 => ⟨rfl, by rw [hU], by rw [hU]; exact hW.1, by rw [hU]; exact hW.2.2, va_K.moved hW9.alike hK, va_K.moved hW9.alike hKo, xM_warm hW9 hM, xX_at hEx hS (fun q h => lA_w hS hsz0 (by (first | ((try clear h); (try clear q); (try clear hU); (try clear U); (try clear mk); (try clear g); (try clear ex9); (try clear ha3); (try clear e3); (try clear ha2); (try clear e2); (try clear ha1); (try clear e1); (try clear hbA); (try clear hT0); (try clear hT); (try clear Bs); (try clear Wk); (try clear Ss); (try clear hsz0); (try clear hend); (try clear hroom); (try clear hi); omega) | omega)) q h) hU hW9, xNC_warm hW9 hNc⟩⟩ rfl rfl hl.1 rfl (lv_room (Nat.le_of_ble_eq_true rfl)) dL_law_841 ⟨by show cells + 1 ≤ 601024; (first | ((try clear ex9); (try clear ha3); (try clear e3); (try clear ha2); (try clear e2); (try clear ha1); (try clear e1); (try clear hbA); (try clear hT0); (try clear hT); (try clear Bs); (try clear Wk); (try clear Ss); (try clear hsz0); (try clear hend); (try clear hi); omega) | omega), by show slots + 6 ≤ 7293034; (first | ((try clear ex9); (try clear ha3); (try clear e3); (try clear ha2); (try clear e2); (try clear ha1); (try clear e1); (try clear hbA); (try clear hT0); (try clear hT); (try clear Bs); (try clear Wk); (try clear Ss); (try clear hsz0); (try clear hend); (try clear hi); omega) | omega)⟩) hS (fun q _ h => lA_w hS hsz0 (by (first | ((try clear h); (try clear ex9); (try clear ha3); (try clear e3); (try clear ha2); (try clear e2); (try clear ha1); (try clear e1); (try clear hbA); (try clear hT0); (try clear hT); (try clear Bs); (try clear Wk); (try clear Ss); (try clear hsz0); (try clear hend); (try clear hroom); (try clear hi); omega) | omega)) q h) (lA_w hS hsz0 (by (first | ((try clear ex9); (try clear ha3); (try clear e3); (try clear ha2); (try clear e2); (try clear ha1); (try clear e1); (try clear hbA); (try clear hT0); (try clear hT); (try clear Bs); (try clear Wk); (try clear Ss); (try clear hsz0); (try clear hend); (try clear hroom); (try clear hi); omega) | omega))) (fun r1 u9 t9 H1 locs ht9 hvm9 hw9 hB9 hz9 hk9 hS => ?_)
  obtain ⟨hP9, hO9⟩ := hB9
  rw [ht9] at hP9 hO9
  have hW := LW_w hW hk9 hP9 hO9
  have hT := LWt_c hT hw9
  obtain ⟨u1, f1⟩ := u9
  try dsimp only at hW hT
  clear hk9 hP9 hO9
  generalize H1 = H at hW hS ⊢
  refine lv_istore (lv' := [(5, .int r1), (4, .int (iZ i)), (0, .ref b), (1, .ref h0), (2, .ref (h0 + 233)), (3, .ref (h0 + 6558))]) hx hb dL_law_844 hl (by decide) rfl (fun ls hl => ?_)
  refine lv_aload_n hx hb dL_law_846 rfl (lv_at hl 4 rfl) ?_
  refine lv_aload_n hx hb dL_law_847 rfl (lv_at hl 2 rfl) ?_
  refine lv_iload hx hb dL_law_848 (lv_at hl 1 rfl) ?_
  refine lv_iconst (v := iZ 1) hx hb dL_law_850 rfl ?_
  refine lv_iadd hx hb dL_law_851 ?_
  refine lv_topi (fun x9 ex9 => ?_)
  obtain rfl : x9 = iZ (i + 1) := ex9.trans (iZ_add _ _)
  refine va_sld hx hb hX hbl hbA hS (iZ_in (by (first | ((try clear ex9); (try clear f1); (try clear u1); (try clear hT); (try clear hO9); (try clear hP9); (try clear hz9); (try clear r1); (try clear ha3); (try clear e3); (try clear ha2); (try clear e2); (try clear ha1); (try clear e1); (try clear hbA); (try clear hT0); (try clear Bs); (try clear Wk); (try clear Ss); (try clear hsz0); (try clear hend); (try clear hroom); omega) | omega)) (by (first | ((try clear ex9); (try clear f1); (try clear u1); (try clear hT); (try clear hO9); (try clear hP9); (try clear hz9); (try clear r1); (try clear ha3); (try clear e3); (try clear ha2); (try clear e2); (try clear ha1); (try clear e1); (try clear hbA); (try clear hT0); (try clear Bs); (try clear Wk); (try clear Ss); (try clear hsz0); (try clear hend); (try clear hroom); omega) | omega)) (by (first | ((try clear ex9); (try clear f1); (try clear u1); (try clear hT); (try clear hO9); (try clear hP9); (try clear hz9); (try clear r1); (try clear ha3); (try clear e3); (try clear ha2); (try clear e2); (try clear ha1); (try clear e1); (try clear hbA); (try clear hT0); (try clear Bs); (try clear Wk); (try clear Ss); (try clear hsz0); (try clear hend); (try clear hroom); (try clear hi); omega) | omega))) dL_law_852 ?_
  refine lv_topi (fun x9 ex9 => ?_)
  obtain rfl : x9 = iZ a1 := ex9.trans e1
  refine lv_aload_n hx hb dL_law_853 rfl (lv_at hl 2 rfl) ?_
  refine lv_iload hx hb dL_law_854 (lv_at hl 1 rfl) ?_
  refine lv_iconst (v := iZ 2) hx hb dL_law_856 rfl ?_
  refine lv_iadd hx hb dL_law_857 ?_
  refine lv_topi (fun x9 ex9 => ?_)
  obtain rfl : x9 = iZ (i + 2) := ex9.trans (iZ_add _ _)
  refine va_sld hx hb hX hbl hbA hS (iZ_in (by (first | ((try clear ex9); (try clear f1); (try clear u1); (try clear hT); (try clear hO9); (try clear hP9); (try clear hz9); (try clear r1); (try clear ha3); (try clear e3); (try clear ha2); (try clear e2); (try clear ha1); (try clear e1); (try clear hbA); (try clear hT0); (try clear Bs); (try clear Wk); (try clear Ss); (try clear hsz0); (try clear hend); (try clear hroom); omega) | omega)) (by (first | ((try clear ex9); (try clear f1); (try clear u1); (try clear hT); (try clear hO9); (try clear hP9); (try clear hz9); (try clear r1); (try clear ha3); (try clear e3); (try clear ha2); (try clear e2); (try clear ha1); (try clear e1); (try clear hbA); (try clear hT0); (try clear Bs); (try clear Wk); (try clear Ss); (try clear hsz0); (try clear hend); (try clear hroom); omega) | omega)) (by (first | ((try clear ex9); (try clear f1); (try clear u1); (try clear hT); (try clear hO9); (try clear hP9); (try clear hz9); (try clear r1); (try clear ha3); (try clear e3); (try clear ha2); (try clear e2); (try clear ha1); (try clear e1); (try clear hbA); (try clear hT0); (try clear Bs); (try clear Wk); (try clear Ss); (try clear hsz0); (try clear hend); (try clear hroom); (try clear hi); omega) | omega))) dL_law_858 ?_
  refine lv_topi (fun x9 ex9 => ?_)
  obtain rfl : x9 = iZ a2 := ex9.trans e2
  refine lv_aload_n hx hb dL_law_859 rfl (lv_at hl 2 rfl) ?_
  refine lv_iload hx hb dL_law_860 (lv_at hl 1 rfl) ?_
  refine lv_iconst (v := iZ 3) hx hb dL_law_862 rfl ?_
  refine lv_iadd hx hb dL_law_863 ?_
  refine lv_topi (fun x9 ex9 => ?_)
  obtain rfl : x9 = iZ (i + 3) := ex9.trans (iZ_add _ _)
  refine va_sld hx hb hX hbl hbA hS (iZ_in (by (first | ((try clear ex9); (try clear f1); (try clear u1); (try clear hT); (try clear hO9); (try clear hP9); (try clear hz9); (try clear r1); (try clear ha3); (try clear e3); (try clear ha2); (try clear e2); (try clear ha1); (try clear e1); (try clear hbA); (try clear hT0); (try clear Bs); (try clear Wk); (try clear Ss); (try clear hsz0); (try clear hend); (try clear hroom); omega) | omega)) (by (first | ((try clear ex9); (try clear f1); (try clear u1); (try clear hT); (try clear hO9); (try clear hP9); (try clear hz9); (try clear r1); (try clear ha3); (try clear e3); (try clear ha2); (try clear e2); (try clear ha1); (try clear e1); (try clear hbA); (try clear hT0); (try clear Bs); (try clear Wk); (try clear Ss); (try clear hsz0); (try clear hend); (try clear hroom); omega) | omega)) (by (first | ((try clear ex9); (try clear f1); (try clear u1); (try clear hT); (try clear hO9); (try clear hP9); (try clear hz9); (try clear r1); (try clear ha3); (try clear e3); (try clear ha2); (try clear e2); (try clear ha1); (try clear e1); (try clear hbA); (try clear hT0); (try clear Bs); (try clear Wk); (try clear Ss); (try clear hsz0); (try clear hend); (try clear hroom); (try clear hi); omega) | omega))) dL_law_864 ?_
  refine lv_topi (fun x9 ex9 => ?_)
  obtain rfl : x9 = iZ a3 := ex9.trans e3
  refine va_calli (va_runV (As := [.int (iZ a1), .int (iZ a2), .int (iZ a3)]) (rest := []) ⟨hx, hb, hml, hown, hts⟩ (m_value l dC dI cI cZ cII cIII (h0 + 233) H.size ν a1 a2 a3 hT.1.1.1.1.2.1.1 ha1 ha2 ha3) (cwV 3 hts (gV_G k1675 k1676 k1677 k13 k1678) rfl rfl rfl (by decide +kernel) ⟨Nat.le_of_ble_eq_true rfl, Nat.le_of_ble_eq_true rfl⟩) ⟨fun a U g mk q => by obtain ⟨q0, q1, qP, qK⟩ := q; exact ⟨q0, q1, qP, va_K.moved (u := U) (U := U.calling g mk a) (Vm.Alike.refl U.vm) qK⟩, va_recv hKm hW.2.1 (ci := 10) (q0 := 0) rfl ((fw_get (by decide)).trans (by rw [mE_obj])), fun U hU hW9 => ⟨rfl, by rw [hU], by rw [hU]; exact hW.2.1, va_K.moved hW9.alike hKm⟩⟩ rfl rfl hl.1 rfl (lv_room (Nat.le_of_ble_eq_true rfl)) dL_law_865 ⟨by show cells + 1 + 0 ≤ 601024; (first | ((try clear ex9); (try clear f1); (try clear u1); (try clear hT); (try clear hO9); (try clear hP9); (try clear hz9); (try clear r1); (try clear ha3); (try clear e3); (try clear ha2); (try clear e2); (try clear ha1); (try clear e1); (try clear hbA); (try clear hT0); (try clear Bs); (try clear Wk); (try clear Ss); (try clear hsz0); (try clear hend); (try clear hi); omega) | omega), by show slots + 6 + 0 ≤ 7293034; (first | ((try clear ex9); (try clear f1); (try clear u1); (try clear hT); (try clear hO9); (try clear hP9); (try clear hz9); (try clear r1); (try clear ha3); (try clear e3); (try clear ha2); (try clear e2); (try clear ha1); (try clear e1); (try clear hbA); (try clear hT0); (try clear Bs); (try clear Wk); (try clear Ss); (try clear hsz0); (try clear hend); (try clear hi); omega) | omega)⟩) hS (fun q _ h => lA_f hS hsz0 (by (first | ((try clear h); (try clear ex9); (try clear f1); (try clear u1); (try clear hT); (try clear hO9); (try clear hP9); (try clear hz9); (try clear r1); (try clear ha3); (try clear e3); (try clear ha2); (try clear e2); (try clear ha1); (try clear e1); (try clear hbA); (try clear hT0); (try clear Bs); (try clear Wk); (try clear Ss); (try clear hsz0); (try clear hend); (try clear hroom); (try clear hi); omega) | omega)) q h) (lA_f hS hsz0 (by (first | ((try clear ex9); (try clear f1); (try clear u1); (try clear hT); (try clear hO9); (try clear hP9); (try clear hz9); (try clear r1); (try clear ha3); (try clear e3); (try clear ha2); (try clear e2); (try clear ha1); (try clear e1); (try clear hbA); (try clear hT0); (try clear Bs); (try clear Wk); (try clear Ss); (try clear hsz0); (try clear hend); (try clear hroom); (try clear hi); omega) | omega))) (fun r2 u9 t9 H1 locs ht9 hvm9 hw9 hB9 hz9 hk9 hS => ?_)
  obtain ⟨hP9, -⟩ := hB9
  rw [ht9] at hP9
  have hW := LW_m hW hk9 hP9
  obtain ⟨v1, q2⟩ := u9
  obtain ⟨er9, hw9⟩ := hw9
  have er2 : r2 = iZ q2 := er9
  subst er2
  have hT := LWt_ps hT hw9
  try dsimp only at hW hT
  clear hk9 hP9
  generalize H1 = H at hW hS ⊢
  refine lv_istore (lv' := [(6, .int (iZ q2)), (5, .int r1), (4, .int (iZ i)), (0, .ref b), (1, .ref h0), (2, .ref (h0 + 233)), (3, .ref (h0 + 6558))]) hx hb dL_law_868 hl (by decide) rfl (fun ls hl => ?_)
  refine lv_goto (tgt := 1468) hx hb dL_law_870 (by decide) ?_
  have hV9 : LW9 u1 v1 := ⟨T, Ss, Wk, Bs, hT⟩
  refine W.widen (k := cells + 1) (n := slots + 6) (by (first | ((try clear hT); (try clear er2); (try clear er9); (try clear q2); (try clear v1); (try clear hP9); (try clear hz9); (try clear r2); (try clear ex9); (try clear f1); (try clear u1); (try clear hO9); (try clear r1); (try clear ha3); (try clear e3); (try clear ha2); (try clear e2); (try clear ha1); (try clear e1); (try clear hbA); (try clear hT0); (try clear Bs); (try clear Wk); (try clear Ss); (try clear hsz0); (try clear hend); (try clear hroom); (try clear hi); omega) | omega)) (by (first | ((try clear hT); (try clear er2); (try clear er9); (try clear q2); (try clear v1); (try clear hP9); (try clear hz9); (try clear r2); (try clear ex9); (try clear f1); (try clear u1); (try clear hO9); (try clear r1); (try clear ha3); (try clear e3); (try clear ha2); (try clear e2); (try clear ha1); (try clear e1); (try clear hbA); (try clear hT0); (try clear Bs); (try clear Wk); (try clear Ss); (try clear hsz0); (try clear hend); (try clear hroom); (try clear hi); omega) | omega)) ?_
  exact hend _ _ _ H locs ls hV9 hW hS (lv_sub hl [2, 3, 4, 5, 6] rfl)

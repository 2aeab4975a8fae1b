set_option maxRecDepth 100000 in
theorem k531 : (Cond.methodLink "PageSkeletonLaw" (238 : Nat) ({ cls := "PageSkeleton", name := "fitting", desc := "()I" } : MethodName)) ∈ wsG := wsG_a3 51 rfl rfl
set_option maxRecDepth 100000 in
theorem k532 : (Cond.instanceMethod ({ cls := "PageSkeleton", name := "fitting", desc := "()I" } : MethodName)) ∈ wsG := wsG_a3 52 rfl rfl
set_option maxRecDepth 100000 in
theorem k533 : (Cond.selects "PageSkeleton" ({ cls := "PageSkeleton", name := "fitting", desc := "()I" } : MethodName) ({ cls := "PageSkeleton", name := "fitting", desc := "()I" } : MethodName)) ∈ wsG := wsG_a3 53 rfl rfl
set_option maxRecDepth 100000 in
theorem k534 : (Cond.code ({ cls := "PageSkeleton", name := "fitting", desc := "()I" } : MethodName) prog_1_method_38_code (3 : Nat) (Option.some FieldType.int)) ∈ wsG := wsG_a3 54 rfl rfl
set_option maxRecDepth 100000 in
theorem k583 : (Cond.methodLink "PageSkeletonLaw" (242 : Nat) ({ cls := "PageSkeleton", name := "status", desc := "(I)I" } : MethodName)) ∈ wsG := wsG_a3 103 rfl rfl
set_option maxRecDepth 100000 in
theorem k584 : (Cond.instanceMethod ({ cls := "PageSkeleton", name := "status", desc := "(I)I" } : MethodName)) ∈ wsG := wsG_a3 104 rfl rfl
set_option maxRecDepth 100000 in
theorem k585 : (Cond.selects "PageSkeleton" ({ cls := "PageSkeleton", name := "status", desc := "(I)I" } : MethodName) ({ cls := "PageSkeleton", name := "status", desc := "(I)I" } : MethodName)) ∈ wsG := wsG_a3 105 rfl rfl
set_option maxRecDepth 100000 in
theorem k586 : (Cond.code ({ cls := "PageSkeleton", name := "status", desc := "(I)I" } : MethodName) prog_1_method_39_code (2 : Nat) (Option.some FieldType.int)) ∈ wsG := wsG_a3 106 rfl rfl
set_option maxRecDepth 100000 in
theorem k1101 : (Cond.methodLink "PageSkeletonLaw" (214 : Nat) ({ cls := "PageSkeletonLaw", name := "cuts", desc := "(LPageSkeleton;I[J)I" } : MethodName)) ∈ wsG := wsG_a5 141 rfl rfl
set_option maxRecDepth 100000 in
theorem k1102 : (Cond.static ({ cls := "PageSkeletonLaw", name := "cuts", desc := "(LPageSkeleton;I[J)I" } : MethodName)) ∈ wsG := wsG_a5 142 rfl rfl
set_option maxRecDepth 100000 in
theorem k1103 : (Cond.codeWith ({ cls := "PageSkeletonLaw", name := "cuts", desc := "(LPageSkeleton;I[J)I" } : MethodName) method_26_code (4 : Nat) (Option.some FieldType.int) [((0 : Nat), (9 : Nat), (12 : Nat), (20 : Nat))]) ∈ wsG := wsG_a5 143 rfl rfl
set_option maxRecDepth 100000 in
theorem k1108 : (Cond.methodLink "PageSkeletonLaw" (220 : Nat) ({ cls := "PageSkeletonLaw", name := "derived", desc := "(LPageSkeleton;I[J)I" } : MethodName)) ∈ wsG := wsG_a5 148 rfl rfl
set_option maxRecDepth 100000 in
theorem k1109 : (Cond.static ({ cls := "PageSkeletonLaw", name := "derived", desc := "(LPageSkeleton;I[J)I" } : MethodName)) ∈ wsG := wsG_a5 149 rfl rfl
set_option maxRecDepth 100000 in
theorem k1110 : (Cond.codeWith ({ cls := "PageSkeletonLaw", name := "derived", desc := "(LPageSkeleton;I[J)I" } : MethodName) method_27_code (4 : Nat) (Option.some FieldType.int) [((0 : Nat), (9 : Nat), (12 : Nat), (13 : Nat))]) ∈ wsG := wsG_a5 150 rfl rfl
set_option maxRecDepth 100000 in
theorem k1115 : (Cond.methodLink "PageSkeletonLaw" (223 : Nat) ({ cls := "PageSkeletonLaw", name := "common", desc := "(LPageSkeleton;II[J)I" } : MethodName)) ∈ wsG := wsG_a5 155 rfl rfl
set_option maxRecDepth 100000 in
theorem k1116 : (Cond.static ({ cls := "PageSkeletonLaw", name := "common", desc := "(LPageSkeleton;II[J)I" } : MethodName)) ∈ wsG := wsG_a5 156 rfl rfl
set_option maxRecDepth 100000 in
theorem k1117 : (Cond.codeWith ({ cls := "PageSkeletonLaw", name := "common", desc := "(LPageSkeleton;II[J)I" } : MethodName) method_28_code (5 : Nat) (Option.some FieldType.int) [((0 : Nat), (10 : Nat), (13 : Nat), (20 : Nat))]) ∈ wsG := wsG_a5 157 rfl rfl
set_option maxRecDepth 100000 in
theorem k1128 : (Cond.methodLink "PageSkeletonLaw" (226 : Nat) ({ cls := "PageSkeletonLaw", name := "similar", desc := "(LPageSkeleton;II[J)I" } : MethodName)) ∈ wsG := wsG_a5 168 rfl rfl
set_option maxRecDepth 100000 in
theorem k1129 : (Cond.static ({ cls := "PageSkeletonLaw", name := "similar", desc := "(LPageSkeleton;II[J)I" } : MethodName)) ∈ wsG := wsG_a5 169 rfl rfl
set_option maxRecDepth 100000 in
theorem k1130 : (Cond.codeWith ({ cls := "PageSkeletonLaw", name := "similar", desc := "(LPageSkeleton;II[J)I" } : MethodName) method_29_code (5 : Nat) (Option.some FieldType.int) [((0 : Nat), (17 : Nat), (20 : Nat), (20 : Nat))]) ∈ wsG := wsG_a5 170 rfl rfl
set_option maxRecDepth 100000 in
theorem k1135 : (Cond.methodLink "PageSkeletonLaw" (229 : Nat) ({ cls := "PageSkeletonLaw", name := "step", desc := "(LPageSkeleton;III[J)I" } : MethodName)) ∈ wsG := wsG_a5 175 rfl rfl
set_option maxRecDepth 100000 in
theorem k1136 : (Cond.static ({ cls := "PageSkeletonLaw", name := "step", desc := "(LPageSkeleton;III[J)I" } : MethodName)) ∈ wsG := wsG_a5 176 rfl rfl
set_option maxRecDepth 100000 in
theorem k1137 : (Cond.codeWith ({ cls := "PageSkeletonLaw", name := "step", desc := "(LPageSkeleton;III[J)I" } : MethodName) method_30_code (6 : Nat) (Option.some FieldType.int) [((0 : Nat), (12 : Nat), (15 : Nat), (20 : Nat)), ((0 : Nat), (12 : Nat), (19 : Nat), (13 : Nat))]) ∈ wsG := wsG_a5 177 rfl rfl
set_option maxRecDepth 100000 in
theorem k1142 : (Cond.methodLink "PageSkeletonLaw" (232 : Nat) ({ cls := "PageSkeletonLaw", name := "users", desc := "(LPageSkeleton;I[J)I" } : MethodName)) ∈ wsG := wsG_a5 182 rfl rfl
set_option maxRecDepth 100000 in
theorem k1143 : (Cond.static ({ cls := "PageSkeletonLaw", name := "users", desc := "(LPageSkeleton;I[J)I" } : MethodName)) ∈ wsG := wsG_a5 183 rfl rfl
set_option maxRecDepth 100000 in
theorem k1144 : (Cond.codeWith ({ cls := "PageSkeletonLaw", name := "users", desc := "(LPageSkeleton;I[J)I" } : MethodName) method_31_code (4 : Nat) (Option.some FieldType.int) [((0 : Nat), (9 : Nat), (12 : Nat), (20 : Nat))]) ∈ wsG := wsG_a5 184 rfl rfl
set_option maxRecDepth 100000 in
theorem k1149 : (Cond.methodLink "PageSkeletonLaw" (235 : Nat) ({ cls := "PageSkeletonLaw", name := "greatest", desc := "(LPageSkeleton;I[J)I" } : MethodName)) ∈ wsG := wsG_a5 189 rfl rfl
set_option maxRecDepth 100000 in
theorem k1150 : (Cond.static ({ cls := "PageSkeletonLaw", name := "greatest", desc := "(LPageSkeleton;I[J)I" } : MethodName)) ∈ wsG := wsG_a5 190 rfl rfl
set_option maxRecDepth 100000 in
theorem k1151 : (Cond.codeWith ({ cls := "PageSkeletonLaw", name := "greatest", desc := "(LPageSkeleton;I[J)I" } : MethodName) method_32_code (4 : Nat) (Option.some FieldType.int) [((0 : Nat), (9 : Nat), (12 : Nat), (20 : Nat))]) ∈ wsG := wsG_a5 191 rfl rfl
set_option maxRecDepth 100000 in
theorem k1327 : (Cond.methodLink "PageSkeletonLaw" (217 : Nat) ({ cls := "PageSkeletonModel", name := "thrown", desc := "()I" } : MethodName)) ∈ wsG := wsG_a6 127 rfl rfl
set_option maxRecDepth 100000 in
theorem k1328 : (Cond.instanceMethod ({ cls := "PageSkeletonModel", name := "thrown", desc := "()I" } : MethodName)) ∈ wsG := wsG_a6 128 rfl rfl
set_option maxRecDepth 100000 in
theorem k1329 : (Cond.selects "PageSkeletonModel" ({ cls := "PageSkeletonModel", name := "thrown", desc := "()I" } : MethodName) ({ cls := "PageSkeletonModel", name := "thrown", desc := "()I" } : MethodName)) ∈ wsG := wsG_a6 129 rfl rfl
set_option maxRecDepth 100000 in
theorem k1330 : (Cond.code ({ cls := "PageSkeletonModel", name := "thrown", desc := "()I" } : MethodName) prog_12_method_2_code (1 : Nat) (Option.some FieldType.int)) ∈ wsG := wsG_a6 130 rfl rfl
set_option maxRecDepth 100000 in
theorem k1647 : (Cond.methodLink "PageSkeletonLaw" (241 : Nat) ({ cls := "PageSkeletonModel", name := "fitting", desc := "()I" } : MethodName)) ∈ wsG := wsG_a7 207 rfl rfl
set_option maxRecDepth 100000 in
theorem k1648 : (Cond.instanceMethod ({ cls := "PageSkeletonModel", name := "fitting", desc := "()I" } : MethodName)) ∈ wsG := wsG_a7 208 rfl rfl
set_option maxRecDepth 100000 in
theorem k1649 : (Cond.selects "PageSkeletonModel" ({ cls := "PageSkeletonModel", name := "fitting", desc := "()I" } : MethodName) ({ cls := "PageSkeletonModel", name := "fitting", desc := "()I" } : MethodName)) ∈ wsG := wsG_a7 209 rfl rfl
set_option maxRecDepth 100000 in
theorem k1650 : (Cond.code ({ cls := "PageSkeletonModel", name := "fitting", desc := "()I" } : MethodName) prog_12_method_83_code (3 : Nat) (Option.some FieldType.int)) ∈ wsG := wsG_a7 210 rfl rfl
set_option maxRecDepth 100000 in
theorem k1687 : (Cond.methodLink "PageSkeletonLaw" (234 : Nat) ({ cls := "PageSkeletonModel", name := "users", desc := "(I)I" } : MethodName)) ∈ wsG := wsG_a8 7 rfl rfl
set_option maxRecDepth 100000 in
theorem k1688 : (Cond.instanceMethod ({ cls := "PageSkeletonModel", name := "users", desc := "(I)I" } : MethodName)) ∈ wsG := wsG_a8 8 rfl rfl
set_option maxRecDepth 100000 in
theorem k1689 : (Cond.selects "PageSkeletonModel" ({ cls := "PageSkeletonModel", name := "users", desc := "(I)I" } : MethodName) ({ cls := "PageSkeletonModel", name := "users", desc := "(I)I" } : MethodName)) ∈ wsG := wsG_a8 9 rfl rfl
set_option maxRecDepth 100000 in
theorem k1690 : (Cond.code ({ cls := "PageSkeletonModel", name := "users", desc := "(I)I" } : MethodName) prog_12_method_93_code (4 : Nat) (Option.some FieldType.int)) ∈ wsG := wsG_a8 10 rfl rfl
set_option maxRecDepth 100000 in
theorem k1691 : (Cond.methodLink "PageSkeletonLaw" (237 : Nat) ({ cls := "PageSkeletonModel", name := "greatest", desc := "(I)I" } : MethodName)) ∈ wsG := wsG_a8 11 rfl rfl
set_option maxRecDepth 100000 in
theorem k1692 : (Cond.instanceMethod ({ cls := "PageSkeletonModel", name := "greatest", desc := "(I)I" } : MethodName)) ∈ wsG := wsG_a8 12 rfl rfl
set_option maxRecDepth 100000 in
theorem k1693 : (Cond.selects "PageSkeletonModel" ({ cls := "PageSkeletonModel", name := "greatest", desc := "(I)I" } : MethodName) ({ cls := "PageSkeletonModel", name := "greatest", desc := "(I)I" } : MethodName)) ∈ wsG := wsG_a8 13 rfl rfl
set_option maxRecDepth 100000 in
theorem k1694 : (Cond.code ({ cls := "PageSkeletonModel", name := "greatest", desc := "(I)I" } : MethodName) prog_12_method_94_code (4 : Nat) (Option.some FieldType.int)) ∈ wsG := wsG_a8 14 rfl rfl
set_option maxRecDepth 100000 in
theorem k1739 : (Cond.methodLink "PageSkeletonLaw" (216 : Nat) ({ cls := "PageSkeletonModel", name := "cuts", desc := "(I)I" } : MethodName)) ∈ wsG := wsG_a8 59 rfl rfl
set_option maxRecDepth 100000 in
theorem k1740 : (Cond.instanceMethod ({ cls := "PageSkeletonModel", name := "cuts", desc := "(I)I" } : MethodName)) ∈ wsG := wsG_a8 60 rfl rfl
set_option maxRecDepth 100000 in
theorem k1741 : (Cond.selects "PageSkeletonModel" ({ cls := "PageSkeletonModel", name := "cuts", desc := "(I)I" } : MethodName) ({ cls := "PageSkeletonModel", name := "cuts", desc := "(I)I" } : MethodName)) ∈ wsG := wsG_a8 61 rfl rfl
set_option maxRecDepth 100000 in
theorem k1742 : (Cond.code ({ cls := "PageSkeletonModel", name := "cuts", desc := "(I)I" } : MethodName) prog_12_method_107_code (8 : Nat) (Option.some FieldType.int)) ∈ wsG := wsG_a8 62 rfl rfl
set_option maxRecDepth 100000 in
theorem k1747 : (Cond.methodLink "PageSkeletonLaw" (222 : Nat) ({ cls := "PageSkeletonModel", name := "derived", desc := "(I)I" } : MethodName)) ∈ wsG := wsG_a8 67 rfl rfl
set_option maxRecDepth 100000 in
theorem k1748 : (Cond.instanceMethod ({ cls := "PageSkeletonModel", name := "derived", desc := "(I)I" } : MethodName)) ∈ wsG := wsG_a8 68 rfl rfl
set_option maxRecDepth 100000 in
theorem k1749 : (Cond.selects "PageSkeletonModel" ({ cls := "PageSkeletonModel", name := "derived", desc := "(I)I" } : MethodName) ({ cls := "PageSkeletonModel", name := "derived", desc := "(I)I" } : MethodName)) ∈ wsG := wsG_a8 69 rfl rfl
set_option maxRecDepth 100000 in
theorem k1750 : (Cond.code ({ cls := "PageSkeletonModel", name := "derived", desc := "(I)I" } : MethodName) prog_12_method_108_code (6 : Nat) (Option.some FieldType.int)) ∈ wsG := wsG_a8 70 rfl rfl
set_option maxRecDepth 100000 in
theorem k1751 : (Cond.methodLink "PageSkeletonLaw" (225 : Nat) ({ cls := "PageSkeletonModel", name := "common", desc := "(II)I" } : MethodName)) ∈ wsG := wsG_a8 71 rfl rfl
set_option maxRecDepth 100000 in
theorem k1752 : (Cond.instanceMethod ({ cls := "PageSkeletonModel", name := "common", desc := "(II)I" } : MethodName)) ∈ wsG := wsG_a8 72 rfl rfl
set_option maxRecDepth 100000 in
theorem k1753 : (Cond.selects "PageSkeletonModel" ({ cls := "PageSkeletonModel", name := "common", desc := "(II)I" } : MethodName) ({ cls := "PageSkeletonModel", name := "common", desc := "(II)I" } : MethodName)) ∈ wsG := wsG_a8 73 rfl rfl
set_option maxRecDepth 100000 in
theorem k1754 : (Cond.code ({ cls := "PageSkeletonModel", name := "common", desc := "(II)I" } : MethodName) prog_12_method_109_code (6 : Nat) (Option.some FieldType.int)) ∈ wsG := wsG_a8 74 rfl rfl
set_option maxRecDepth 100000 in
theorem k1755 : (Cond.methodLink "PageSkeletonLaw" (228 : Nat) ({ cls := "PageSkeletonModel", name := "similar", desc := "(II)Z" } : MethodName)) ∈ wsG := wsG_a8 75 rfl rfl
set_option maxRecDepth 100000 in
theorem k1756 : (Cond.instanceMethod ({ cls := "PageSkeletonModel", name := "similar", desc := "(II)Z" } : MethodName)) ∈ wsG := wsG_a8 76 rfl rfl
set_option maxRecDepth 100000 in
theorem k1757 : (Cond.selects "PageSkeletonModel" ({ cls := "PageSkeletonModel", name := "similar", desc := "(II)Z" } : MethodName) ({ cls := "PageSkeletonModel", name := "similar", desc := "(II)Z" } : MethodName)) ∈ wsG := wsG_a8 77 rfl rfl
set_option maxRecDepth 100000 in
theorem k1758 : (Cond.code ({ cls := "PageSkeletonModel", name := "similar", desc := "(II)Z" } : MethodName) prog_12_method_110_code (7 : Nat) (Option.some FieldType.boolean)) ∈ wsG := wsG_a8 78 rfl rfl
set_option maxRecDepth 100000 in
theorem k1759 : (Cond.methodLink "PageSkeletonLaw" (231 : Nat) ({ cls := "PageSkeletonModel", name := "step", desc := "(III)I" } : MethodName)) ∈ wsG := wsG_a8 79 rfl rfl
set_option maxRecDepth 100000 in
theorem k1760 : (Cond.instanceMethod ({ cls := "PageSkeletonModel", name := "step", desc := "(III)I" } : MethodName)) ∈ wsG := wsG_a8 80 rfl rfl
set_option maxRecDepth 100000 in
theorem k1761 : (Cond.selects "PageSkeletonModel" ({ cls := "PageSkeletonModel", name := "step", desc := "(III)I" } : MethodName) ({ cls := "PageSkeletonModel", name := "step", desc := "(III)I" } : MethodName)) ∈ wsG := wsG_a8 81 rfl rfl
set_option maxRecDepth 100000 in
theorem k1762 : (Cond.code ({ cls := "PageSkeletonModel", name := "step", desc := "(III)I" } : MethodName) prog_12_method_111_code (4 : Nat) (Option.some FieldType.int)) ∈ wsG := wsG_a8 82 rfl rfl
set_option maxRecDepth 100000 in
theorem k1763 : (Cond.methodLink "PageSkeletonLaw" (245 : Nat) ({ cls := "PageSkeletonModel", name := "status", desc := "(I)I" } : MethodName)) ∈ wsG := wsG_a8 83 rfl rfl
set_option maxRecDepth 100000 in
theorem k1764 : (Cond.instanceMethod ({ cls := "PageSkeletonModel", name := "status", desc := "(I)I" } : MethodName)) ∈ wsG := wsG_a8 84 rfl rfl
set_option maxRecDepth 100000 in
theorem k1765 : (Cond.selects "PageSkeletonModel" ({ cls := "PageSkeletonModel", name := "status", desc := "(I)I" } : MethodName) ({ cls := "PageSkeletonModel", name := "status", desc := "(I)I" } : MethodName)) ∈ wsG := wsG_a8 85 rfl rfl
set_option maxRecDepth 100000 in
theorem k1766 : (Cond.code ({ cls := "PageSkeletonModel", name := "status", desc := "(I)I" } : MethodName) prog_12_method_112_code (2 : Nat) (Option.some FieldType.int)) ∈ wsG := wsG_a8 86 rfl rfl
theorem dL_law_1158 : decode cL_law 1158 = .ok (.aload_n 1, 1) := by decide +kernel
theorem dL_law_1159 : decode cL_law 1159 = .ok (.aload_n 0, 1) := by decide +kernel
theorem dL_law_1160 : decode cL_law 1160 = .ok (.iload 4, 2) := by decide +kernel
theorem dL_law_1162 : decode cL_law 1162 = .ok (.iconst 1, 1) := by decide +kernel
theorem dL_law_1163 : decode cL_law 1163 = .ok (.iadd, 1) := by decide +kernel
theorem dL_law_1164 : decode cL_law 1164 = .ok (.iaload, 1) := by decide +kernel
theorem dL_law_1165 : decode cL_law 1165 = .ok (.aload_n 3, 1) := by decide +kernel
theorem dL_law_1166 : decode cL_law 1166 = .ok (.invokestatic 214, 3) := by decide +kernel
theorem dL_law_1169 : decode cL_law 1169 = .ok (.istore 5, 2) := by decide +kernel
theorem dL_law_1171 : decode cL_law 1171 = .ok (.aload_n 2, 1) := by decide +kernel
theorem dL_law_1172 : decode cL_law 1172 = .ok (.aload_n 0, 1) := by decide +kernel
theorem dL_law_1173 : decode cL_law 1173 = .ok (.iload 4, 2) := by decide +kernel
theorem dL_law_1175 : decode cL_law 1175 = .ok (.iconst 1, 1) := by decide +kernel
theorem dL_law_1176 : decode cL_law 1176 = .ok (.iadd, 1) := by decide +kernel
theorem dL_law_1177 : decode cL_law 1177 = .ok (.iaload, 1) := by decide +kernel
theorem dL_law_1178 : decode cL_law 1178 = .ok (.invokevirtual 216, 3) := by decide +kernel
theorem dL_law_1181 : decode cL_law 1181 = .ok (.istore 6, 2) := by decide +kernel
theorem dL_law_1183 : decode cL_law 1183 = .ok (.aload_n 2, 1) := by decide +kernel
theorem dL_law_1184 : decode cL_law 1184 = .ok (.invokevirtual 217, 3) := by decide +kernel
theorem dL_law_1187 : decode cL_law 1187 = .ok (.iload 5, 2) := by decide +kernel
theorem dL_law_1189 : decode cL_law 1189 = .ok (.if_icmp .eq 5, 3) := by decide +kernel
theorem dL_law_1194 : decode cL_law 1194 = .ok (.iload 5, 2) := by decide +kernel
theorem dL_law_1196 : decode cL_law 1196 = .ok (.ifCond .ne 15, 3) := by decide +kernel
theorem dL_law_1199 : decode cL_law 1199 = .ok (.aload_n 3, 1) := by decide +kernel
theorem dL_law_1200 : decode cL_law 1200 = .ok (.iconst 0, 1) := by decide +kernel
theorem dL_law_1201 : decode cL_law 1201 = .ok (.laload, 1) := by decide +kernel
theorem dL_law_1202 : decode cL_law 1202 = .ok (.iload 6, 2) := by decide +kernel
theorem dL_law_1204 : decode cL_law 1204 = .ok (.i2l, 1) := by decide +kernel
theorem dL_law_1205 : decode cL_law 1205 = .ok (.lcmp, 1) := by decide +kernel
theorem dL_law_1206 : decode cL_law 1206 = .ok (.ifCond .eq 5, 3) := by decide +kernel
theorem dL_law_1211 : decode cL_law 1211 = .ok (.goto 257, 3) := by decide +kernel
theorem dL_law_1214 : decode cL_law 1214 = .ok (.aload_n 1, 1) := by decide +kernel
theorem dL_law_1215 : decode cL_law 1215 = .ok (.aload_n 0, 1) := by decide +kernel
theorem dL_law_1216 : decode cL_law 1216 = .ok (.iload 4, 2) := by decide +kernel
theorem dL_law_1218 : decode cL_law 1218 = .ok (.iconst 1, 1) := by decide +kernel
theorem dL_law_1219 : decode cL_law 1219 = .ok (.iadd, 1) := by decide +kernel
theorem dL_law_1220 : decode cL_law 1220 = .ok (.iaload, 1) := by decide +kernel
theorem dL_law_1221 : decode cL_law 1221 = .ok (.aload_n 3, 1) := by decide +kernel
theorem dL_law_1222 : decode cL_law 1222 = .ok (.invokestatic 220, 3) := by decide +kernel
theorem dL_law_1225 : decode cL_law 1225 = .ok (.istore 5, 2) := by decide +kernel
theorem dL_law_1227 : decode cL_law 1227 = .ok (.aload_n 2, 1) := by decide +kernel
theorem dL_law_1228 : decode cL_law 1228 = .ok (.aload_n 0, 1) := by decide +kernel
theorem dL_law_1229 : decode cL_law 1229 = .ok (.iload 4, 2) := by decide +kernel
theorem dL_law_1231 : decode cL_law 1231 = .ok (.iconst 1, 1) := by decide +kernel
theorem dL_law_1232 : decode cL_law 1232 = .ok (.iadd, 1) := by decide +kernel
theorem dL_law_1233 : decode cL_law 1233 = .ok (.iaload, 1) := by decide +kernel
theorem dL_law_1234 : decode cL_law 1234 = .ok (.invokevirtual 222, 3) := by decide +kernel
theorem dL_law_1237 : decode cL_law 1237 = .ok (.istore 6, 2) := by decide +kernel
theorem dL_law_1239 : decode cL_law 1239 = .ok (.goto 229, 3) := by decide +kernel
theorem dL_law_1242 : decode cL_law 1242 = .ok (.aload_n 1, 1) := by decide +kernel
theorem dL_law_1243 : decode cL_law 1243 = .ok (.aload_n 0, 1) := by decide +kernel
theorem dL_law_1244 : decode cL_law 1244 = .ok (.iload 4, 2) := by decide +kernel
theorem dL_law_1246 : decode cL_law 1246 = .ok (.iconst 1, 1) := by decide +kernel
theorem dL_law_1247 : decode cL_law 1247 = .ok (.iadd, 1) := by decide +kernel
theorem dL_law_1248 : decode cL_law 1248 = .ok (.iaload, 1) := by decide +kernel
theorem dL_law_1249 : decode cL_law 1249 = .ok (.aload_n 0, 1) := by decide +kernel
theorem dL_law_1250 : decode cL_law 1250 = .ok (.iload 4, 2) := by decide +kernel
theorem dL_law_1252 : decode cL_law 1252 = .ok (.iconst 2, 1) := by decide +kernel
theorem dL_law_1253 : decode cL_law 1253 = .ok (.iadd, 1) := by decide +kernel
theorem dL_law_1254 : decode cL_law 1254 = .ok (.iaload, 1) := by decide +kernel
theorem dL_law_1255 : decode cL_law 1255 = .ok (.aload_n 3, 1) := by decide +kernel
theorem dL_law_1256 : decode cL_law 1256 = .ok (.invokestatic 223, 3) := by decide +kernel
theorem dL_law_1259 : decode cL_law 1259 = .ok (.istore 5, 2) := by decide +kernel
theorem dL_law_1261 : decode cL_law 1261 = .ok (.aload_n 2, 1) := by decide +kernel
theorem dL_law_1262 : decode cL_law 1262 = .ok (.aload_n 0, 1) := by decide +kernel
theorem dL_law_1263 : decode cL_law 1263 = .ok (.iload 4, 2) := by decide +kernel
theorem dL_law_1265 : decode cL_law 1265 = .ok (.iconst 1, 1) := by decide +kernel
theorem dL_law_1266 : decode cL_law 1266 = .ok (.iadd, 1) := by decide +kernel
theorem dL_law_1267 : decode cL_law 1267 = .ok (.iaload, 1) := by decide +kernel
theorem dL_law_1268 : decode cL_law 1268 = .ok (.aload_n 0, 1) := by decide +kernel
theorem dL_law_1269 : decode cL_law 1269 = .ok (.iload 4, 2) := by decide +kernel
theorem dL_law_1271 : decode cL_law 1271 = .ok (.iconst 2, 1) := by decide +kernel
theorem dL_law_1272 : decode cL_law 1272 = .ok (.iadd, 1) := by decide +kernel
theorem dL_law_1273 : decode cL_law 1273 = .ok (.iaload, 1) := by decide +kernel
theorem dL_law_1274 : decode cL_law 1274 = .ok (.invokevirtual 225, 3) := by decide +kernel
theorem dL_law_1277 : decode cL_law 1277 = .ok (.istore 6, 2) := by decide +kernel
theorem dL_law_1279 : decode cL_law 1279 = .ok (.goto 189, 3) := by decide +kernel
theorem dL_law_1282 : decode cL_law 1282 = .ok (.aload_n 1, 1) := by decide +kernel
theorem dL_law_1283 : decode cL_law 1283 = .ok (.aload_n 0, 1) := by decide +kernel
theorem dL_law_1284 : decode cL_law 1284 = .ok (.iload 4, 2) := by decide +kernel
theorem dL_law_1286 : decode cL_law 1286 = .ok (.iconst 1, 1) := by decide +kernel
theorem dL_law_1287 : decode cL_law 1287 = .ok (.iadd, 1) := by decide +kernel
theorem dL_law_1288 : decode cL_law 1288 = .ok (.iaload, 1) := by decide +kernel
theorem dL_law_1289 : decode cL_law 1289 = .ok (.aload_n 0, 1) := by decide +kernel
theorem dL_law_1290 : decode cL_law 1290 = .ok (.iload 4, 2) := by decide +kernel
theorem dL_law_1292 : decode cL_law 1292 = .ok (.iconst 2, 1) := by decide +kernel
theorem dL_law_1293 : decode cL_law 1293 = .ok (.iadd, 1) := by decide +kernel
theorem dL_law_1294 : decode cL_law 1294 = .ok (.iaload, 1) := by decide +kernel
theorem dL_law_1295 : decode cL_law 1295 = .ok (.aload_n 3, 1) := by decide +kernel
theorem dL_law_1296 : decode cL_law 1296 = .ok (.invokestatic 226, 3) := by decide +kernel
theorem dL_law_1299 : decode cL_law 1299 = .ok (.istore 5, 2) := by decide +kernel
theorem dL_law_1301 : decode cL_law 1301 = .ok (.aload_n 2, 1) := by decide +kernel
theorem dL_law_1302 : decode cL_law 1302 = .ok (.aload_n 0, 1) := by decide +kernel
theorem dL_law_1303 : decode cL_law 1303 = .ok (.iload 4, 2) := by decide +kernel
theorem dL_law_1305 : decode cL_law 1305 = .ok (.iconst 1, 1) := by decide +kernel
theorem dL_law_1306 : decode cL_law 1306 = .ok (.iadd, 1) := by decide +kernel
theorem dL_law_1307 : decode cL_law 1307 = .ok (.iaload, 1) := by decide +kernel
theorem dL_law_1308 : decode cL_law 1308 = .ok (.aload_n 0, 1) := by decide +kernel
theorem dL_law_1309 : decode cL_law 1309 = .ok (.iload 4, 2) := by decide +kernel
theorem dL_law_1311 : decode cL_law 1311 = .ok (.iconst 2, 1) := by decide +kernel
theorem dL_law_1312 : decode cL_law 1312 = .ok (.iadd, 1) := by decide +kernel
theorem dL_law_1313 : decode cL_law 1313 = .ok (.iaload, 1) := by decide +kernel
theorem dL_law_1314 : decode cL_law 1314 = .ok (.invokevirtual 228, 3) := by decide +kernel
theorem dL_law_1317 : decode cL_law 1317 = .ok (.istore 6, 2) := by decide +kernel
theorem dL_law_1319 : decode cL_law 1319 = .ok (.goto 149, 3) := by decide +kernel
theorem dL_law_1322 : decode cL_law 1322 = .ok (.aload_n 1, 1) := by decide +kernel
theorem dL_law_1323 : decode cL_law 1323 = .ok (.aload_n 0, 1) := by decide +kernel
theorem dL_law_1324 : decode cL_law 1324 = .ok (.iload 4, 2) := by decide +kernel
theorem dL_law_1326 : decode cL_law 1326 = .ok (.iconst 1, 1) := by decide +kernel
theorem dL_law_1327 : decode cL_law 1327 = .ok (.iadd, 1) := by decide +kernel
theorem dL_law_1328 : decode cL_law 1328 = .ok (.iaload, 1) := by decide +kernel
theorem dL_law_1329 : decode cL_law 1329 = .ok (.aload_n 0, 1) := by decide +kernel
theorem dL_law_1330 : decode cL_law 1330 = .ok (.iload 4, 2) := by decide +kernel
theorem dL_law_1332 : decode cL_law 1332 = .ok (.iconst 2, 1) := by decide +kernel
theorem dL_law_1333 : decode cL_law 1333 = .ok (.iadd, 1) := by decide +kernel
theorem dL_law_1334 : decode cL_law 1334 = .ok (.iaload, 1) := by decide +kernel
theorem dL_law_1335 : decode cL_law 1335 = .ok (.aload_n 0, 1) := by decide +kernel
theorem dL_law_1336 : decode cL_law 1336 = .ok (.iload 4, 2) := by decide +kernel
theorem dL_law_1338 : decode cL_law 1338 = .ok (.iconst 3, 1) := by decide +kernel
theorem dL_law_1339 : decode cL_law 1339 = .ok (.iadd, 1) := by decide +kernel
theorem dL_law_1340 : decode cL_law 1340 = .ok (.iaload, 1) := by decide +kernel
theorem dL_law_1341 : decode cL_law 1341 = .ok (.aload_n 3, 1) := by decide +kernel
theorem dL_law_1342 : decode cL_law 1342 = .ok (.invokestatic 229, 3) := by decide +kernel
theorem dL_law_1345 : decode cL_law 1345 = .ok (.istore 5, 2) := by decide +kernel
theorem dL_law_1347 : decode cL_law 1347 = .ok (.aload_n 2, 1) := by decide +kernel
theorem dL_law_1348 : decode cL_law 1348 = .ok (.aload_n 0, 1) := by decide +kernel
theorem dL_law_1349 : decode cL_law 1349 = .ok (.iload 4, 2) := by decide +kernel
theorem dL_law_1351 : decode cL_law 1351 = .ok (.iconst 1, 1) := by decide +kernel
theorem dL_law_1352 : decode cL_law 1352 = .ok (.iadd, 1) := by decide +kernel
theorem dL_law_1353 : decode cL_law 1353 = .ok (.iaload, 1) := by decide +kernel
theorem dL_law_1354 : decode cL_law 1354 = .ok (.aload_n 0, 1) := by decide +kernel
theorem dL_law_1355 : decode cL_law 1355 = .ok (.iload 4, 2) := by decide +kernel
theorem dL_law_1357 : decode cL_law 1357 = .ok (.iconst 2, 1) := by decide +kernel
theorem dL_law_1358 : decode cL_law 1358 = .ok (.iadd, 1) := by decide +kernel
theorem dL_law_1359 : decode cL_law 1359 = .ok (.iaload, 1) := by decide +kernel
theorem dL_law_1360 : decode cL_law 1360 = .ok (.aload_n 0, 1) := by decide +kernel
theorem dL_law_1361 : decode cL_law 1361 = .ok (.iload 4, 2) := by decide +kernel
theorem dL_law_1363 : decode cL_law 1363 = .ok (.iconst 3, 1) := by decide +kernel
theorem dL_law_1364 : decode cL_law 1364 = .ok (.iadd, 1) := by decide +kernel
theorem dL_law_1365 : decode cL_law 1365 = .ok (.iaload, 1) := by decide +kernel
theorem dL_law_1366 : decode cL_law 1366 = .ok (.invokevirtual 231, 3) := by decide +kernel
theorem dL_law_1369 : decode cL_law 1369 = .ok (.istore 6, 2) := by decide +kernel
theorem dL_law_1371 : decode cL_law 1371 = .ok (.goto 97, 3) := by decide +kernel
theorem dL_law_1374 : decode cL_law 1374 = .ok (.aload_n 1, 1) := by decide +kernel
theorem dL_law_1375 : decode cL_law 1375 = .ok (.aload_n 0, 1) := by decide +kernel
theorem dL_law_1376 : decode cL_law 1376 = .ok (.iload 4, 2) := by decide +kernel
theorem dL_law_1378 : decode cL_law 1378 = .ok (.iconst 1, 1) := by decide +kernel
theorem dL_law_1379 : decode cL_law 1379 = .ok (.iadd, 1) := by decide +kernel
theorem dL_law_1380 : decode cL_law 1380 = .ok (.iaload, 1) := by decide +kernel
theorem dL_law_1381 : decode cL_law 1381 = .ok (.aload_n 3, 1) := by decide +kernel
theorem dL_law_1382 : decode cL_law 1382 = .ok (.invokestatic 232, 3) := by decide +kernel
theorem dL_law_1385 : decode cL_law 1385 = .ok (.istore 5, 2) := by decide +kernel
theorem dL_law_1387 : decode cL_law 1387 = .ok (.aload_n 2, 1) := by decide +kernel
theorem dL_law_1388 : decode cL_law 1388 = .ok (.aload_n 0, 1) := by decide +kernel
theorem dL_law_1389 : decode cL_law 1389 = .ok (.iload 4, 2) := by decide +kernel
theorem dL_law_1391 : decode cL_law 1391 = .ok (.iconst 1, 1) := by decide +kernel
theorem dL_law_1392 : decode cL_law 1392 = .ok (.iadd, 1) := by decide +kernel
theorem dL_law_1393 : decode cL_law 1393 = .ok (.iaload, 1) := by decide +kernel
theorem dL_law_1394 : decode cL_law 1394 = .ok (.invokevirtual 234, 3) := by decide +kernel
theorem dL_law_1397 : decode cL_law 1397 = .ok (.istore 6, 2) := by decide +kernel
theorem dL_law_1399 : decode cL_law 1399 = .ok (.goto 69, 3) := by decide +kernel
theorem dL_law_1402 : decode cL_law 1402 = .ok (.aload_n 1, 1) := by decide +kernel
theorem dL_law_1403 : decode cL_law 1403 = .ok (.aload_n 0, 1) := by decide +kernel
theorem dL_law_1404 : decode cL_law 1404 = .ok (.iload 4, 2) := by decide +kernel
theorem dL_law_1406 : decode cL_law 1406 = .ok (.iconst 1, 1) := by decide +kernel
theorem dL_law_1407 : decode cL_law 1407 = .ok (.iadd, 1) := by decide +kernel
theorem dL_law_1408 : decode cL_law 1408 = .ok (.iaload, 1) := by decide +kernel
theorem dL_law_1409 : decode cL_law 1409 = .ok (.aload_n 3, 1) := by decide +kernel
theorem dL_law_1410 : decode cL_law 1410 = .ok (.invokestatic 235, 3) := by decide +kernel
theorem dL_law_1413 : decode cL_law 1413 = .ok (.istore 5, 2) := by decide +kernel
theorem dL_law_1415 : decode cL_law 1415 = .ok (.aload_n 2, 1) := by decide +kernel
theorem dL_law_1416 : decode cL_law 1416 = .ok (.aload_n 0, 1) := by decide +kernel
theorem dL_law_1417 : decode cL_law 1417 = .ok (.iload 4, 2) := by decide +kernel
theorem dL_law_1419 : decode cL_law 1419 = .ok (.iconst 1, 1) := by decide +kernel
theorem dL_law_1420 : decode cL_law 1420 = .ok (.iadd, 1) := by decide +kernel
theorem dL_law_1421 : decode cL_law 1421 = .ok (.iaload, 1) := by decide +kernel
theorem dL_law_1422 : decode cL_law 1422 = .ok (.invokevirtual 237, 3) := by decide +kernel
theorem dL_law_1425 : decode cL_law 1425 = .ok (.istore 6, 2) := by decide +kernel
theorem dL_law_1427 : decode cL_law 1427 = .ok (.goto 41, 3) := by decide +kernel
theorem dL_law_1430 : decode cL_law 1430 = .ok (.aload_n 1, 1) := by decide +kernel
theorem dL_law_1431 : decode cL_law 1431 = .ok (.invokevirtual 238, 3) := by decide +kernel
theorem dL_law_1434 : decode cL_law 1434 = .ok (.pop, 1) := by decide +kernel
theorem dL_law_1435 : decode cL_law 1435 = .ok (.aload_n 2, 1) := by decide +kernel
theorem dL_law_1436 : decode cL_law 1436 = .ok (.invokevirtual 241, 3) := by decide +kernel
theorem dL_law_1439 : decode cL_law 1439 = .ok (.pop, 1) := by decide +kernel
theorem dL_law_1440 : decode cL_law 1440 = .ok (.goto 28, 3) := by decide +kernel
theorem dL_law_1443 : decode cL_law 1443 = .ok (.aload_n 1, 1) := by decide +kernel
theorem dL_law_1444 : decode cL_law 1444 = .ok (.aload_n 0, 1) := by decide +kernel
theorem dL_law_1445 : decode cL_law 1445 = .ok (.iload 4, 2) := by decide +kernel
theorem dL_law_1447 : decode cL_law 1447 = .ok (.iconst 1, 1) := by decide +kernel
theorem dL_law_1448 : decode cL_law 1448 = .ok (.iadd, 1) := by decide +kernel
theorem dL_law_1449 : decode cL_law 1449 = .ok (.iaload, 1) := by decide +kernel
theorem dL_law_1450 : decode cL_law 1450 = .ok (.invokevirtual 242, 3) := by decide +kernel
theorem dL_law_1453 : decode cL_law 1453 = .ok (.pop, 1) := by decide +kernel
theorem dL_law_1454 : decode cL_law 1454 = .ok (.aload_n 2, 1) := by decide +kernel
theorem dL_law_1455 : decode cL_law 1455 = .ok (.aload_n 0, 1) := by decide +kernel
theorem dL_law_1456 : decode cL_law 1456 = .ok (.iload 4, 2) := by decide +kernel
theorem dL_law_1458 : decode cL_law 1458 = .ok (.iconst 1, 1) := by decide +kernel
theorem dL_law_1459 : decode cL_law 1459 = .ok (.iadd, 1) := by decide +kernel
theorem dL_law_1460 : decode cL_law 1460 = .ok (.iaload, 1) := by decide +kernel
theorem dL_law_1461 : decode cL_law 1461 = .ok (.invokevirtual 245, 3) := by decide +kernel
theorem dL_law_1464 : decode cL_law 1464 = .ok (.pop, 1) := by decide +kernel
theorem dL_law_1465 : decode cL_law 1465 = .ok (.goto 3, 3) := by decide +kernel
/-! cases of the law: cuts, derived, common, similar, step, users, greatest, fitting, status -/
set_option maxHeartbeats 4000000 in
set_option maxRecDepth 100000 in
theorem lc_cuts {p : Program} {l : Launch} {e : Env} {s : State} {m : MethodId} {below : List Frame} {meth : Method} {c : Code} {dC : Nat → ClassId} {dI : Nat → Nat → Nat} {cI cL cII cR cZ cIII cO : ClassId} {h0 b L : Nat} {xs : Nat → Int32} (C0 : lx_C p l s m c b L xs dC dI cI cL cII cR cZ cIII cO h0) {i : Int} (hi : 0 ≤ i ∧ i + 6 ≤ L) {μ ν : va_M} {f : Nat → Int64} (hV : LW9 μ ν) {cells slots : Nat} (hroom : cells + 1 ≤ 601024 ∧ slots + 6 ≤ 7293034)
    (hend : ∀ (μ ν : va_M) (f : Nat → Int64) (H : Heap) (locs : List Loc) (ls : Array Slot), LW9 μ ν → LW dC dI cI cL cII cR cZ cIII cO h0 μ ν f H → va_S (lA h0) s.heap H locs → lv_has ls 7 [(4, .int (iZ i)), (0, .ref b), (1, .ref h0), (2, .ref (h0 + 233)), (3, .ref (h0 + 6558))] → W p l e room_1 s m #[Value.ref b] below meth c H locs (cells + 1) (slots + 6) (lw_Z below #[Value.ref b] s) (F0 m 1468 ls []))
    {H : Heap} {locs : List Loc} {ls : Array Slot} (hW : LW dC dI cI cL cII cR cZ cIII cO h0 μ ν f H) (hS : va_S (lA h0) s.heap H locs) (hl : lv_has ls 7 [(4, .int (iZ i)), (0, .ref b), (1, .ref h0), (2, .ref (h0 + 233)), (3, .ref (h0 + 6558))]) : W p l e room_1 s m #[Value.ref b] below meth c H locs cells slots (lw_Z below #[Value.ref b] s) (F0 m 1158 ls []) := by
  obtain ⟨hfl, hx, hb, hml, hown, hts, hX, hbl, hsz0, hL9, hK, hKm, hKo, hM, hEx, hNc⟩ := C0
  obtain ⟨T, Ss, Wk, Bs, hT⟩ := hV
  have hT : LWt T Ss Wk Bs μ ν := hT
  have hT0 := hT
  have hbA : ¬ lA h0 b := Nat.not_le.mpr (by (first | ((try clear hbA); (try clear hT0); (try clear hT); (try clear Bs); (try clear Wk); (try clear Ss); (try clear hend); (try clear hroom); (try clear hi); omega) | omega))
  obtain ⟨a1, e1, ha1⟩ := iZ_ex (xs (iZ (i + 1)).toNatClampNeg)
  refine lv_aload_n hx hb dL_law_1158 rfl (lv_at hl 2 rfl) ?_
  refine lv_aload_n hx hb dL_law_1159 rfl (lv_at hl 1 rfl) ?_
  refine lv_iload hx hb dL_law_1160 (lv_at hl 0 rfl) ?_
  refine lv_iconst (v := iZ 1) hx hb dL_law_1162 rfl ?_
  refine lv_iadd hx hb dL_law_1163 ?_
  refine lv_topi (fun x9 ex9 => ?_)
  obtain rfl : x9 = iZ (i + 1) := ex9.trans (iZ_add _ _)
  refine va_sld hx hb hX hbl hbA hS (iZ_in (by (first | ((try clear ex9); (try clear ha1); (try clear e1); (try clear hbA); (try clear hT0); (try clear hT); (try clear Bs); (try clear Wk); (try clear Ss); (try clear hsz0); (try clear hend); (try clear hroom); omega) | omega)) (by (first | ((try clear ex9); (try clear ha1); (try clear e1); (try clear hbA); (try clear hT0); (try clear hT); (try clear Bs); (try clear Wk); (try clear Ss); (try clear hsz0); (try clear hend); (try clear hroom); omega) | omega)) (by (first | ((try clear ex9); (try clear ha1); (try clear e1); (try clear hbA); (try clear hT0); (try clear hT); (try clear Bs); (try clear Wk); (try clear Ss); (try clear hsz0); (try clear hend); (try clear hroom); (try clear hi); omega) | omega))) dL_law_1164 ?_
  refine lv_topi (fun x9 ex9 => ?_)
  obtain rfl : x9 = iZ a1 := ex9.trans e1
  refine lv_aload_n hx hb dL_law_1165 rfl (lv_at hl 4 rfl) ?_
  refine va_calli (vx_runSW (hh := [(0, 9, 12, 20)]) (As := [.ref h0, .int (iZ a1), .ref (h0 + 6558)]) (rest := []) ⟨hx, hb, hml, hown, hts⟩ (w_cuts l hfl dC dI cI cL cII cR cO h0 (h0 + 6558) H.size μ f a1 T Wk (hT.1.1.1.1.1) ha1 (hT.1.2.1.1) (LK_W hT.1) (LK_OF hT.1) (by (first | ((try clear ex9); (try clear ha1); (try clear e1); (try clear hbA); (try clear hT0); (try clear hT); (try clear Bs); (try clear Wk); (try clear Ss); (try clear hsz0); (try clear hend); (try clear hroom); (try clear hi); omega) | omega))) (vx_cwSW 3 hts (gW_G k1101 k1102 k0 k1103) rfl rfl rfl (by decide +kernel) ⟨Nat.le_of_ble_eq_true rfl, Nat.le_of_ble_eq_true rfl⟩) ⟨fun a U g mk q => by obtain ⟨q0, q1, qP, qO, qK, qKo, qM, qE, qN⟩ := q; exact ⟨q0, q1, qP, qO, va_K.moved (u := U) (U := U.calling g mk a) (Vm.Alike.refl U.vm) qK, va_K.moved (u := U) (U := U.calling g mk a) (Vm.Alike.refl U.vm) qKo, qM, xX_call qE, qN⟩, fun U hU hW9 => ⟨rfl, by rw [hU], by rw [hU]; exact hW.1, by rw [hU]; exact hW.2.2, va_K.moved hW9.alike hK, va_K.moved hW9.alike hKo, xM_warm hW9 hM, xX_at hEx hS (fun q h => lA_w hS hsz0 (by (first | ((try clear h); (try clear q); (try clear hU); (try clear U); (try clear mk); (try clear g); (try clear ex9); (try clear ha1); (try clear e1); (try clear hbA); (try clear hT0); (try clear hT); (try clear Bs); (try clear Wk); (try clear Ss); (try clear hsz0); (try clear hend); (try clear hroom); (try clear hi); omega) | omega)) q h) hU hW9, xNC_warm hW9 hNc⟩⟩ rfl rfl hl.1 rfl (lv_room (Nat.le_of_ble_eq_true rfl)) dL_law_1166 ⟨by show cells + 1 ≤ 601024; (first | ((try clear ex9); (try clear ha1); (try clear e1); (try clear hbA); (try clear hT0); (try clear hT); (try clear Bs); (try clear Wk); (try clear Ss); (try clear hsz0); (try clear hend); (try clear hi); omega) | omega), by show slots + 6 ≤ 7293034; (first | ((try clear ex9); (try clear ha1); (try clear e1); (try clear hbA); (try clear hT0); (try clear hT); (try clear Bs); (try clear Wk); (try clear Ss); (try clear hsz0); (try clear hend); (try clear hi); omega) | omega)⟩) hS (fun q _ h => lA_w hS hsz0 (by (first | ((try clear h); (try clear ex9); (try clear ha1); (try clear e1); (try clear hbA); (try clear hT0); (try clear hT); (try clear Bs); (try clear Wk); (try clear Ss); (try clear hsz0); (try clear hend); (try clear hroom); (try clear hi); omega) | omega)) q h) (lA_w hS hsz0 (by (first | ((try clear ex9); (try clear ha1); (try clear e1); (try clear hbA); (try clear hT0); (try clear hT); (try clear Bs); (try clear Wk); (try clear Ss); (try clear hsz0); (try clear hend); (try clear hroom); (try clear hi); omega) | omega))) (fun r1 u9 t9 H1 locs ht9 hvm9 hw9 hB9 hz9 hk9 hS => ?_)
  obtain ⟨hP9, hO9⟩ := hB9
  rw [ht9] at hP9 hO9
  have hW := LW_w hW hk9 hP9 hO9
  obtain ⟨hk1, hk2, cd, z, er1, hsp, hout⟩ := hw9
  have hT := LWt_c hT ⟨hk1, hk2⟩
  clear hk1 hk2
  obtain ⟨u1, f1⟩ := u9
  try dsimp only at hW hT hout
  clear hk9 hP9 hO9
  generalize H1 = H at hW hS ⊢
  refine lv_istore (lv' := [(5, .int r1), (4, .int (iZ i)), (0, .ref b), (1, .ref h0), (2, .ref (h0 + 233)), (3, .ref (h0 + 6558))]) hx hb dL_law_1169 hl (by decide) rfl (fun ls hl => ?_)
  refine lv_aload_n hx hb dL_law_1171 rfl (lv_at hl 4 rfl) ?_
  refine lv_aload_n hx hb dL_law_1172 rfl (lv_at hl 2 rfl) ?_
  refine lv_iload hx hb dL_law_1173 (lv_at hl 1 rfl) ?_
  refine lv_iconst (v := iZ 1) hx hb dL_law_1175 rfl ?_
  refine lv_iadd hx hb dL_law_1176 ?_
  refine lv_topi (fun x9 ex9 => ?_)
  obtain rfl : x9 = iZ (i + 1) := ex9.trans (iZ_add _ _)
  refine va_sld hx hb hX hbl hbA hS (iZ_in (by (first | ((try clear ex9); (try clear f1); (try clear u1); (try clear hT); (try clear hout); (try clear hsp); (try clear er1); (try clear z); (try clear hk2); (try clear hk1); (try clear hO9); (try clear hP9); (try clear hz9); (try clear r1); (try clear ha1); (try clear e1); (try clear hbA); (try clear hT0); (try clear Bs); (try clear Wk); (try clear Ss); (try clear hsz0); (try clear hend); (try clear hroom); omega) | omega)) (by (first | ((try clear ex9); (try clear f1); (try clear u1); (try clear hT); (try clear hout); (try clear hsp); (try clear er1); (try clear z); (try clear hk2); (try clear hk1); (try clear hO9); (try clear hP9); (try clear hz9); (try clear r1); (try clear ha1); (try clear e1); (try clear hbA); (try clear hT0); (try clear Bs); (try clear Wk); (try clear Ss); (try clear hsz0); (try clear hend); (try clear hroom); omega) | omega)) (by (first | ((try clear ex9); (try clear f1); (try clear u1); (try clear hT); (try clear hout); (try clear hsp); (try clear er1); (try clear z); (try clear hk2); (try clear hk1); (try clear hO9); (try clear hP9); (try clear hz9); (try clear r1); (try clear ha1); (try clear e1); (try clear hbA); (try clear hT0); (try clear Bs); (try clear Wk); (try clear Ss); (try clear hsz0); (try clear hend); (try clear hroom); (try clear hi); omega) | omega))) dL_law_1177 ?_
  refine lv_topi (fun x9 ex9 => ?_)
  obtain rfl : x9 = iZ a1 := ex9.trans e1
  refine va_calli (va_runV (As := [.int (iZ a1)]) (rest := []) ⟨hx, hb, hml, hown, hts⟩ (f_cuts l dC dI cI cZ cII cIII (h0 + 233) H.size ν a1 (Wk) hT.1.1.1.1.2.1.1 ha1 (hT.1.2.2.1.1) (LK_W hT.1) (LK_rN hT.1) (LW_A hT) (LK_tk hT.1 a1)) (cwV 1 hts (gV_G k1739 k1740 k1741 k13 k1742) rfl rfl rfl (by decide +kernel) ⟨Nat.le_of_ble_eq_true rfl, Nat.le_of_ble_eq_true rfl⟩) ⟨fun a U g mk q => by obtain ⟨q0, q1, qP, qK⟩ := q; exact ⟨q0, q1, qP, va_K.moved (u := U) (U := U.calling g mk a) (Vm.Alike.refl U.vm) qK⟩, va_recv hKm hW.2.1 (ci := 10) (q0 := 0) rfl ((fw_get (by decide)).trans (by rw [mE_obj])), fun U hU hW9 => ⟨rfl, by rw [hU], by rw [hU]; exact hW.2.1, va_K.moved hW9.alike hKm⟩⟩ rfl rfl hl.1 rfl (lv_room (Nat.le_of_ble_eq_true rfl)) dL_law_1178 ⟨by show cells + 1 + 0 ≤ 601024; (first | ((try clear ex9); (try clear f1); (try clear u1); (try clear hT); (try clear hout); (try clear hsp); (try clear er1); (try clear z); (try clear hk2); (try clear hk1); (try clear hO9); (try clear hP9); (try clear hz9); (try clear r1); (try clear ha1); (try clear e1); (try clear hbA); (try clear hT0); (try clear Bs); (try clear Wk); (try clear Ss); (try clear hsz0); (try clear hend); (try clear hi); omega) | omega), by show slots + 6 + 0 ≤ 7293034; (first | ((try clear ex9); (try clear f1); (try clear u1); (try clear hT); (try clear hout); (try clear hsp); (try clear er1); (try clear z); (try clear hk2); (try clear hk1); (try clear hO9); (try clear hP9); (try clear hz9); (try clear r1); (try clear ha1); (try clear e1); (try clear hbA); (try clear hT0); (try clear Bs); (try clear Wk); (try clear Ss); (try clear hsz0); (try clear hend); (try clear hi); omega) | omega)⟩) hS (fun q _ h => lA_f hS hsz0 (by (first | ((try clear h); (try clear ex9); (try clear f1); (try clear u1); (try clear hT); (try clear hout); (try clear hsp); (try clear er1); (try clear z); (try clear hk2); (try clear hk1); (try clear hO9); (try clear hP9); (try clear hz9); (try clear r1); (try clear ha1); (try clear e1); (try clear hbA); (try clear hT0); (try clear Bs); (try clear Wk); (try clear Ss); (try clear hsz0); (try clear hend); (try clear hroom); (try clear hi); omega) | omega)) q h) (lA_f hS hsz0 (by (first | ((try clear ex9); (try clear f1); (try clear u1); (try clear hT); (try clear hout); (try clear hsp); (try clear er1); (try clear z); (try clear hk2); (try clear hk1); (try clear hO9); (try clear hP9); (try clear hz9); (try clear r1); (try clear ha1); (try clear e1); (try clear hbA); (try clear hT0); (try clear Bs); (try clear Wk); (try clear Ss); (try clear hsz0); (try clear hend); (try clear hroom); (try clear hi); omega) | omega))) (fun r2 u9 t9 H1 locs ht9 hvm9 hw9 hB9 hz9 hk9 hS => ?_)
  obtain ⟨hP9, -⟩ := hB9
  rw [ht9] at hP9
  have hW := LW_m hW hk9 hP9
  obtain ⟨v1, q2⟩ := u9
  obtain ⟨er9, hw9⟩ := hw9
  have er2 : r2 = iZ q2 := er9
  subst er2
  have hm9 := hw9
  have hT := LWt_ps hT hw9.1
  try dsimp only at hW hT
  clear hk9 hP9
  generalize H1 = H at hW hS ⊢
  refine lv_istore (lv' := [(6, .int (iZ q2)), (5, .int r1), (4, .int (iZ i)), (0, .ref b), (1, .ref h0), (2, .ref (h0 + 233)), (3, .ref (h0 + 6558))]) hx hb dL_law_1181 hl (by decide) rfl (fun ls hl => ?_)
  refine lv_aload_n hx hb dL_law_1183 rfl (lv_at hl 5 rfl) ?_
  refine va_calli (va_runV (As := []) (rest := []) ⟨hx, hb, hml, hown, hts⟩ (m_thrown l dC dI cI cZ cII cIII (h0 + 233) H.size v1 ) (cwV 0 hts (gV_G k1327 k1328 k1329 k13 k1330) rfl rfl rfl (by decide +kernel) ⟨Nat.le_of_ble_eq_true rfl, Nat.le_of_ble_eq_true rfl⟩) ⟨fun a U g mk q => by obtain ⟨q0, q1, qP, qK⟩ := q; exact ⟨q0, q1, qP, va_K.moved (u := U) (U := U.calling g mk a) (Vm.Alike.refl U.vm) qK⟩, va_recv hKm hW.2.1 (ci := 10) (q0 := 0) rfl ((fw_get (by decide)).trans (by rw [mE_obj])), fun U hU hW9 => ⟨rfl, by rw [hU], by rw [hU]; exact hW.2.1, va_K.moved hW9.alike hKm⟩⟩ rfl rfl hl.1 rfl (lv_room (Nat.le_of_ble_eq_true rfl)) dL_law_1184 ⟨by show cells + 1 + 0 ≤ 601024; (first | ((try clear hT); (try clear hm9); (try clear er2); (try clear er9); (try clear hP9); (try clear hz9); (try clear r2); (try clear ex9); (try clear f1); (try clear u1); (try clear hout); (try clear hsp); (try clear er1); (try clear z); (try clear hk2); (try clear hk1); (try clear hO9); (try clear r1); (try clear ha1); (try clear e1); (try clear hbA); (try clear hT0); (try clear Bs); (try clear Wk); (try clear Ss); (try clear hsz0); (try clear hend); (try clear hi); omega) | omega), by show slots + 6 + 0 ≤ 7293034; (first | ((try clear hT); (try clear hm9); (try clear er2); (try clear er9); (try clear hP9); (try clear hz9); (try clear r2); (try clear ex9); (try clear f1); (try clear u1); (try clear hout); (try clear hsp); (try clear er1); (try clear z); (try clear hk2); (try clear hk1); (try clear hO9); (try clear r1); (try clear ha1); (try clear e1); (try clear hbA); (try clear hT0); (try clear Bs); (try clear Wk); (try clear Ss); (try clear hsz0); (try clear hend); (try clear hi); omega) | omega)⟩) hS (fun q _ h => lA_f hS hsz0 (by (first | ((try clear h); (try clear hT); (try clear hm9); (try clear er2); (try clear er9); (try clear hP9); (try clear hz9); (try clear r2); (try clear ex9); (try clear f1); (try clear u1); (try clear hout); (try clear hsp); (try clear er1); (try clear z); (try clear hk2); (try clear hk1); (try clear hO9); (try clear r1); (try clear ha1); (try clear e1); (try clear hbA); (try clear hT0); (try clear Bs); (try clear Wk); (try clear Ss); (try clear hsz0); (try clear hend); (try clear hroom); (try clear hi); omega) | omega)) q h) (lA_f hS hsz0 (by (first | ((try clear hT); (try clear hm9); (try clear er2); (try clear er9); (try clear hP9); (try clear hz9); (try clear r2); (try clear ex9); (try clear f1); (try clear u1); (try clear hout); (try clear hsp); (try clear er1); (try clear z); (try clear hk2); (try clear hk1); (try clear hO9); (try clear r1); (try clear ha1); (try clear e1); (try clear hbA); (try clear hT0); (try clear Bs); (try clear Wk); (try clear Ss); (try clear hsz0); (try clear hend); (try clear hroom); (try clear hi); omega) | omega))) (fun r3 u9 t9 H1 locs ht9 hvm9 hw9 hB9 hz9 hk9 hS => ?_)
  obtain ⟨hP9, -⟩ := hB9
  rw [ht9] at hP9
  have hW := LW_m hW hk9 hP9
  obtain ⟨v3, q3⟩ := u9
  obtain ⟨er9, hw9⟩ := hw9
  have er3 : r3 = iZ q3 := er9
  subst er3
  obtain ⟨hv3, hq3⟩ := hw9
  have hv3 : v3 = v1 := hv3
  have hq3 : q3 = v1 0 0 := hq3
  try dsimp only at hW
  rw [hv3] at hW
  try dsimp only at hW hT
  clear hk9 hP9
  generalize H1 = H at hW hS ⊢
  refine lv_iload hx hb dL_law_1187 (lv_at hl 1 rfl) ?_
  obtain ⟨hs1, hs2⟩ := cut_same hT0.1 hsp hm9
  have hs1 : v1 0 0 = cd := hs1
  have hs2 : cd = 0 → q2 = z := hs2
  have hthr : iZ q3 = r1 := by rw [er1, hq3, hs1]
  refine lv_icmp_eq (tgt := 1194) hx hb dL_law_1189 (by decide) (fun _ => ?_) (fun c9 => absurd hthr c9)
  refine lv_iload hx hb dL_law_1194 (lv_at hl 1 rfl) ?_
  have hend9 : W p l e room_1 s m #[Value.ref b] below meth c H locs (cells + 1) (slots + 6) (lw_Z below #[Value.ref b] s) (F0 m 1211 ls []) := by
    refine lv_goto (tgt := 1468) hx hb dL_law_1211 (by decide) ?_
    exact hend _ _ _ H locs ls (⟨T, Ss, Wk, Bs, hT⟩ : LW9 u1 v1) hW hS (lv_sub hl [2, 3, 4, 5, 6] rfl)
  refine W.widen (k := cells + 1) (n := slots + 6) (by (first | ((try clear hthr); (try clear hs2); (try clear hs1); (try clear hq3); (try clear hv3); (try clear er3); (try clear er9); (try clear v3); (try clear hP9); (try clear hz9); (try clear r3); (try clear hT); (try clear hm9); (try clear er2); (try clear r2); (try clear ex9); (try clear f1); (try clear u1); (try clear hout); (try clear hsp); (try clear er1); (try clear z); (try clear hk2); (try clear hk1); (try clear hO9); (try clear r1); (try clear ha1); (try clear e1); (try clear hbA); (try clear hT0); (try clear Bs); (try clear Wk); (try clear Ss); (try clear hsz0); (try clear hend); (try clear hroom); (try clear hi); omega) | omega)) (by (first | ((try clear hthr); (try clear hs2); (try clear hs1); (try clear hq3); (try clear hv3); (try clear er3); (try clear er9); (try clear v3); (try clear hP9); (try clear hz9); (try clear r3); (try clear hT); (try clear hm9); (try clear er2); (try clear r2); (try clear ex9); (try clear f1); (try clear u1); (try clear hout); (try clear hsp); (try clear er1); (try clear z); (try clear hk2); (try clear hk1); (try clear hO9); (try clear r1); (try clear ha1); (try clear e1); (try clear hbA); (try clear hT0); (try clear Bs); (try clear Wk); (try clear Ss); (try clear hsz0); (try clear hend); (try clear hroom); (try clear hi); omega) | omega)) ?_
  refine lv_if_ne (tgt := 1211) hx hb dL_law_1196 (by decide) (fun _ => hend9) (fun c9 => ?_)
  have hz9 : cd = 0 := nod_cd0 hsp (by rw [← er1]; exact c9)
  have ho9 := hout hz9
  have hz8 := hs2 hz9
  refine lv_aload_n hx hb dL_law_1199 rfl (lv_at hl 6 rfl) ?_
  refine lv_iconst (v := iZ 0) hx hb dL_law_1200 rfl ?_
  refine va_lald hx hb hKo hW.2.2 0 0 rfl rfl (by unfold vp_in; decide +kernel) dL_law_1201 ?_
  refine lv_topl (fun y9 ey9 => ?_)
  obtain rfl : y9 = (iZ z).toInt64 := ey9.trans ((congrArg f1 lo_0).trans ho9)
  refine lv_iload hx hb dL_law_1202 (lv_at hl 0 rfl) ?_
  refine lv_i2l (v := (iZ q2).toInt64) hx hb dL_law_1204 rfl ?_
  rw [hz8]
  refine x_lcmp0 hx hb dL_law_1205 ?_
  refine lv_if_eq (tgt := 1211) hx hb dL_law_1206 (by decide) (fun _ => ?_) (fun c9 => (c9 rfl).elim)
  exact hend9
set_option maxHeartbeats 4000000 in
set_option maxRecDepth 100000 in
theorem lc_derived {p : Program} {l : Launch} {e : Env} {s : State} {m : MethodId} {below : List Frame} {meth : Method} {c : Code} {dC : Nat → ClassId} {dI : Nat → Nat → Nat} {cI cL cII cR cZ cIII cO : ClassId} {h0 b L : Nat} {xs : Nat → Int32} (C0 : lx_C p l s m c b L xs dC dI cI cL cII cR cZ cIII cO h0) {i : Int} (hi : 0 ≤ i ∧ i + 6 ≤ L) {μ ν : va_M} {f : Nat → Int64} (hV : LW9 μ ν) {cells slots : Nat} (hroom : cells + 1 ≤ 601024 ∧ slots + 6 ≤ 7293034)
    (hend : ∀ (μ ν : va_M) (f : Nat → Int64) (H : Heap) (locs : List Loc) (ls : Array Slot), LW9 μ ν → LW dC dI cI cL cII cR cZ cIII cO h0 μ ν f H → va_S (lA h0) s.heap H locs → lv_has ls 7 [(4, .int (iZ i)), (0, .ref b), (1, .ref h0), (2, .ref (h0 + 233)), (3, .ref (h0 + 6558))] → W p l e room_1 s m #[Value.ref b] below meth c H locs (cells + 1) (slots + 6) (lw_Z below #[Value.ref b] s) (F0 m 1468 ls []))
    {H : Heap} {locs : List Loc} {ls : Array Slot} (hW : LW dC dI cI cL cII cR cZ cIII cO h0 μ ν f H) (hS : va_S (lA h0) s.heap H locs) (hl : lv_has ls 7 [(4, .int (iZ i)), (0, .ref b), (1, .ref h0), (2, .ref (h0 + 233)), (3, .ref (h0 + 6558))]) : W p l e room_1 s m #[Value.ref b] below meth c H locs cells slots (lw_Z below #[Value.ref b] s) (F0 m 1214 ls []) := by
  obtain ⟨hfl, hx, hb, hml, hown, hts, hX, hbl, hsz0, hL9, hK, hKm, hKo, hM, hEx, hNc⟩ := C0
  obtain ⟨T, Ss, Wk, Bs, hT⟩ := hV
  have hT : LWt T Ss Wk Bs μ ν := hT
  have hT0 := hT
  have hbA : ¬ lA h0 b := Nat.not_le.mpr (by (first | ((try clear hbA); (try clear hT0); (try clear hT); (try clear Bs); (try clear Wk); (try clear Ss); (try clear hend); (try clear hroom); (try clear hi); omega) | omega))
  obtain ⟨a1, e1, ha1⟩ := iZ_ex (xs (iZ (i + 1)).toNatClampNeg)
  refine lv_aload_n hx hb dL_law_1214 rfl (lv_at hl 2 rfl) ?_
  refine lv_aload_n hx hb dL_law_1215 rfl (lv_at hl 1 rfl) ?_
  refine lv_iload hx hb dL_law_1216 (lv_at hl 0 rfl) ?_
  refine lv_iconst (v := iZ 1) hx hb dL_law_1218 rfl ?_
  refine lv_iadd hx hb dL_law_1219 ?_
  refine lv_topi (fun x9 ex9 => ?_)
  obtain rfl : x9 = iZ (i + 1) := ex9.trans (iZ_add _ _)
  refine va_sld hx hb hX hbl hbA hS (iZ_in (by (first | ((try clear ex9); (try clear ha1); (try clear e1); (try clear hbA); (try clear hT0); (try clear hT); (try clear Bs); (try clear Wk); (try clear Ss); (try clear hsz0); (try clear hend); (try clear hroom); omega) | omega)) (by (first | ((try clear ex9); (try clear ha1); (try clear e1); (try clear hbA); (try clear hT0); (try clear hT); (try clear Bs); (try clear Wk); (try clear Ss); (try clear hsz0); (try clear hend); (try clear hroom); omega) | omega)) (by (first | ((try clear ex9); (try clear ha1); (try clear e1); (try clear hbA); (try clear hT0); (try clear hT); (try clear Bs); (try clear Wk); (try clear Ss); (try clear hsz0); (try clear hend); (try clear hroom); (try clear hi); omega) | omega))) dL_law_1220 ?_
  refine lv_topi (fun x9 ex9 => ?_)
  obtain rfl : x9 = iZ a1 := ex9.trans e1
  refine lv_aload_n hx hb dL_law_1221 rfl (lv_at hl 4 rfl) ?_
  refine va_calli (vx_runSW (hh := [(0, 9, 12, 13)]) (As := [.ref h0, .int (iZ a1), .ref (h0 + 6558)]) (rest := []) ⟨hx, hb, hml, hown, hts⟩ (w_derived l hfl dC dI cI cL cII cR cO h0 (h0 + 6558) H.size μ f a1 T (hT.1.1.1.1.1) ha1 (by (first | ((try clear ex9); (try clear ha1); (try clear e1); (try clear hbA); (try clear hT0); (try clear hT); (try clear Bs); (try clear Wk); (try clear Ss); (try clear hsz0); (try clear hend); (try clear hroom); (try clear hi); omega) | omega))) (vx_cwSW 3 hts (gW_G k1108 k1109 k0 k1110) rfl rfl rfl (by decide +kernel) ⟨Nat.le_of_ble_eq_true rfl, Nat.le_of_ble_eq_true rfl⟩) ⟨fun a U g mk q => by obtain ⟨q0, q1, qP, qO, qK, qKo, qM, qE, qN⟩ := q; exact ⟨q0, q1, qP, qO, va_K.moved (u := U) (U := U.calling g mk a) (Vm.Alike.refl U.vm) qK, va_K.moved (u := U) (U := U.calling g mk a) (Vm.Alike.refl U.vm) qKo, qM, xX_call qE, qN⟩, fun U hU hW9 => ⟨rfl, by rw [hU], by rw [hU]; exact hW.1, by rw [hU]; exact hW.2.2, va_K.moved hW9.alike hK, va_K.moved hW9.alike hKo, xM_warm hW9 hM, xX_at hEx hS (fun q h => lA_w hS hsz0 (by (first | ((try clear h); (try clear q); (try clear hU); (try clear U); (try clear mk); (try clear g); (try clear ex9); (try clear ha1); (try clear e1); (try clear hbA); (try clear hT0); (try clear hT); (try clear Bs); (try clear Wk); (try clear Ss); (try clear hsz0); (try clear hend); (try clear hroom); (try clear hi); omega) | omega)) q h) hU hW9, xNC_warm hW9 hNc⟩⟩ rfl rfl hl.1 rfl (lv_room (Nat.le_of_ble_eq_true rfl)) dL_law_1222 ⟨by show cells + 1 ≤ 601024; (first | ((try clear ex9); (try clear ha1); (try clear e1); (try clear hbA); (try clear hT0); (try clear hT); (try clear Bs); (try clear Wk); (try clear Ss); (try clear hsz0); (try clear hend); (try clear hi); omega) | omega), by show slots + 6 ≤ 7293034; (first | ((try clear ex9); (try clear ha1); (try clear e1); (try clear hbA); (try clear hT0); (try clear hT); (try clear Bs); (try clear Wk); (try clear Ss); (try clear hsz0); (try clear hend); (try clear hi); omega) | omega)⟩) hS (fun q _ h => lA_w hS hsz0 (by (first | ((try clear h); (try clear ex9); (try clear ha1); (try clear e1); (try clear hbA); (try clear hT0); (try clear hT); (try clear Bs); (try clear Wk); (try clear Ss); (try clear hsz0); (try clear hend); (try clear hroom); (try clear hi); omega) | omega)) q h) (lA_w hS hsz0 (by (first | ((try clear ex9); (try clear ha1); (try clear e1); (try clear hbA); (try clear hT0); (try clear hT); (try clear Bs); (try clear Wk); (try clear Ss); (try clear hsz0); (try clear hend); (try clear hroom); (try clear hi); omega) | omega))) (fun r1 u9 t9 H1 locs ht9 hvm9 hw9 hB9 hz9 hk9 hS => ?_)
  obtain ⟨hP9, hO9⟩ := hB9
  rw [ht9] at hP9 hO9
  have hW := LW_w hW hk9 hP9 hO9
  have hT := LWt_c hT hw9
  obtain ⟨u1, f1⟩ := u9
  try dsimp only at hW hT
  clear hk9 hP9 hO9
  generalize H1 = H at hW hS ⊢
  refine lv_istore (lv' := [(5, .int r1), (4, .int (iZ i)), (0, .ref b), (1, .ref h0), (2, .ref (h0 + 233)), (3, .ref (h0 + 6558))]) hx hb dL_law_1225 hl (by decide) rfl (fun ls hl => ?_)
  refine lv_aload_n hx hb dL_law_1227 rfl (lv_at hl 4 rfl) ?_
  refine lv_aload_n hx hb dL_law_1228 rfl (lv_at hl 2 rfl) ?_
  refine lv_iload hx hb dL_law_1229 (lv_at hl 1 rfl) ?_
  refine lv_iconst (v := iZ 1) hx hb dL_law_1231 rfl ?_
  refine lv_iadd hx hb dL_law_1232 ?_
  refine lv_topi (fun x9 ex9 => ?_)
  obtain rfl : x9 = iZ (i + 1) := ex9.trans (iZ_add _ _)
  refine va_sld hx hb hX hbl hbA hS (iZ_in (by (first | ((try clear ex9); (try clear f1); (try clear u1); (try clear hT); (try clear hO9); (try clear hP9); (try clear hz9); (try clear r1); (try clear ha1); (try clear e1); (try clear hbA); (try clear hT0); (try clear Bs); (try clear Wk); (try clear Ss); (try clear hsz0); (try clear hend); (try clear hroom); omega) | omega)) (by (first | ((try clear ex9); (try clear f1); (try clear u1); (try clear hT); (try clear hO9); (try clear hP9); (try clear hz9); (try clear r1); (try clear ha1); (try clear e1); (try clear hbA); (try clear hT0); (try clear Bs); (try clear Wk); (try clear Ss); (try clear hsz0); (try clear hend); (try clear hroom); omega) | omega)) (by (first | ((try clear ex9); (try clear f1); (try clear u1); (try clear hT); (try clear hO9); (try clear hP9); (try clear hz9); (try clear r1); (try clear ha1); (try clear e1); (try clear hbA); (try clear hT0); (try clear Bs); (try clear Wk); (try clear Ss); (try clear hsz0); (try clear hend); (try clear hroom); (try clear hi); omega) | omega))) dL_law_1233 ?_
  refine lv_topi (fun x9 ex9 => ?_)
  obtain rfl : x9 = iZ a1 := ex9.trans e1
  refine va_calli (va_runV (As := [.int (iZ a1)]) (rest := []) ⟨hx, hb, hml, hown, hts⟩ (m_derived l dC dI cI cZ cII cIII (h0 + 233) H.size ν a1 hT.1.1.1.1.2.1.1 ha1) (cwV 1 hts (gV_G k1747 k1748 k1749 k13 k1750) rfl rfl rfl (by decide +kernel) ⟨Nat.le_of_ble_eq_true rfl, Nat.le_of_ble_eq_true rfl⟩) ⟨fun a U g mk q => by obtain ⟨q0, q1, qP, qK⟩ := q; exact ⟨q0, q1, qP, va_K.moved (u := U) (U := U.calling g mk a) (Vm.Alike.refl U.vm) qK⟩, va_recv hKm hW.2.1 (ci := 10) (q0 := 0) rfl ((fw_get (by decide)).trans (by rw [mE_obj])), fun U hU hW9 => ⟨rfl, by rw [hU], by rw [hU]; exact hW.2.1, va_K.moved hW9.alike hKm⟩⟩ rfl rfl hl.1 rfl (lv_room (Nat.le_of_ble_eq_true rfl)) dL_law_1234 ⟨by show cells + 1 + 0 ≤ 601024; (first | ((try clear ex9); (try clear f1); (try clear u1); (try clear hT); (try clear hO9); (try clear hP9); (try clear hz9); (try clear r1); (try clear ha1); (try clear e1); (try clear hbA); (try clear hT0); (try clear Bs); (try clear Wk); (try clear Ss); (try clear hsz0); (try clear hend); (try clear hi); omega) | omega), by show slots + 6 + 0 ≤ 7293034; (first | ((try clear ex9); (try clear f1); (try clear u1); (try clear hT); (try clear hO9); (try clear hP9); (try clear hz9); (try clear r1); (try clear ha1); (try clear e1); (try clear hbA); (try clear hT0); (try clear Bs); (try clear Wk); (try clear Ss); (try clear hsz0); (try clear hend); (try clear hi); omega) | omega)⟩) hS (fun q _ h => lA_f hS hsz0 (by (first | ((try clear h); (try clear ex9); (try clear f1); (try clear u1); (try clear hT); (try clear hO9); (try clear hP9); (try clear hz9); (try clear r1); (try clear ha1); (try clear e1); (try clear hbA); (try clear hT0); (try clear Bs); (try clear Wk); (try clear Ss); (try clear hsz0); (try clear hend); (try clear hroom); (try clear hi); omega) | omega)) q h) (lA_f hS hsz0 (by (first | ((try clear ex9); (try clear f1); (try clear u1); (try clear hT); (try clear hO9); (try clear hP9); (try clear hz9); (try clear r1); (try clear ha1); (try clear e1); (try clear hbA); (try clear hT0); (try clear Bs); (try clear Wk); (try clear Ss); (try clear hsz0); (try clear hend); (try clear hroom); (try clear hi); omega) | omega))) (fun r2 u9 t9 H1 locs ht9 hvm9 hw9 hB9 hz9 hk9 hS => ?_)
  obtain ⟨hP9, -⟩ := hB9
  rw [ht9] at hP9
  have hW := LW_m hW hk9 hP9
  obtain ⟨v1, q2⟩ := u9
  obtain ⟨er9, hw9⟩ := hw9
  have er2 : r2 = iZ q2 := er9
  subst er2
  have hT := LWt_ps hT hw9
  try dsimp only at hW hT
  clear hk9 hP9
  generalize H1 = H at hW hS ⊢
  refine lv_istore (lv' := [(6, .int (iZ q2)), (5, .int r1), (4, .int (iZ i)), (0, .ref b), (1, .ref h0), (2, .ref (h0 + 233)), (3, .ref (h0 + 6558))]) hx hb dL_law_1237 hl (by decide) rfl (fun ls hl => ?_)
  refine lv_goto (tgt := 1468) hx hb dL_law_1239 (by decide) ?_
  have hV9 : LW9 u1 v1 := ⟨T, Ss, Wk, Bs, hT⟩
  refine W.widen (k := cells + 1) (n := slots + 6) (by (first | ((try clear hT); (try clear er2); (try clear er9); (try clear q2); (try clear v1); (try clear hP9); (try clear hz9); (try clear r2); (try clear ex9); (try clear f1); (try clear u1); (try clear hO9); (try clear r1); (try clear ha1); (try clear e1); (try clear hbA); (try clear hT0); (try clear Bs); (try clear Wk); (try clear Ss); (try clear hsz0); (try clear hend); (try clear hroom); (try clear hi); omega) | omega)) (by (first | ((try clear hT); (try clear er2); (try clear er9); (try clear q2); (try clear v1); (try clear hP9); (try clear hz9); (try clear r2); (try clear ex9); (try clear f1); (try clear u1); (try clear hO9); (try clear r1); (try clear ha1); (try clear e1); (try clear hbA); (try clear hT0); (try clear Bs); (try clear Wk); (try clear Ss); (try clear hsz0); (try clear hend); (try clear hroom); (try clear hi); omega) | omega)) ?_
  exact hend _ _ _ H locs ls hV9 hW hS (lv_sub hl [2, 3, 4, 5, 6] rfl)
set_option maxHeartbeats 4000000 in
set_option maxRecDepth 100000 in
theorem lc_common {p : Program} {l : Launch} {e : Env} {s : State} {m : MethodId} {below : List Frame} {meth : Method} {c : Code} {dC : Nat → ClassId} {dI : Nat → Nat → Nat} {cI cL cII cR cZ cIII cO : ClassId} {h0 b L : Nat} {xs : Nat → Int32} (C0 : lx_C p l s m c b L xs dC dI cI cL cII cR cZ cIII cO h0) {i : Int} (hi : 0 ≤ i ∧ i + 6 ≤ L) {μ ν : va_M} {f : Nat → Int64} (hV : LW9 μ ν) {cells slots : Nat} (hroom : cells + 1 ≤ 601024 ∧ slots + 6 ≤ 7293034)
    (hend : ∀ (μ ν : va_M) (f : Nat → Int64) (H : Heap) (locs : List Loc) (ls : Array Slot), LW9 μ ν → LW dC dI cI cL cII cR cZ cIII cO h0 μ ν f H → va_S (lA h0) s.heap H locs → lv_has ls 7 [(4, .int (iZ i)), (0, .ref b), (1, .ref h0), (2, .ref (h0 + 233)), (3, .ref (h0 + 6558))] → W p l e room_1 s m #[Value.ref b] below meth c H locs (cells + 1) (slots + 6) (lw_Z below #[Value.ref b] s) (F0 m 1468 ls []))
    {H : Heap} {locs : List Loc} {ls : Array Slot} (hW : LW dC dI cI cL cII cR cZ cIII cO h0 μ ν f H) (hS : va_S (lA h0) s.heap H locs) (hl : lv_has ls 7 [(4, .int (iZ i)), (0, .ref b), (1, .ref h0), (2, .ref (h0 + 233)), (3, .ref (h0 + 6558))]) : W p l e room_1 s m #[Value.ref b] below meth c H locs cells slots (lw_Z below #[Value.ref b] s) (F0 m 1242 ls []) := by
  obtain ⟨hfl, hx, hb, hml, hown, hts, hX, hbl, hsz0, hL9, hK, hKm, hKo, hM, hEx, hNc⟩ := C0
  obtain ⟨T, Ss, Wk, Bs, hT⟩ := hV
  have hT : LWt T Ss Wk Bs μ ν := hT
  have hT0 := hT
  have hbA : ¬ lA h0 b := Nat.not_le.mpr (by (first | ((try clear hbA); (try clear hT0); (try clear hT); (try clear Bs); (try clear Wk); (try clear Ss); (try clear hend); (try clear hroom); (try clear hi); omega) | omega))
  obtain ⟨a1, e1, ha1⟩ := iZ_ex (xs (iZ (i + 1)).toNatClampNeg)
  obtain ⟨a2, e2, ha2⟩ := iZ_ex (xs (iZ (i + 2)).toNatClampNeg)
  refine lv_aload_n hx hb dL_law_1242 rfl (lv_at hl 2 rfl) ?_
  refine lv_aload_n hx hb dL_law_1243 rfl (lv_at hl 1 rfl) ?_
  refine lv_iload hx hb dL_law_1244 (lv_at hl 0 rfl) ?_
  refine lv_iconst (v := iZ 1) hx hb dL_law_1246 rfl ?_
  refine lv_iadd hx hb dL_law_1247 ?_
  refine lv_topi (fun x9 ex9 => ?_)
  obtain rfl : x9 = iZ (i + 1) := ex9.trans (iZ_add _ _)
  refine va_sld hx hb hX hbl hbA hS (iZ_in (by (first | ((try clear ex9); (try clear ha2); (try clear e2); (try clear ha1); (try clear e1); (try clear hbA); (try clear hT0); (try clear hT); (try clear Bs); (try clear Wk); (try clear Ss); (try clear hsz0); (try clear hend); (try clear hroom); omega) | omega)) (by (first | ((try clear ex9); (try clear ha2); (try clear e2); (try clear ha1); (try clear e1); (try clear hbA); (try clear hT0); (try clear hT); (try clear Bs); (try clear Wk); (try clear Ss); (try clear hsz0); (try clear hend); (try clear hroom); omega) | omega)) (by (first | ((try clear ex9); (try clear ha2); (try clear e2); (try clear ha1); (try clear e1); (try clear hbA); (try clear hT0); (try clear hT); (try clear Bs); (try clear Wk); (try clear Ss); (try clear hsz0); (try clear hend); (try clear hroom); (try clear hi); omega) | omega))) dL_law_1248 ?_
  refine lv_topi (fun x9 ex9 => ?_)
  obtain rfl : x9 = iZ a1 := ex9.trans e1
  refine lv_aload_n hx hb dL_law_1249 rfl (lv_at hl 1 rfl) ?_
  refine lv_iload hx hb dL_law_1250 (lv_at hl 0 rfl) ?_
  refine lv_iconst (v := iZ 2) hx hb dL_law_1252 rfl ?_
  refine lv_iadd hx hb dL_law_1253 ?_
  refine lv_topi (fun x9 ex9 => ?_)
  obtain rfl : x9 = iZ (i + 2) := ex9.trans (iZ_add _ _)
  refine va_sld hx hb hX hbl hbA hS (iZ_in (by (first | ((try clear ex9); (try clear ha2); (try clear e2); (try clear ha1); (try clear e1); (try clear hbA); (try clear hT0); (try clear hT); (try clear Bs); (try clear Wk); (try clear Ss); (try clear hsz0); (try clear hend); (try clear hroom); omega) | omega)) (by (first | ((try clear ex9); (try clear ha2); (try clear e2); (try clear ha1); (try clear e1); (try clear hbA); (try clear hT0); (try clear hT); (try clear Bs); (try clear Wk); (try clear Ss); (try clear hsz0); (try clear hend); (try clear hroom); omega) | omega)) (by (first | ((try clear ex9); (try clear ha2); (try clear e2); (try clear ha1); (try clear e1); (try clear hbA); (try clear hT0); (try clear hT); (try clear Bs); (try clear Wk); (try clear Ss); (try clear hsz0); (try clear hend); (try clear hroom); (try clear hi); omega) | omega))) dL_law_1254 ?_
  refine lv_topi (fun x9 ex9 => ?_)
  obtain rfl : x9 = iZ a2 := ex9.trans e2
  refine lv_aload_n hx hb dL_law_1255 rfl (lv_at hl 4 rfl) ?_
  refine va_calli (vx_runSW (hh := [(0, 10, 13, 20)]) (As := [.ref h0, .int (iZ a1), .int (iZ a2), .ref (h0 + 6558)]) (rest := []) ⟨hx, hb, hml, hown, hts⟩ (w_common l hfl dC dI cI cL cII cR cO h0 (h0 + 6558) H.size μ f a1 a2 T (hT.1.1.1.1.1) ha1 ha2 (by (first | ((try clear ex9); (try clear ha2); (try clear e2); (try clear ha1); (try clear e1); (try clear hbA); (try clear hT0); (try clear hT); (try clear Bs); (try clear Wk); (try clear Ss); (try clear hsz0); (try clear hend); (try clear hroom); (try clear hi); omega) | omega))) (vx_cwSW 4 hts (gW_G k1115 k1116 k0 k1117) rfl rfl rfl (by decide +kernel) ⟨Nat.le_of_ble_eq_true rfl, Nat.le_of_ble_eq_true rfl⟩) ⟨fun a U g mk q => by obtain ⟨q0, q1, qP, qO, qK, qKo, qM, qE, qN⟩ := q; exact ⟨q0, q1, qP, qO, va_K.moved (u := U) (U := U.calling g mk a) (Vm.Alike.refl U.vm) qK, va_K.moved (u := U) (U := U.calling g mk a) (Vm.Alike.refl U.vm) qKo, qM, xX_call qE, qN⟩, fun U hU hW9 => ⟨rfl, by rw [hU], by rw [hU]; exact hW.1, by rw [hU]; exact hW.2.2, va_K.moved hW9.alike hK, va_K.moved hW9.alike hKo, xM_warm hW9 hM, xX_at hEx hS (fun q h => lA_w hS hsz0 (by (first | ((try clear h); (try clear q); (try clear hU); (try clear U); (try clear mk); (try clear g); (try clear ex9); (try clear ha2); (try clear e2); (try clear ha1); (try clear e1); (try clear hbA); (try clear hT0); (try clear hT); (try clear Bs); (try clear Wk); (try clear Ss); (try clear hsz0); (try clear hend); (try clear hroom); (try clear hi); omega) | omega)) q h) hU hW9, xNC_warm hW9 hNc⟩⟩ rfl rfl hl.1 rfl (lv_room (Nat.le_of_ble_eq_true rfl)) dL_law_1256 ⟨by show cells + 1 ≤ 601024; (first | ((try clear ex9); (try clear ha2); (try clear e2); (try clear ha1); (try clear e1); (try clear hbA); (try clear hT0); (try clear hT); (try clear Bs); (try clear Wk); (try clear Ss); (try clear hsz0); (try clear hend); (try clear hi); omega) | omega), by show slots + 6 ≤ 7293034; (first | ((try clear ex9); (try clear ha2); (try clear e2); (try clear ha1); (try clear e1); (try clear hbA); (try clear hT0); (try clear hT); (try clear Bs); (try clear Wk); (try clear Ss); (try clear hsz0); (try clear hend); (try clear hi); omega) | omega)⟩) hS (fun q _ h => lA_w hS hsz0 (by (first | ((try clear h); (try clear ex9); (try clear ha2); (try clear e2); (try clear ha1); (try clear e1); (try clear hbA); (try clear hT0); (try clear hT); (try clear Bs); (try clear Wk); (try clear Ss); (try clear hsz0); (try clear hend); (try clear hroom); (try clear hi); omega) | omega)) q h) (lA_w hS hsz0 (by (first | ((try clear ex9); (try clear ha2); (try clear e2); (try clear ha1); (try clear e1); (try clear hbA); (try clear hT0); (try clear hT); (try clear Bs); (try clear Wk); (try clear Ss); (try clear hsz0); (try clear hend); (try clear hroom); (try clear hi); omega) | omega))) (fun r1 u9 t9 H1 locs ht9 hvm9 hw9 hB9 hz9 hk9 hS => ?_)
  obtain ⟨hP9, hO9⟩ := hB9
  rw [ht9] at hP9 hO9
  have hW := LW_w hW hk9 hP9 hO9
  have hT := LWt_c hT hw9
  obtain ⟨u1, f1⟩ := u9
  try dsimp only at hW hT
  clear hk9 hP9 hO9
  generalize H1 = H at hW hS ⊢
  refine lv_istore (lv' := [(5, .int r1), (4, .int (iZ i)), (0, .ref b), (1, .ref h0), (2, .ref (h0 + 233)), (3, .ref (h0 + 6558))]) hx hb dL_law_1259 hl (by decide) rfl (fun ls hl => ?_)
  refine lv_aload_n hx hb dL_law_1261 rfl (lv_at hl 4 rfl) ?_
  refine lv_aload_n hx hb dL_law_1262 rfl (lv_at hl 2 rfl) ?_
  refine lv_iload hx hb dL_law_1263 (lv_at hl 1 rfl) ?_
  refine lv_iconst (v := iZ 1) hx hb dL_law_1265 rfl ?_
  refine lv_iadd hx hb dL_law_1266 ?_
  refine lv_topi (fun x9 ex9 => ?_)
  obtain rfl : x9 = iZ (i + 1) := ex9.trans (iZ_add _ _)
  refine va_sld hx hb hX hbl hbA hS (iZ_in (by (first | ((try clear ex9); (try clear f1); (try clear u1); (try clear hT); (try clear hO9); (try clear hP9); (try clear hz9); (try clear r1); (try clear ha2); (try clear e2); (try clear ha1); (try clear e1); (try clear hbA); (try clear hT0); (try clear Bs); (try clear Wk); (try clear Ss); (try clear hsz0); (try clear hend); (try clear hroom); omega) | omega)) (by (first | ((try clear ex9); (try clear f1); (try clear u1); (try clear hT); (try clear hO9); (try clear hP9); (try clear hz9); (try clear r1); (try clear ha2); (try clear e2); (try clear ha1); (try clear e1); (try clear hbA); (try clear hT0); (try clear Bs); (try clear Wk); (try clear Ss); (try clear hsz0); (try clear hend); (try clear hroom); omega) | omega)) (by (first | ((try clear ex9); (try clear f1); (try clear u1); (try clear hT); (try clear hO9); (try clear hP9); (try clear hz9); (try clear r1); (try clear ha2); (try clear e2); (try clear ha1); (try clear e1); (try clear hbA); (try clear hT0); (try clear Bs); (try clear Wk); (try clear Ss); (try clear hsz0); (try clear hend); (try clear hroom); (try clear hi); omega) | omega))) dL_law_1267 ?_
  refine lv_topi (fun x9 ex9 => ?_)
  obtain rfl : x9 = iZ a1 := ex9.trans e1
  refine lv_aload_n hx hb dL_law_1268 rfl (lv_at hl 2 rfl) ?_
  refine lv_iload hx hb dL_law_1269 (lv_at hl 1 rfl) ?_
  refine lv_iconst (v := iZ 2) hx hb dL_law_1271 rfl ?_
  refine lv_iadd hx hb dL_law_1272 ?_
  refine lv_topi (fun x9 ex9 => ?_)
  obtain rfl : x9 = iZ (i + 2) := ex9.trans (iZ_add _ _)
  refine va_sld hx hb hX hbl hbA hS (iZ_in (by (first | ((try clear ex9); (try clear f1); (try clear u1); (try clear hT); (try clear hO9); (try clear hP9); (try clear hz9); (try clear r1); (try clear ha2); (try clear e2); (try clear ha1); (try clear e1); (try clear hbA); (try clear hT0); (try clear Bs); (try clear Wk); (try clear Ss); (try clear hsz0); (try clear hend); (try clear hroom); omega) | omega)) (by (first | ((try clear ex9); (try clear f1); (try clear u1); (try clear hT); (try clear hO9); (try clear hP9); (try clear hz9); (try clear r1); (try clear ha2); (try clear e2); (try clear ha1); (try clear e1); (try clear hbA); (try clear hT0); (try clear Bs); (try clear Wk); (try clear Ss); (try clear hsz0); (try clear hend); (try clear hroom); omega) | omega)) (by (first | ((try clear ex9); (try clear f1); (try clear u1); (try clear hT); (try clear hO9); (try clear hP9); (try clear hz9); (try clear r1); (try clear ha2); (try clear e2); (try clear ha1); (try clear e1); (try clear hbA); (try clear hT0); (try clear Bs); (try clear Wk); (try clear Ss); (try clear hsz0); (try clear hend); (try clear hroom); (try clear hi); omega) | omega))) dL_law_1273 ?_
  refine lv_topi (fun x9 ex9 => ?_)
  obtain rfl : x9 = iZ a2 := ex9.trans e2
  refine va_calli (va_runV (As := [.int (iZ a1), .int (iZ a2)]) (rest := []) ⟨hx, hb, hml, hown, hts⟩ (m_common l dC dI cI cZ cII cIII (h0 + 233) H.size ν a1 a2 hT.1.1.1.1.2.1.1 ha1 ha2) (cwV 2 hts (gV_G k1751 k1752 k1753 k13 k1754) rfl rfl rfl (by decide +kernel) ⟨Nat.le_of_ble_eq_true rfl, Nat.le_of_ble_eq_true rfl⟩) ⟨fun a U g mk q => by obtain ⟨q0, q1, qP, qK⟩ := q; exact ⟨q0, q1, qP, va_K.moved (u := U) (U := U.calling g mk a) (Vm.Alike.refl U.vm) qK⟩, va_recv hKm hW.2.1 (ci := 10) (q0 := 0) rfl ((fw_get (by decide)).trans (by rw [mE_obj])), fun U hU hW9 => ⟨rfl, by rw [hU], by rw [hU]; exact hW.2.1, va_K.moved hW9.alike hKm⟩⟩ rfl rfl hl.1 rfl (lv_room (Nat.le_of_ble_eq_true rfl)) dL_law_1274 ⟨by show cells + 1 + 0 ≤ 601024; (first | ((try clear ex9); (try clear f1); (try clear u1); (try clear hT); (try clear hO9); (try clear hP9); (try clear hz9); (try clear r1); (try clear ha2); (try clear e2); (try clear ha1); (try clear e1); (try clear hbA); (try clear hT0); (try clear Bs); (try clear Wk); (try clear Ss); (try clear hsz0); (try clear hend); (try clear hi); omega) | omega), by show slots + 6 + 0 ≤ 7293034; (first | ((try clear ex9); (try clear f1); (try clear u1); (try clear hT); (try clear hO9); (try clear hP9); (try clear hz9); (try clear r1); (try clear ha2); (try clear e2); (try clear ha1); (try clear e1); (try clear hbA); (try clear hT0); (try clear Bs); (try clear Wk); (try clear Ss); (try clear hsz0); (try clear hend); (try clear hi); omega) | omega)⟩) hS (fun q _ h => lA_f hS hsz0 (by (first | ((try clear h); (try clear ex9); (try clear f1); (try clear u1); (try clear hT); (try clear hO9); (try clear hP9); (try clear hz9); (try clear r1); (try clear ha2); (try clear e2); (try clear ha1); (try clear e1); (try clear hbA); (try clear hT0); (try clear Bs); (try clear Wk); (try clear Ss); (try clear hsz0); (try clear hend); (try clear hroom); (try clear hi); omega) | omega)) q h) (lA_f hS hsz0 (by (first | ((try clear ex9); (try clear f1); (try clear u1); (try clear hT); (try clear hO9); (try clear hP9); (try clear hz9); (try clear r1); (try clear ha2); (try clear e2); (try clear ha1); (try clear e1); (try clear hbA); (try clear hT0); (try clear Bs); (try clear Wk); (try clear Ss); (try clear hsz0); (try clear hend); (try clear hroom); (try clear hi); omega) | omega))) (fun r2 u9 t9 H1 locs ht9 hvm9 hw9 hB9 hz9 hk9 hS => ?_)
  obtain ⟨hP9, -⟩ := hB9
  rw [ht9] at hP9
  have hW := LW_m hW hk9 hP9
  obtain ⟨v1, q2⟩ := u9
  obtain ⟨er9, hw9⟩ := hw9
  have er2 : r2 = iZ q2 := er9
  subst er2
  have hT := LWt_ps hT hw9
  try dsimp only at hW hT
  clear hk9 hP9
  generalize H1 = H at hW hS ⊢
  refine lv_istore (lv' := [(6, .int (iZ q2)), (5, .int r1), (4, .int (iZ i)), (0, .ref b), (1, .ref h0), (2, .ref (h0 + 233)), (3, .ref (h0 + 6558))]) hx hb dL_law_1277 hl (by decide) rfl (fun ls hl => ?_)
  refine lv_goto (tgt := 1468) hx hb dL_law_1279 (by decide) ?_
  have hV9 : LW9 u1 v1 := ⟨T, Ss, Wk, Bs, hT⟩
  refine W.widen (k := cells + 1) (n := slots + 6) (by (first | ((try clear hT); (try clear er2); (try clear er9); (try clear q2); (try clear v1); (try clear hP9); (try clear hz9); (try clear r2); (try clear ex9); (try clear f1); (try clear u1); (try clear hO9); (try clear r1); (try clear ha2); (try clear e2); (try clear ha1); (try clear e1); (try clear hbA); (try clear hT0); (try clear Bs); (try clear Wk); (try clear Ss); (try clear hsz0); (try clear hend); (try clear hroom); (try clear hi); omega) | omega)) (by (first | ((try clear hT); (try clear er2); (try clear er9); (try clear q2); (try clear v1); (try clear hP9); (try clear hz9); (try clear r2); (try clear ex9); (try clear f1); (try clear u1); (try clear hO9); (try clear r1); (try clear ha2); (try clear e2); (try clear ha1); (try clear e1); (try clear hbA); (try clear hT0); (try clear Bs); (try clear Wk); (try clear Ss); (try clear hsz0); (try clear hend); (try clear hroom); (try clear hi); omega) | omega)) ?_
  exact hend _ _ _ H locs ls hV9 hW hS (lv_sub hl [2, 3, 4, 5, 6] rfl)
set_option maxHeartbeats 4000000 in
set_option maxRecDepth 100000 in
theorem lc_similar {p : Program} {l : Launch} {e : Env} {s : State} {m : MethodId} {below : List Frame} {meth : Method} {c : Code} {dC : Nat → ClassId} {dI : Nat → Nat → Nat} {cI cL cII cR cZ cIII cO : ClassId} {h0 b L : Nat} {xs : Nat → Int32} (C0 : lx_C p l s m c b L xs dC dI cI cL cII cR cZ cIII cO h0) {i : Int} (hi : 0 ≤ i ∧ i + 6 ≤ L) {μ ν : va_M} {f : Nat → Int64} (hV : LW9 μ ν) {cells slots : Nat} (hroom : cells + 1 ≤ 601024 ∧ slots + 6 ≤ 7293034)
    (hend : ∀ (μ ν : va_M) (f : Nat → Int64) (H : Heap) (locs : List Loc) (ls : Array Slot), LW9 μ ν → LW dC dI cI cL cII cR cZ cIII cO h0 μ ν f H → va_S (lA h0) s.heap H locs → lv_has ls 7 [(4, .int (iZ i)), (0, .ref b), (1, .ref h0), (2, .ref (h0 + 233)), (3, .ref (h0 + 6558))] → W p l e room_1 s m #[Value.ref b] below meth c H locs (cells + 1) (slots + 6) (lw_Z below #[Value.ref b] s) (F0 m 1468 ls []))
    {H : Heap} {locs : List Loc} {ls : Array Slot} (hW : LW dC dI cI cL cII cR cZ cIII cO h0 μ ν f H) (hS : va_S (lA h0) s.heap H locs) (hl : lv_has ls 7 [(4, .int (iZ i)), (0, .ref b), (1, .ref h0), (2, .ref (h0 + 233)), (3, .ref (h0 + 6558))]) : W p l e room_1 s m #[Value.ref b] below meth c H locs cells slots (lw_Z below #[Value.ref b] s) (F0 m 1282 ls []) := by
  obtain ⟨hfl, hx, hb, hml, hown, hts, hX, hbl, hsz0, hL9, hK, hKm, hKo, hM, hEx, hNc⟩ := C0
  obtain ⟨T, Ss, Wk, Bs, hT⟩ := hV
  have hT : LWt T Ss Wk Bs μ ν := hT
  have hT0 := hT
  have hbA : ¬ lA h0 b := Nat.not_le.mpr (by (first | ((try clear hbA); (try clear hT0); (try clear hT); (try clear Bs); (try clear Wk); (try clear Ss); (try clear hend); (try clear hroom); (try clear hi); omega) | omega))
  obtain ⟨a1, e1, ha1⟩ := iZ_ex (xs (iZ (i + 1)).toNatClampNeg)
  obtain ⟨a2, e2, ha2⟩ := iZ_ex (xs (iZ (i + 2)).toNatClampNeg)
  refine lv_aload_n hx hb dL_law_1282 rfl (lv_at hl 2 rfl) ?_
  refine lv_aload_n hx hb dL_law_1283 rfl (lv_at hl 1 rfl) ?_
  refine lv_iload hx hb dL_law_1284 (lv_at hl 0 rfl) ?_
  refine lv_iconst (v := iZ 1) hx hb dL_law_1286 rfl ?_
  refine lv_iadd hx hb dL_law_1287 ?_
  refine lv_topi (fun x9 ex9 => ?_)
  obtain rfl : x9 = iZ (i + 1) := ex9.trans (iZ_add _ _)
  refine va_sld hx hb hX hbl hbA hS (iZ_in (by (first | ((try clear ex9); (try clear ha2); (try clear e2); (try clear ha1); (try clear e1); (try clear hbA); (try clear hT0); (try clear hT); (try clear Bs); (try clear Wk); (try clear Ss); (try clear hsz0); (try clear hend); (try clear hroom); omega) | omega)) (by (first | ((try clear ex9); (try clear ha2); (try clear e2); (try clear ha1); (try clear e1); (try clear hbA); (try clear hT0); (try clear hT); (try clear Bs); (try clear Wk); (try clear Ss); (try clear hsz0); (try clear hend); (try clear hroom); omega) | omega)) (by (first | ((try clear ex9); (try clear ha2); (try clear e2); (try clear ha1); (try clear e1); (try clear hbA); (try clear hT0); (try clear hT); (try clear Bs); (try clear Wk); (try clear Ss); (try clear hsz0); (try clear hend); (try clear hroom); (try clear hi); omega) | omega))) dL_law_1288 ?_
  refine lv_topi (fun x9 ex9 => ?_)
  obtain rfl : x9 = iZ a1 := ex9.trans e1
  refine lv_aload_n hx hb dL_law_1289 rfl (lv_at hl 1 rfl) ?_
  refine lv_iload hx hb dL_law_1290 (lv_at hl 0 rfl) ?_
  refine lv_iconst (v := iZ 2) hx hb dL_law_1292 rfl ?_
  refine lv_iadd hx hb dL_law_1293 ?_
  refine lv_topi (fun x9 ex9 => ?_)
  obtain rfl : x9 = iZ (i + 2) := ex9.trans (iZ_add _ _)
  refine va_sld hx hb hX hbl hbA hS (iZ_in (by (first | ((try clear ex9); (try clear ha2); (try clear e2); (try clear ha1); (try clear e1); (try clear hbA); (try clear hT0); (try clear hT); (try clear Bs); (try clear Wk); (try clear Ss); (try clear hsz0); (try clear hend); (try clear hroom); omega) | omega)) (by (first | ((try clear ex9); (try clear ha2); (try clear e2); (try clear ha1); (try clear e1); (try clear hbA); (try clear hT0); (try clear hT); (try clear Bs); (try clear Wk); (try clear Ss); (try clear hsz0); (try clear hend); (try clear hroom); omega) | omega)) (by (first | ((try clear ex9); (try clear ha2); (try clear e2); (try clear ha1); (try clear e1); (try clear hbA); (try clear hT0); (try clear hT); (try clear Bs); (try clear Wk); (try clear Ss); (try clear hsz0); (try clear hend); (try clear hroom); (try clear hi); omega) | omega))) dL_law_1294 ?_
  refine lv_topi (fun x9 ex9 => ?_)
  obtain rfl : x9 = iZ a2 := ex9.trans e2
  refine lv_aload_n hx hb dL_law_1295 rfl (lv_at hl 4 rfl) ?_
  refine va_calli (vx_runSW (hh := [(0, 17, 20, 20)]) (As := [.ref h0, .int (iZ a1), .int (iZ a2), .ref (h0 + 6558)]) (rest := []) ⟨hx, hb, hml, hown, hts⟩ (w_similar l hfl dC dI cI cL cII cR cO h0 (h0 + 6558) H.size μ f a1 a2 T (hT.1.1.1.1.1) ha1 ha2 (by (first | ((try clear ex9); (try clear ha2); (try clear e2); (try clear ha1); (try clear e1); (try clear hbA); (try clear hT0); (try clear hT); (try clear Bs); (try clear Wk); (try clear Ss); (try clear hsz0); (try clear hend); (try clear hroom); (try clear hi); omega) | omega))) (vx_cwSW 4 hts (gW_G k1128 k1129 k0 k1130) rfl rfl rfl (by decide +kernel) ⟨Nat.le_of_ble_eq_true rfl, Nat.le_of_ble_eq_true rfl⟩) ⟨fun a U g mk q => by obtain ⟨q0, q1, qP, qO, qK, qKo, qM, qE, qN⟩ := q; exact ⟨q0, q1, qP, qO, va_K.moved (u := U) (U := U.calling g mk a) (Vm.Alike.refl U.vm) qK, va_K.moved (u := U) (U := U.calling g mk a) (Vm.Alike.refl U.vm) qKo, qM, xX_call qE, qN⟩, fun U hU hW9 => ⟨rfl, by rw [hU], by rw [hU]; exact hW.1, by rw [hU]; exact hW.2.2, va_K.moved hW9.alike hK, va_K.moved hW9.alike hKo, xM_warm hW9 hM, xX_at hEx hS (fun q h => lA_w hS hsz0 (by (first | ((try clear h); (try clear q); (try clear hU); (try clear U); (try clear mk); (try clear g); (try clear ex9); (try clear ha2); (try clear e2); (try clear ha1); (try clear e1); (try clear hbA); (try clear hT0); (try clear hT); (try clear Bs); (try clear Wk); (try clear Ss); (try clear hsz0); (try clear hend); (try clear hroom); (try clear hi); omega) | omega)) q h) hU hW9, xNC_warm hW9 hNc⟩⟩ rfl rfl hl.1 rfl (lv_room (Nat.le_of_ble_eq_true rfl)) dL_law_1296 ⟨by show cells + 1 ≤ 601024; (first | ((try clear ex9); (try clear ha2); (try clear e2); (try clear ha1); (try clear e1); (try clear hbA); (try clear hT0); (try clear hT); (try clear Bs); (try clear Wk); (try clear Ss); (try clear hsz0); (try clear hend); (try clear hi); omega) | omega), by show slots + 6 ≤ 7293034; (first | ((try clear ex9); (try clear ha2); (try clear e2); (try clear ha1); (try clear e1); (try clear hbA); (try clear hT0); (try clear hT); (try clear Bs); (try clear Wk); (try clear Ss); (try clear hsz0); (try clear hend); (try clear hi); omega) | omega)⟩) hS (fun q _ h => lA_w hS hsz0 (by (first | ((try clear h); (try clear ex9); (try clear ha2); (try clear e2); (try clear ha1); (try clear e1); (try clear hbA); (try clear hT0); (try clear hT); (try clear Bs); (try clear Wk); (try clear Ss); (try clear hsz0); (try clear hend); (try clear hroom); (try clear hi); omega) | omega)) q h) (lA_w hS hsz0 (by (first | ((try clear ex9); (try clear ha2); (try clear e2); (try clear ha1); (try clear e1); (try clear hbA); (try clear hT0); (try clear hT); (try clear Bs); (try clear Wk); (try clear Ss); (try clear hsz0); (try clear hend); (try clear hroom); (try clear hi); omega) | omega))) (fun r1 u9 t9 H1 locs ht9 hvm9 hw9 hB9 hz9 hk9 hS => ?_)
  obtain ⟨hP9, hO9⟩ := hB9
  rw [ht9] at hP9 hO9
  have hW := LW_w hW hk9 hP9 hO9
  have hT := LWt_c hT hw9
  obtain ⟨u1, f1⟩ := u9
  try dsimp only at hW hT
  clear hk9 hP9 hO9
  generalize H1 = H at hW hS ⊢
  refine lv_istore (lv' := [(5, .int r1), (4, .int (iZ i)), (0, .ref b), (1, .ref h0), (2, .ref (h0 + 233)), (3, .ref (h0 + 6558))]) hx hb dL_law_1299 hl (by decide) rfl (fun ls hl => ?_)
  refine lv_aload_n hx hb dL_law_1301 rfl (lv_at hl 4 rfl) ?_
  refine lv_aload_n hx hb dL_law_1302 rfl (lv_at hl 2 rfl) ?_
  refine lv_iload hx hb dL_law_1303 (lv_at hl 1 rfl) ?_
  refine lv_iconst (v := iZ 1) hx hb dL_law_1305 rfl ?_
  refine lv_iadd hx hb dL_law_1306 ?_
  refine lv_topi (fun x9 ex9 => ?_)
  obtain rfl : x9 = iZ (i + 1) := ex9.trans (iZ_add _ _)
  refine va_sld hx hb hX hbl hbA hS (iZ_in (by (first | ((try clear ex9); (try clear f1); (try clear u1); (try clear hT); (try clear hO9); (try clear hP9); (try clear hz9); (try clear r1); (try clear ha2); (try clear e2); (try clear ha1); (try clear e1); (try clear hbA); (try clear hT0); (try clear Bs); (try clear Wk); (try clear Ss); (try clear hsz0); (try clear hend); (try clear hroom); omega) | omega)) (by (first | ((try clear ex9); (try clear f1); (try clear u1); (try clear hT); (try clear hO9); (try clear hP9); (try clear hz9); (try clear r1); (try clear ha2); (try clear e2); (try clear ha1); (try clear e1); (try clear hbA); (try clear hT0); (try clear Bs); (try clear Wk); (try clear Ss); (try clear hsz0); (try clear hend); (try clear hroom); omega) | omega)) (by (first | ((try clear ex9); (try clear f1); (try clear u1); (try clear hT); (try clear hO9); (try clear hP9); (try clear hz9); (try clear r1); (try clear ha2); (try clear e2); (try clear ha1); (try clear e1); (try clear hbA); (try clear hT0); (try clear Bs); (try clear Wk); (try clear Ss); (try clear hsz0); (try clear hend); (try clear hroom); (try clear hi); omega) | omega))) dL_law_1307 ?_
  refine lv_topi (fun x9 ex9 => ?_)
  obtain rfl : x9 = iZ a1 := ex9.trans e1
  refine lv_aload_n hx hb dL_law_1308 rfl (lv_at hl 2 rfl) ?_
  refine lv_iload hx hb dL_law_1309 (lv_at hl 1 rfl) ?_
  refine lv_iconst (v := iZ 2) hx hb dL_law_1311 rfl ?_
  refine lv_iadd hx hb dL_law_1312 ?_
  refine lv_topi (fun x9 ex9 => ?_)
  obtain rfl : x9 = iZ (i + 2) := ex9.trans (iZ_add _ _)
  refine va_sld hx hb hX hbl hbA hS (iZ_in (by (first | ((try clear ex9); (try clear f1); (try clear u1); (try clear hT); (try clear hO9); (try clear hP9); (try clear hz9); (try clear r1); (try clear ha2); (try clear e2); (try clear ha1); (try clear e1); (try clear hbA); (try clear hT0); (try clear Bs); (try clear Wk); (try clear Ss); (try clear hsz0); (try clear hend); (try clear hroom); omega) | omega)) (by (first | ((try clear ex9); (try clear f1); (try clear u1); (try clear hT); (try clear hO9); (try clear hP9); (try clear hz9); (try clear r1); (try clear ha2); (try clear e2); (try clear ha1); (try clear e1); (try clear hbA); (try clear hT0); (try clear Bs); (try clear Wk); (try clear Ss); (try clear hsz0); (try clear hend); (try clear hroom); omega) | omega)) (by (first | ((try clear ex9); (try clear f1); (try clear u1); (try clear hT); (try clear hO9); (try clear hP9); (try clear hz9); (try clear r1); (try clear ha2); (try clear e2); (try clear ha1); (try clear e1); (try clear hbA); (try clear hT0); (try clear Bs); (try clear Wk); (try clear Ss); (try clear hsz0); (try clear hend); (try clear hroom); (try clear hi); omega) | omega))) dL_law_1313 ?_
  refine lv_topi (fun x9 ex9 => ?_)
  obtain rfl : x9 = iZ a2 := ex9.trans e2
  refine va_calli (va_runV (As := [.int (iZ a1), .int (iZ a2)]) (rest := []) ⟨hx, hb, hml, hown, hts⟩ (m_similar l dC dI cI cZ cII cIII (h0 + 233) H.size ν a1 a2 hT.1.1.1.1.2.1.1 ha1 ha2) (cwV 2 hts (gV_G k1755 k1756 k1757 k13 k1758) rfl rfl rfl (by decide +kernel) ⟨Nat.le_of_ble_eq_true rfl, Nat.le_of_ble_eq_true rfl⟩) ⟨fun a U g mk q => by obtain ⟨q0, q1, qP, qK⟩ := q; exact ⟨q0, q1, qP, va_K.moved (u := U) (U := U.calling g mk a) (Vm.Alike.refl U.vm) qK⟩, va_recv hKm hW.2.1 (ci := 10) (q0 := 0) rfl ((fw_get (by decide)).trans (by rw [mE_obj])), fun U hU hW9 => ⟨rfl, by rw [hU], by rw [hU]; exact hW.2.1, va_K.moved hW9.alike hKm⟩⟩ rfl rfl hl.1 rfl (lv_room (Nat.le_of_ble_eq_true rfl)) dL_law_1314 ⟨by show cells + 1 + 0 ≤ 601024; (first | ((try clear ex9); (try clear f1); (try clear u1); (try clear hT); (try clear hO9); (try clear hP9); (try clear hz9); (try clear r1); (try clear ha2); (try clear e2); (try clear ha1); (try clear e1); (try clear hbA); (try clear hT0); (try clear Bs); (try clear Wk); (try clear Ss); (try clear hsz0); (try clear hend); (try clear hi); omega) | omega), by show slots + 6 + 0 ≤ 7293034; (first | ((try clear ex9); (try clear f1); (try clear u1); (try clear hT); (try clear hO9); (try clear hP9); (try clear hz9); (try clear r1); (try clear ha2); (try clear e2); (try clear ha1); (try clear e1); (try clear hbA); (try clear hT0); (try clear Bs); (try clear Wk); (try clear Ss); (try clear hsz0); (try clear hend); (try clear hi); omega) | omega)⟩) hS (fun q _ h => lA_f hS hsz0 (by (first | ((try clear h); (try clear ex9); (try clear f1); (try clear u1); (try clear hT); (try clear hO9); (try clear hP9); (try clear hz9); (try clear r1); (try clear ha2); (try clear e2); (try clear ha1); (try clear e1); (try clear hbA); (try clear hT0); (try clear Bs); (try clear Wk); (try clear Ss); (try clear hsz0); (try clear hend); (try clear hroom); (try clear hi); omega) | omega)) q h) (lA_f hS hsz0 (by (first | ((try clear ex9); (try clear f1); (try clear u1); (try clear hT); (try clear hO9); (try clear hP9); (try clear hz9); (try clear r1); (try clear ha2); (try clear e2); (try clear ha1); (try clear e1); (try clear hbA); (try clear hT0); (try clear Bs); (try clear Wk); (try clear Ss); (try clear hsz0); (try clear hend); (try clear hroom); (try clear hi); omega) | omega))) (fun r2 u9 t9 H1 locs ht9 hvm9 hw9 hB9 hz9 hk9 hS => ?_)
  obtain ⟨hP9, -⟩ := hB9
  rw [ht9] at hP9
  have hW := LW_m hW hk9 hP9
  obtain ⟨v1, q2⟩ := u9
  obtain ⟨er9, hw9⟩ := hw9
  have er2 : r2 = iZ q2 := er9
  subst er2
  have hT := LWt_ps hT hw9
  try dsimp only at hW hT
  clear hk9 hP9
  generalize H1 = H at hW hS ⊢
  refine lv_istore (lv' := [(6, .int (iZ q2)), (5, .int r1), (4, .int (iZ i)), (0, .ref b), (1, .ref h0), (2, .ref (h0 + 233)), (3, .ref (h0 + 6558))]) hx hb dL_law_1317 hl (by decide) rfl (fun ls hl => ?_)
  refine lv_goto (tgt := 1468) hx hb dL_law_1319 (by decide) ?_
  have hV9 : LW9 u1 v1 := ⟨T, Ss, Wk, Bs, hT⟩
  refine W.widen (k := cells + 1) (n := slots + 6) (by (first | ((try clear hT); (try clear er2); (try clear er9); (try clear q2); (try clear v1); (try clear hP9); (try clear hz9); (try clear r2); (try clear ex9); (try clear f1); (try clear u1); (try clear hO9); (try clear r1); (try clear ha2); (try clear e2); (try clear ha1); (try clear e1); (try clear hbA); (try clear hT0); (try clear Bs); (try clear Wk); (try clear Ss); (try clear hsz0); (try clear hend); (try clear hroom); (try clear hi); omega) | omega)) (by (first | ((try clear hT); (try clear er2); (try clear er9); (try clear q2); (try clear v1); (try clear hP9); (try clear hz9); (try clear r2); (try clear ex9); (try clear f1); (try clear u1); (try clear hO9); (try clear r1); (try clear ha2); (try clear e2); (try clear ha1); (try clear e1); (try clear hbA); (try clear hT0); (try clear Bs); (try clear Wk); (try clear Ss); (try clear hsz0); (try clear hend); (try clear hroom); (try clear hi); omega) | omega)) ?_
  exact hend _ _ _ H locs ls hV9 hW hS (lv_sub hl [2, 3, 4, 5, 6] rfl)
set_option maxHeartbeats 4000000 in
set_option maxRecDepth 100000 in
theorem lc_step {p : Program} {l : Launch} {e : Env} {s : State} {m : MethodId} {below : List Frame} {meth : Method} {c : Code} {dC : Nat → ClassId} {dI : Nat → Nat → Nat} {cI cL cII cR cZ cIII cO : ClassId} {h0 b L : Nat} {xs : Nat → Int32} (C0 : lx_C p l s m c b L xs dC dI cI cL cII cR cZ cIII cO h0) {i : Int} (hi : 0 ≤ i ∧ i + 6 ≤ L) {μ ν : va_M} {f : Nat → Int64} (hV : LW9 μ ν) {cells slots : Nat} (hroom : cells + 1 ≤ 601024 ∧ slots + 6 ≤ 7293034)
    (hend : ∀ (μ ν : va_M) (f : Nat → Int64) (H : Heap) (locs : List Loc) (ls : Array Slot), LW9 μ ν → LW dC dI cI cL cII cR cZ cIII cO h0 μ ν f H → va_S (lA h0) s.heap H locs → lv_has ls 7 [(4, .int (iZ i)), (0, .ref b), (1, .ref h0), (2, .ref (h0 + 233)), (3, .ref (h0 + 6558))] → W p l e room_1 s m #[Value.ref b] below meth c H locs (cells + 1) (slots + 6) (lw_Z below #[Value.ref b] s) (F0 m 1468 ls []))
    {H : Heap} {locs : List Loc} {ls : Array Slot} (hW : LW dC dI cI cL cII cR cZ cIII cO h0 μ ν f H) (hS : va_S (lA h0) s.heap H locs) (hl : lv_has ls 7 [(4, .int (iZ i)), (0, .ref b), (1, .ref h0), (2, .ref (h0 + 233)), (3, .ref (h0 + 6558))]) : W p l e room_1 s m #[Value.ref b] below meth c H locs cells slots (lw_Z below #[Value.ref b] s) (F0 m 1322 ls []) := by
  obtain ⟨hfl, hx, hb, hml, hown, hts, hX, hbl, hsz0, hL9, hK, hKm, hKo, hM, hEx, hNc⟩ := C0
  obtain ⟨T, Ss, Wk, Bs, hT⟩ := hV
  have hT : LWt T Ss Wk Bs μ ν := hT
  have hT0 := hT
  have hbA : ¬ lA h0 b := Nat.not_le.mpr (by (first | ((try clear hbA); (try clear hT0); (try clear hT); (try clear Bs); (try clear Wk); (try clear Ss); (try clear hend); (try clear hroom); (try clear hi); omega) | omega))
  obtain ⟨a1, e1, ha1⟩ := iZ_ex (xs (iZ (i + 1)).toNatClampNeg)
  obtain ⟨a2, e2, ha2⟩ := iZ_ex (xs (iZ (i + 2)).toNatClampNeg)
  obtain ⟨a3, e3, ha3⟩ := iZ_ex (xs (iZ (i + 3)).toNatClampNeg)
  refine lv_aload_n hx hb dL_law_1322 rfl (lv_at hl 2 rfl) ?_
  refine lv_aload_n hx hb dL_law_1323 rfl (lv_at hl 1 rfl) ?_
  refine lv_iload hx hb dL_law_1324 (lv_at hl 0 rfl) ?_
  refine lv_iconst (v := iZ 1) hx hb dL_law_1326 rfl ?_
  refine lv_iadd hx hb dL_law_1327 ?_
  refine lv_topi (fun x9 ex9 => ?_)
  obtain rfl : x9 = iZ (i + 1) := ex9.trans (iZ_add _ _)
  refine va_sld hx hb hX hbl hbA hS (iZ_in (by (first | ((try clear ex9); (try clear ha3); (try clear e3); (try clear ha2); (try clear e2); (try clear ha1); (try clear e1); (try clear hbA); (try clear hT0); (try clear hT); (try clear Bs); (try clear Wk); (try clear Ss); (try clear hsz0); (try clear hend); (try clear hroom); omega) | omega)) (by (first | ((try clear ex9); (try clear ha3); (try clear e3); (try clear ha2); (try clear e2); (try clear ha1); (try clear e1); (try clear hbA); (try clear hT0); (try clear hT); (try clear Bs); (try clear Wk); (try clear Ss); (try clear hsz0); (try clear hend); (try clear hroom); omega) | omega)) (by (first | ((try clear ex9); (try clear ha3); (try clear e3); (try clear ha2); (try clear e2); (try clear ha1); (try clear e1); (try clear hbA); (try clear hT0); (try clear hT); (try clear Bs); (try clear Wk); (try clear Ss); (try clear hsz0); (try clear hend); (try clear hroom); (try clear hi); omega) | omega))) dL_law_1328 ?_
  refine lv_topi (fun x9 ex9 => ?_)
  obtain rfl : x9 = iZ a1 := ex9.trans e1
  refine lv_aload_n hx hb dL_law_1329 rfl (lv_at hl 1 rfl) ?_
  refine lv_iload hx hb dL_law_1330 (lv_at hl 0 rfl) ?_
  refine lv_iconst (v := iZ 2) hx hb dL_law_1332 rfl ?_
  refine lv_iadd hx hb dL_law_1333 ?_
  refine lv_topi (fun x9 ex9 => ?_)
  obtain rfl : x9 = iZ (i + 2) := ex9.trans (iZ_add _ _)
  refine va_sld hx hb hX hbl hbA hS (iZ_in (by (first | ((try clear ex9); (try clear ha3); (try clear e3); (try clear ha2); (try clear e2); (try clear ha1); (try clear e1); (try clear hbA); (try clear hT0); (try clear hT); (try clear Bs); (try clear Wk); (try clear Ss); (try clear hsz0); (try clear hend); (try clear hroom); omega) | omega)) (by (first | ((try clear ex9); (try clear ha3); (try clear e3); (try clear ha2); (try clear e2); (try clear ha1); (try clear e1); (try clear hbA); (try clear hT0); (try clear hT); (try clear Bs); (try clear Wk); (try clear Ss); (try clear hsz0); (try clear hend); (try clear hroom); omega) | omega)) (by (first | ((try clear ex9); (try clear ha3); (try clear e3); (try clear ha2); (try clear e2); (try clear ha1); (try clear e1); (try clear hbA); (try clear hT0); (try clear hT); (try clear Bs); (try clear Wk); (try clear Ss); (try clear hsz0); (try clear hend); (try clear hroom); (try clear hi); omega) | omega))) dL_law_1334 ?_
  refine lv_topi (fun x9 ex9 => ?_)
  obtain rfl : x9 = iZ a2 := ex9.trans e2
  refine lv_aload_n hx hb dL_law_1335 rfl (lv_at hl 1 rfl) ?_
  refine lv_iload hx hb dL_law_1336 (lv_at hl 0 rfl) ?_
  refine lv_iconst (v := iZ 3) hx hb dL_law_1338 rfl ?_
  refine lv_iadd hx hb dL_law_1339 ?_
  refine lv_topi (fun x9 ex9 => ?_)
  obtain rfl : x9 = iZ (i + 3) := ex9.trans (iZ_add _ _)
  refine va_sld hx hb hX hbl hbA hS (iZ_in (by (first | ((try clear ex9); (try clear ha3); (try clear e3); (try clear ha2); (try clear e2); (try clear ha1); (try clear e1); (try clear hbA); (try clear hT0); (try clear hT); (try clear Bs); (try clear Wk); (try clear Ss); (try clear hsz0); (try clear hend); (try clear hroom); omega) | omega)) (by (first | ((try clear ex9); (try clear ha3); (try clear e3); (try clear ha2); (try clear e2); (try clear ha1); (try clear e1); (try clear hbA); (try clear hT0); (try clear hT); (try clear Bs); (try clear Wk); (try clear Ss); (try clear hsz0); (try clear hend); (try clear hroom); omega) | omega)) (by (first | ((try clear ex9); (try clear ha3); (try clear e3); (try clear ha2); (try clear e2); (try clear ha1); (try clear e1); (try clear hbA); (try clear hT0); (try clear hT); (try clear Bs); (try clear Wk); (try clear Ss); (try clear hsz0); (try clear hend); (try clear hroom); (try clear hi); omega) | omega))) dL_law_1340 ?_
  refine lv_topi (fun x9 ex9 => ?_)
  obtain rfl : x9 = iZ a3 := ex9.trans e3
  refine lv_aload_n hx hb dL_law_1341 rfl (lv_at hl 4 rfl) ?_
  refine va_calli (vx_runSW (hh := [(0, 12, 15, 20), (0, 12, 19, 13)]) (As := [.ref h0, .int (iZ a1), .int (iZ a2), .int (iZ a3), .ref (h0 + 6558)]) (rest := []) ⟨hx, hb, hml, hown, hts⟩ (w_step l hfl dC dI cI cL cII cR cO h0 (h0 + 6558) H.size μ f a1 a2 a3 T (hT.1.1.1.1.1) ha1 ha2 ha3 (by (first | ((try clear ex9); (try clear ha3); (try clear e3); (try clear ha2); (try clear e2); (try clear ha1); (try clear e1); (try clear hbA); (try clear hT0); (try clear hT); (try clear Bs); (try clear Wk); (try clear Ss); (try clear hsz0); (try clear hend); (try clear hroom); (try clear hi); omega) | omega))) (vx_cwSW 5 hts (gW_G k1135 k1136 k0 k1137) rfl rfl rfl (by decide +kernel) ⟨Nat.le_of_ble_eq_true rfl, Nat.le_of_ble_eq_true rfl⟩) ⟨fun a U g mk q => by obtain ⟨q0, q1, qP, qO, qK, qKo, qM, qE, qN⟩ := q; exact ⟨q0, q1, qP, qO, va_K.moved (u := U) (U := U.calling g mk a) (Vm.Alike.refl U.vm) qK, va_K.moved (u := U) (U := U.calling g mk a) (Vm.Alike.refl U.vm) qKo, qM, xX_call qE, qN⟩, fun U hU hW9 => ⟨rfl, by rw [hU], by rw [hU]; exact hW.1, by rw [hU]; exact hW.2.2, va_K.moved hW9.alike hK, va_K.moved hW9.alike hKo, xM_warm hW9 hM, xX_at hEx hS (fun q h => lA_w hS hsz0 (by (first | ((try clear h); (try clear q); (try clear hU); (try clear U); (try clear mk); (try clear g); (try clear ex9); (try clear ha3); (try clear e3); (try clear ha2); (try clear e2); (try clear ha1); (try clear e1); (try clear hbA); (try clear hT0); (try clear hT); (try clear Bs); (try clear Wk); (try clear Ss); (try clear hsz0); (try clear hend); (try clear hroom); (try clear hi); omega) | omega)) q h) hU hW9, xNC_warm hW9 hNc⟩⟩ rfl rfl hl.1 rfl (lv_room (Nat.le_of_ble_eq_true rfl)) dL_law_1342 ⟨by show cells + 1 ≤ 601024; (first | ((try clear ex9); (try clear ha3); (try clear e3); (try clear ha2); (try clear e2); (try clear ha1); (try clear e1); (try clear hbA); (try clear hT0); (try clear hT); (try clear Bs); (try clear Wk); (try clear Ss); (try clear hsz0); (try clear hend); (try clear hi); omega) | omega), by show slots + 6 ≤ 7293034; (first | ((try clear ex9); (try clear ha3); (try clear e3); (try clear ha2); (try clear e2); (try clear ha1); (try clear e1); (try clear hbA); (try clear hT0); (try clear hT); (try clear Bs); (try clear Wk); (try clear Ss); (try clear hsz0); (try clear hend); (try clear hi); omega) | omega)⟩) hS (fun q _ h => lA_w hS hsz0 (by (first | ((try clear h); (try clear ex9); (try clear ha3); (try clear e3); (try clear ha2); (try clear e2); (try clear ha1); (try clear e1); (try clear hbA); (try clear hT0); (try clear hT); (try clear Bs); (try clear Wk); (try clear Ss); (try clear hsz0); (try clear hend); (try clear hroom); (try clear hi); omega) | omega)) q h) (lA_w hS hsz0 (by (first | ((try clear ex9); (try clear ha3); (try clear e3); (try clear ha2); (try clear e2); (try clear ha1); (try clear e1); (try clear hbA); (try clear hT0); (try clear hT); (try clear Bs); (try clear Wk); (try clear Ss); (try clear hsz0); (try clear hend); (try clear hroom); (try clear hi); omega) | omega))) (fun r1 u9 t9 H1 locs ht9 hvm9 hw9 hB9 hz9 hk9 hS => ?_)
  obtain ⟨hP9, hO9⟩ := hB9
  rw [ht9] at hP9 hO9
  have hW := LW_w hW hk9 hP9 hO9
  have hT := LWt_c hT hw9
  obtain ⟨u1, f1⟩ := u9
  try dsimp only at hW hT
  clear hk9 hP9 hO9
  generalize H1 = H at hW hS ⊢
  refine lv_istore (lv' := [(5, .int r1), (4, .int (iZ i)), (0, .ref b), (1, .ref h0), (2, .ref (h0 + 233)), (3, .ref (h0 + 6558))]) hx hb dL_law_1345 hl (by decide) rfl (fun ls hl => ?_)
  refine lv_aload_n hx hb dL_law_1347 rfl (lv_at hl 4 rfl) ?_
  refine lv_aload_n hx hb dL_law_1348 rfl (lv_at hl 2 rfl) ?_
  refine lv_iload hx hb dL_law_1349 (lv_at hl 1 rfl) ?_
  refine lv_iconst (v := iZ 1) hx hb dL_law_1351 rfl ?_
  refine lv_iadd hx hb dL_law_1352 ?_
  refine lv_topi (fun x9 ex9 => ?_)
  obtain rfl : x9 = iZ (i + 1) := ex9.trans (iZ_add _ _)
  refine va_sld hx hb hX hbl hbA hS (iZ_in (by (first | ((try clear ex9); (try clear f1); (try clear u1); (try clear hT); (try clear hO9); (try clear hP9); (try clear hz9); (try clear r1); (try clear ha3); (try clear e3); (try clear ha2); (try clear e2); (try clear ha1); (try clear e1); (try clear hbA); (try clear hT0); (try clear Bs); (try clear Wk); (try clear Ss); (try clear hsz0); (try clear hend); (try clear hroom); omega) | omega)) (by (first | ((try clear ex9); (try clear f1); (try clear u1); (try clear hT); (try clear hO9); (try clear hP9); (try clear hz9); (try clear r1); (try clear ha3); (try clear e3); (try clear ha2); (try clear e2); (try clear ha1); (try clear e1); (try clear hbA); (try clear hT0); (try clear Bs); (try clear Wk); (try clear Ss); (try clear hsz0); (try clear hend); (try clear hroom); omega) | omega)) (by (first | ((try clear ex9); (try clear f1); (try clear u1); (try clear hT); (try clear hO9); (try clear hP9); (try clear hz9); (try clear r1); (try clear ha3); (try clear e3); (try clear ha2); (try clear e2); (try clear ha1); (try clear e1); (try clear hbA); (try clear hT0); (try clear Bs); (try clear Wk); (try clear Ss); (try clear hsz0); (try clear hend); (try clear hroom); (try clear hi); omega) | omega))) dL_law_1353 ?_
  refine lv_topi (fun x9 ex9 => ?_)
  obtain rfl : x9 = iZ a1 := ex9.trans e1
  refine lv_aload_n hx hb dL_law_1354 rfl (lv_at hl 2 rfl) ?_
  refine lv_iload hx hb dL_law_1355 (lv_at hl 1 rfl) ?_
  refine lv_iconst (v := iZ 2) hx hb dL_law_1357 rfl ?_
  refine lv_iadd hx hb dL_law_1358 ?_
  refine lv_topi (fun x9 ex9 => ?_)
  obtain rfl : x9 = iZ (i + 2) := ex9.trans (iZ_add _ _)
  refine va_sld hx hb hX hbl hbA hS (iZ_in (by (first | ((try clear ex9); (try clear f1); (try clear u1); (try clear hT); (try clear hO9); (try clear hP9); (try clear hz9); (try clear r1); (try clear ha3); (try clear e3); (try clear ha2); (try clear e2); (try clear ha1); (try clear e1); (try clear hbA); (try clear hT0); (try clear Bs); (try clear Wk); (try clear Ss); (try clear hsz0); (try clear hend); (try clear hroom); omega) | omega)) (by (first | ((try clear ex9); (try clear f1); (try clear u1); (try clear hT); (try clear hO9); (try clear hP9); (try clear hz9); (try clear r1); (try clear ha3); (try clear e3); (try clear ha2); (try clear e2); (try clear ha1); (try clear e1); (try clear hbA); (try clear hT0); (try clear Bs); (try clear Wk); (try clear Ss); (try clear hsz0); (try clear hend); (try clear hroom); omega) | omega)) (by (first | ((try clear ex9); (try clear f1); (try clear u1); (try clear hT); (try clear hO9); (try clear hP9); (try clear hz9); (try clear r1); (try clear ha3); (try clear e3); (try clear ha2); (try clear e2); (try clear ha1); (try clear e1); (try clear hbA); (try clear hT0); (try clear Bs); (try clear Wk); (try clear Ss); (try clear hsz0); (try clear hend); (try clear hroom); (try clear hi); omega) | omega))) dL_law_1359 ?_
  refine lv_topi (fun x9 ex9 => ?_)
  obtain rfl : x9 = iZ a2 := ex9.trans e2
  refine lv_aload_n hx hb dL_law_1360 rfl (lv_at hl 2 rfl) ?_
  refine lv_iload hx hb dL_law_1361 (lv_at hl 1 rfl) ?_
  refine lv_iconst (v := iZ 3) hx hb dL_law_1363 rfl ?_
  refine lv_iadd hx hb dL_law_1364 ?_
  refine lv_topi (fun x9 ex9 => ?_)
  obtain rfl : x9 = iZ (i + 3) := ex9.trans (iZ_add _ _)
  refine va_sld hx hb hX hbl hbA hS (iZ_in (by (first | ((try clear ex9); (try clear f1); (try clear u1); (try clear hT); (try clear hO9); (try clear hP9); (try clear hz9); (try clear r1); (try clear ha3); (try clear e3); (try clear ha2); (try clear e2); (try clear ha1); (try clear e1); (try clear hbA); (try clear hT0); (try clear Bs); (try clear Wk); (try clear Ss); (try clear hsz0); (try clear hend); (try clear hroom); omega) | omega)) (by (first | ((try clear ex9); (try clear f1); (try clear u1); (try clear hT); (try clear hO9); (try clear hP9); (try clear hz9); (try clear r1); (try clear ha3); (try clear e3); (try clear ha2); (try clear e2); (try clear ha1); (try clear e1); (try clear hbA); (try clear hT0); (try clear Bs); (try clear Wk); (try clear Ss); (try clear hsz0); (try clear hend); (try clear hroom); omega) | omega)) (by (first | ((try clear ex9); (try clear f1); (try clear u1); (try clear hT); (try clear hO9); (try clear hP9); (try clear hz9); (try clear r1); (try clear ha3); (try clear e3); (try clear ha2); (try clear e2); (try clear ha1); (try clear e1); (try clear hbA); (try clear hT0); (try clear Bs); (try clear Wk); (try clear Ss); (try clear hsz0); (try clear hend); (try clear hroom); (try clear hi); omega) | omega))) dL_law_1365 ?_
  refine lv_topi (fun x9 ex9 => ?_)
  obtain rfl : x9 = iZ a3 := ex9.trans e3
  refine va_calli (va_runV (As := [.int (iZ a1), .int (iZ a2), .int (iZ a3)]) (rest := []) ⟨hx, hb, hml, hown, hts⟩ (m_step l dC dI cI cZ cII cIII (h0 + 233) H.size ν a1 a2 a3 hT.1.1.1.1.2.1.1 ha1 ha2 ha3) (cwV 3 hts (gV_G k1759 k1760 k1761 k13 k1762) rfl rfl rfl (by decide +kernel) ⟨Nat.le_of_ble_eq_true rfl, Nat.le_of_ble_eq_true rfl⟩) ⟨fun a U g mk q => by obtain ⟨q0, q1, qP, qK⟩ := q; exact ⟨q0, q1, qP, va_K.moved (u := U) (U := U.calling g mk a) (Vm.Alike.refl U.vm) qK⟩, va_recv hKm hW.2.1 (ci := 10) (q0 := 0) rfl ((fw_get (by decide)).trans (by rw [mE_obj])), fun U hU hW9 => ⟨rfl, by rw [hU], by rw [hU]; exact hW.2.1, va_K.moved hW9.alike hKm⟩⟩ rfl rfl hl.1 rfl (lv_room (Nat.le_of_ble_eq_true rfl)) dL_law_1366 ⟨by show cells + 1 + 0 ≤ 601024; (first | ((try clear ex9); (try clear f1); (try clear u1); (try clear hT); (try clear hO9); (try clear hP9); (try clear hz9); (try clear r1); (try clear ha3); (try clear e3); (try clear ha2); (try clear e2); (try clear ha1); (try clear e1); (try clear hbA); (try clear hT0); (try clear Bs); (try clear Wk); (try clear Ss); (try clear hsz0); (try clear hend); (try clear hi); omega) | omega), by show slots + 6 + 0 ≤ 7293034; (first | ((try clear ex9); (try clear f1); (try clear u1); (try clear hT); (try clear hO9); (try clear hP9); (try clear hz9); (try clear r1); (try clear ha3); (try clear e3); (try clear ha2); (try clear e2); (try clear ha1); (try clear e1); (try clear hbA); (try clear hT0); (try clear Bs); (try clear Wk); (try clear Ss); (try clear hsz0); (try clear hend); (try clear hi); omega) | omega)⟩) hS (fun q _ h => lA_f hS hsz0 (by (first | ((try clear h); (try clear ex9); (try clear f1); (try clear u1); (try clear hT); (try clear hO9); (try clear hP9); (try clear hz9); (try clear r1); (try clear ha3); (try clear e3); (try clear ha2); (try clear e2); (try clear ha1); (try clear e1); (try clear hbA); (try clear hT0); (try clear Bs); (try clear Wk); (try clear Ss); (try clear hsz0); (try clear hend); (try clear hroom); (try clear hi); omega) | omega)) q h) (lA_f hS hsz0 (by (first | ((try clear ex9); (try clear f1); (try clear u1); (try clear hT); (try clear hO9); (try clear hP9); (try clear hz9); (try clear r1); (try clear ha3); (try clear e3); (try clear ha2); (try clear e2); (try clear ha1); (try clear e1); (try clear hbA); (try clear hT0); (try clear Bs); (try clear Wk); (try clear Ss); (try clear hsz0); (try clear hend); (try clear hroom); (try clear hi); omega) | omega))) (fun r2 u9 t9 H1 locs ht9 hvm9 hw9 hB9 hz9 hk9 hS => ?_)
  obtain ⟨hP9, -⟩ := hB9
  rw [ht9] at hP9
  have hW := LW_m hW hk9 hP9
  obtain ⟨v1, q2⟩ := u9
  obtain ⟨er9, hw9⟩ := hw9
  have er2 : r2 = iZ q2 := er9
  subst er2
  have hT := LWt_ps hT hw9
  try dsimp only at hW hT
  clear hk9 hP9
  generalize H1 = H at hW hS ⊢
  refine lv_istore (lv' := [(6, .int (iZ q2)), (5, .int r1), (4, .int (iZ i)), (0, .ref b), (1, .ref h0), (2, .ref (h0 + 233)), (3, .ref (h0 + 6558))]) hx hb dL_law_1369 hl (by decide) rfl (fun ls hl => ?_)
  refine lv_goto (tgt := 1468) hx hb dL_law_1371 (by decide) ?_
  have hV9 : LW9 u1 v1 := ⟨T, Ss, Wk, Bs, hT⟩
  refine W.widen (k := cells + 1) (n := slots + 6) (by (first | ((try clear hT); (try clear er2); (try clear er9); (try clear q2); (try clear v1); (try clear hP9); (try clear hz9); (try clear r2); (try clear ex9); (try clear f1); (try clear u1); (try clear hO9); (try clear r1); (try clear ha3); (try clear e3); (try clear ha2); (try clear e2); (try clear ha1); (try clear e1); (try clear hbA); (try clear hT0); (try clear Bs); (try clear Wk); (try clear Ss); (try clear hsz0); (try clear hend); (try clear hroom); (try clear hi); omega) | omega)) (by (first | ((try clear hT); (try clear er2); (try clear er9); (try clear q2); (try clear v1); (try clear hP9); (try clear hz9); (try clear r2); (try clear ex9); (try clear f1); (try clear u1); (try clear hO9); (try clear r1); (try clear ha3); (try clear e3); (try clear ha2); (try clear e2); (try clear ha1); (try clear e1); (try clear hbA); (try clear hT0); (try clear Bs); (try clear Wk); (try clear Ss); (try clear hsz0); (try clear hend); (try clear hroom); (try clear hi); omega) | omega)) ?_
  exact hend _ _ _ H locs ls hV9 hW hS (lv_sub hl [2, 3, 4, 5, 6] rfl)
set_option maxHeartbeats 4000000 in
set_option maxRecDepth 100000 in
theorem lc_users {p : Program} {l : Launch} {e : Env} {s : State} {m : MethodId} {below : List Frame} {meth : Method} {c : Code} {dC : Nat → ClassId} {dI : Nat → Nat → Nat} {cI cL cII cR cZ cIII cO : ClassId} {h0 b L : Nat} {xs : Nat → Int32} (C0 : lx_C p l s m c b L xs dC dI cI cL cII cR cZ cIII cO h0) {i : Int} (hi : 0 ≤ i ∧ i + 6 ≤ L) {μ ν : va_M} {f : Nat → Int64} (hV : LW9 μ ν) {cells slots : Nat} (hroom : cells + 1 ≤ 601024 ∧ slots + 6 ≤ 7293034)
    (hend : ∀ (μ ν : va_M) (f : Nat → Int64) (H : Heap) (locs : List Loc) (ls : Array Slot), LW9 μ ν → LW dC dI cI cL cII cR cZ cIII cO h0 μ ν f H → va_S (lA h0) s.heap H locs → lv_has ls 7 [(4, .int (iZ i)), (0, .ref b), (1, .ref h0), (2, .ref (h0 + 233)), (3, .ref (h0 + 6558))] → W p l e room_1 s m #[Value.ref b] below meth c H locs (cells + 1) (slots + 6) (lw_Z below #[Value.ref b] s) (F0 m 1468 ls []))
    {H : Heap} {locs : List Loc} {ls : Array Slot} (hW : LW dC dI cI cL cII cR cZ cIII cO h0 μ ν f H) (hS : va_S (lA h0) s.heap H locs) (hl : lv_has ls 7 [(4, .int (iZ i)), (0, .ref b), (1, .ref h0), (2, .ref (h0 + 233)), (3, .ref (h0 + 6558))]) : W p l e room_1 s m #[Value.ref b] below meth c H locs cells slots (lw_Z below #[Value.ref b] s) (F0 m 1374 ls []) := by
  obtain ⟨hfl, hx, hb, hml, hown, hts, hX, hbl, hsz0, hL9, hK, hKm, hKo, hM, hEx, hNc⟩ := C0
  obtain ⟨T, Ss, Wk, Bs, hT⟩ := hV
  have hT : LWt T Ss Wk Bs μ ν := hT
  have hT0 := hT
  have hbA : ¬ lA h0 b := Nat.not_le.mpr (by (first | ((try clear hbA); (try clear hT0); (try clear hT); (try clear Bs); (try clear Wk); (try clear Ss); (try clear hend); (try clear hroom); (try clear hi); omega) | omega))
  obtain ⟨a1, e1, ha1⟩ := iZ_ex (xs (iZ (i + 1)).toNatClampNeg)
  refine lv_aload_n hx hb dL_law_1374 rfl (lv_at hl 2 rfl) ?_
  refine lv_aload_n hx hb dL_law_1375 rfl (lv_at hl 1 rfl) ?_
  refine lv_iload hx hb dL_law_1376 (lv_at hl 0 rfl) ?_
  refine lv_iconst (v := iZ 1) hx hb dL_law_1378 rfl ?_
  refine lv_iadd hx hb dL_law_1379 ?_
  refine lv_topi (fun x9 ex9 => ?_)
  obtain rfl : x9 = iZ (i + 1) := ex9.trans (iZ_add _ _)
  refine va_sld hx hb hX hbl hbA hS (iZ_in (by (first | ((try clear ex9); (try clear ha1); (try clear e1); (try clear hbA); (try clear hT0); (try clear hT); (try clear Bs); (try clear Wk); (try clear Ss); (try clear hsz0); (try clear hend); (try clear hroom); omega) | omega)) (by (first | ((try clear ex9); (try clear ha1); (try clear e1); (try clear hbA); (try clear hT0); (try clear hT); (try clear Bs); (try clear Wk); (try clear Ss); (try clear hsz0); (try clear hend); (try clear hroom); omega) | omega)) (by (first | ((try clear ex9); (try clear ha1); (try clear e1); (try clear hbA); (try clear hT0); (try clear hT); (try clear Bs); (try clear Wk); (try clear Ss); (try clear hsz0); (try clear hend); (try clear hroom); (try clear hi); omega) | omega))) dL_law_1380 ?_
  refine lv_topi (fun x9 ex9 => ?_)
  obtain rfl : x9 = iZ a1 := ex9.trans e1
  refine lv_aload_n hx hb dL_law_1381 rfl (lv_at hl 4 rfl) ?_
  refine va_calli (vx_runSW (hh := [(0, 9, 12, 20)]) (As := [.ref h0, .int (iZ a1), .ref (h0 + 6558)]) (rest := []) ⟨hx, hb, hml, hown, hts⟩ (w_users l hfl dC dI cI cL cII cR cO h0 (h0 + 6558) H.size μ f a1 T (hT.1.1.1.1.1) ha1 (by (first | ((try clear ex9); (try clear ha1); (try clear e1); (try clear hbA); (try clear hT0); (try clear hT); (try clear Bs); (try clear Wk); (try clear Ss); (try clear hsz0); (try clear hend); (try clear hroom); (try clear hi); omega) | omega))) (vx_cwSW 3 hts (gW_G k1142 k1143 k0 k1144) rfl rfl rfl (by decide +kernel) ⟨Nat.le_of_ble_eq_true rfl, Nat.le_of_ble_eq_true rfl⟩) ⟨fun a U g mk q => by obtain ⟨q0, q1, qP, qO, qK, qKo, qM, qE, qN⟩ := q; exact ⟨q0, q1, qP, qO, va_K.moved (u := U) (U := U.calling g mk a) (Vm.Alike.refl U.vm) qK, va_K.moved (u := U) (U := U.calling g mk a) (Vm.Alike.refl U.vm) qKo, qM, xX_call qE, qN⟩, fun U hU hW9 => ⟨rfl, by rw [hU], by rw [hU]; exact hW.1, by rw [hU]; exact hW.2.2, va_K.moved hW9.alike hK, va_K.moved hW9.alike hKo, xM_warm hW9 hM, xX_at hEx hS (fun q h => lA_w hS hsz0 (by (first | ((try clear h); (try clear q); (try clear hU); (try clear U); (try clear mk); (try clear g); (try clear ex9); (try clear ha1); (try clear e1); (try clear hbA); (try clear hT0); (try clear hT); (try clear Bs); (try clear Wk); (try clear Ss); (try clear hsz0); (try clear hend); (try clear hroom); (try clear hi); omega) | omega)) q h) hU hW9, xNC_warm hW9 hNc⟩⟩ rfl rfl hl.1 rfl (lv_room (Nat.le_of_ble_eq_true rfl)) dL_law_1382 ⟨by show cells + 1 ≤ 601024; (first | ((try clear ex9); (try clear ha1); (try clear e1); (try clear hbA); (try clear hT0); (try clear hT); (try clear Bs); (try clear Wk); (try clear Ss); (try clear hsz0); (try clear hend); (try clear hi); omega) | omega), by show slots + 6 ≤ 7293034; (first | ((try clear ex9); (try clear ha1); (try clear e1); (try clear hbA); (try clear hT0); (try clear hT); (try clear Bs); (try clear Wk); (try clear Ss); (try clear hsz0); (try clear hend); (try clear hi); omega) | omega)⟩) hS (fun q _ h => lA_w hS hsz0 (by (first | ((try clear h); (try clear ex9); (try clear ha1); (try clear e1); (try clear hbA); (try clear hT0); (try clear hT); (try clear Bs); (try clear Wk); (try clear Ss); (try clear hsz0); (try clear hend); (try clear hroom); (try clear hi); omega) | omega)) q h) (lA_w hS hsz0 (by (first | ((try clear ex9); (try clear ha1); (try clear e1); (try clear hbA); (try clear hT0); (try clear hT); (try clear Bs); (try clear Wk); (try clear Ss); (try clear hsz0); (try clear hend); (try clear hroom); (try clear hi); omega) | omega))) (fun r1 u9 t9 H1 locs ht9 hvm9 hw9 hB9 hz9 hk9 hS => ?_)
  obtain ⟨hP9, hO9⟩ := hB9
  rw [ht9] at hP9 hO9
  have hW := LW_w hW hk9 hP9 hO9
  have hT := LWt_c hT hw9
  obtain ⟨u1, f1⟩ := u9
  try dsimp only at hW hT
  clear hk9 hP9 hO9
  generalize H1 = H at hW hS ⊢
  refine lv_istore (lv' := [(5, .int r1), (4, .int (iZ i)), (0, .ref b), (1, .ref h0), (2, .ref (h0 + 233)), (3, .ref (h0 + 6558))]) hx hb dL_law_1385 hl (by decide) rfl (fun ls hl => ?_)
  refine lv_aload_n hx hb dL_law_1387 rfl (lv_at hl 4 rfl) ?_
  refine lv_aload_n hx hb dL_law_1388 rfl (lv_at hl 2 rfl) ?_
  refine lv_iload hx hb dL_law_1389 (lv_at hl 1 rfl) ?_
  refine lv_iconst (v := iZ 1) hx hb dL_law_1391 rfl ?_
  refine lv_iadd hx hb dL_law_1392 ?_
  refine lv_topi (fun x9 ex9 => ?_)
  obtain rfl : x9 = iZ (i + 1) := ex9.trans (iZ_add _ _)
  refine va_sld hx hb hX hbl hbA hS (iZ_in (by (first | ((try clear ex9); (try clear f1); (try clear u1); (try clear hT); (try clear hO9); (try clear hP9); (try clear hz9); (try clear r1); (try clear ha1); (try clear e1); (try clear hbA); (try clear hT0); (try clear Bs); (try clear Wk); (try clear Ss); (try clear hsz0); (try clear hend); (try clear hroom); omega) | omega)) (by (first | ((try clear ex9); (try clear f1); (try clear u1); (try clear hT); (try clear hO9); (try clear hP9); (try clear hz9); (try clear r1); (try clear ha1); (try clear e1); (try clear hbA); (try clear hT0); (try clear Bs); (try clear Wk); (try clear Ss); (try clear hsz0); (try clear hend); (try clear hroom); omega) | omega)) (by (first | ((try clear ex9); (try clear f1); (try clear u1); (try clear hT); (try clear hO9); (try clear hP9); (try clear hz9); (try clear r1); (try clear ha1); (try clear e1); (try clear hbA); (try clear hT0); (try clear Bs); (try clear Wk); (try clear Ss); (try clear hsz0); (try clear hend); (try clear hroom); (try clear hi); omega) | omega))) dL_law_1393 ?_
  refine lv_topi (fun x9 ex9 => ?_)
  obtain rfl : x9 = iZ a1 := ex9.trans e1
  refine va_calli (va_runV (As := [.int (iZ a1)]) (rest := []) ⟨hx, hb, hml, hown, hts⟩ (m_users l dC dI cI cZ cII cIII (h0 + 233) H.size ν a1 hT.1.1.1.1.2.1.1 ha1) (cwV 1 hts (gV_G k1687 k1688 k1689 k13 k1690) rfl rfl rfl (by decide +kernel) ⟨Nat.le_of_ble_eq_true rfl, Nat.le_of_ble_eq_true rfl⟩) ⟨fun a U g mk q => by obtain ⟨q0, q1, qP, qK⟩ := q; exact ⟨q0, q1, qP, va_K.moved (u := U) (U := U.calling g mk a) (Vm.Alike.refl U.vm) qK⟩, va_recv hKm hW.2.1 (ci := 10) (q0 := 0) rfl ((fw_get (by decide)).trans (by rw [mE_obj])), fun U hU hW9 => ⟨rfl, by rw [hU], by rw [hU]; exact hW.2.1, va_K.moved hW9.alike hKm⟩⟩ rfl rfl hl.1 rfl (lv_room (Nat.le_of_ble_eq_true rfl)) dL_law_1394 ⟨by show cells + 1 + 0 ≤ 601024; (first | ((try clear ex9); (try clear f1); (try clear u1); (try clear hT); (try clear hO9); (try clear hP9); (try clear hz9); (try clear r1); (try clear ha1); (try clear e1); (try clear hbA); (try clear hT0); (try clear Bs); (try clear Wk); (try clear Ss); (try clear hsz0); (try clear hend); (try clear hi); omega) | omega), by show slots + 6 + 0 ≤ 7293034; (first | ((try clear ex9); (try clear f1); (try clear u1); (try clear hT); (try clear hO9); (try clear hP9); (try clear hz9); (try clear r1); (try clear ha1); (try clear e1); (try clear hbA); (try clear hT0); (try clear Bs); (try clear Wk); (try clear Ss); (try clear hsz0); (try clear hend); (try clear hi); omega) | omega)⟩) hS (fun q _ h => lA_f hS hsz0 (by (first | ((try clear h); (try clear ex9); (try clear f1); (try clear u1); (try clear hT); (try clear hO9); (try clear hP9); (try clear hz9); (try clear r1); (try clear ha1); (try clear e1); (try clear hbA); (try clear hT0); (try clear Bs); (try clear Wk); (try clear Ss); (try clear hsz0); (try clear hend); (try clear hroom); (try clear hi); omega) | omega)) q h) (lA_f hS hsz0 (by (first | ((try clear ex9); (try clear f1); (try clear u1); (try clear hT); (try clear hO9); (try clear hP9); (try clear hz9); (try clear r1); (try clear ha1); (try clear e1); (try clear hbA); (try clear hT0); (try clear Bs); (try clear Wk); (try clear Ss); (try clear hsz0); (try clear hend); (try clear hroom); (try clear hi); omega) | omega))) (fun r2 u9 t9 H1 locs ht9 hvm9 hw9 hB9 hz9 hk9 hS => ?_)
  obtain ⟨hP9, -⟩ := hB9
  rw [ht9] at hP9
  have hW := LW_m hW hk9 hP9
  obtain ⟨v1, q2⟩ := u9
  obtain ⟨er9, hw9⟩ := hw9
  have er2 : r2 = iZ q2 := er9
  subst er2
  have hT := LWt_ps hT hw9
  try dsimp only at hW hT
  clear hk9 hP9
  generalize H1 = H at hW hS ⊢
  refine lv_istore (lv' := [(6, .int (iZ q2)), (5, .int r1), (4, .int (iZ i)), (0, .ref b), (1, .ref h0), (2, .ref (h0 + 233)), (3, .ref (h0 + 6558))]) hx hb dL_law_1397 hl (by decide) rfl (fun ls hl => ?_)
  refine lv_goto (tgt := 1468) hx hb dL_law_1399 (by decide) ?_
  have hV9 : LW9 u1 v1 := ⟨T, Ss, Wk, Bs, hT⟩
  refine W.widen (k := cells + 1) (n := slots + 6) (by (first | ((try clear hT); (try clear er2); (try clear er9); (try clear q2); (try clear v1); (try clear hP9); (try clear hz9); (try clear r2); (try clear ex9); (try clear f1); (try clear u1); (try clear hO9); (try clear r1); (try clear ha1); (try clear e1); (try clear hbA); (try clear hT0); (try clear Bs); (try clear Wk); (try clear Ss); (try clear hsz0); (try clear hend); (try clear hroom); (try clear hi); omega) | omega)) (by (first | ((try clear hT); (try clear er2); (try clear er9); (try clear q2); (try clear v1); (try clear hP9); (try clear hz9); (try clear r2); (try clear ex9); (try clear f1); (try clear u1); (try clear hO9); (try clear r1); (try clear ha1); (try clear e1); (try clear hbA); (try clear hT0); (try clear Bs); (try clear Wk); (try clear Ss); (try clear hsz0); (try clear hend); (try clear hroom); (try clear hi); omega) | omega)) ?_
  exact hend _ _ _ H locs ls hV9 hW hS (lv_sub hl [2, 3, 4, 5, 6] rfl)
set_option maxHeartbeats 4000000 in
set_option maxRecDepth 100000 in
theorem lc_greatest {p : Program} {l : Launch} {e : Env} {s : State} {m : MethodId} {below : List Frame} {meth : Method} {c : Code} {dC : Nat → ClassId} {dI : Nat → Nat → Nat} {cI cL cII cR cZ cIII cO : ClassId} {h0 b L : Nat} {xs : Nat → Int32} (C0 : lx_C p l s m c b L xs dC dI cI cL cII cR cZ cIII cO h0) {i : Int} (hi : 0 ≤ i ∧ i + 6 ≤ L) {μ ν : va_M} {f : Nat → Int64} (hV : LW9 μ ν) {cells slots : Nat} (hroom : cells + 1 ≤ 601024 ∧ slots + 6 ≤ 7293034)
    (hend : ∀ (μ ν : va_M) (f : Nat → Int64) (H : Heap) (locs : List Loc) (ls : Array Slot), LW9 μ ν → LW dC dI cI cL cII cR cZ cIII cO h0 μ ν f H → va_S (lA h0) s.heap H locs → lv_has ls 7 [(4, .int (iZ i)), (0, .ref b), (1, .ref h0), (2, .ref (h0 + 233)), (3, .ref (h0 + 6558))] → W p l e room_1 s m #[Value.ref b] below meth c H locs (cells + 1) (slots + 6) (lw_Z below #[Value.ref b] s) (F0 m 1468 ls []))
    {H : Heap} {locs : List Loc} {ls : Array Slot} (hW : LW dC dI cI cL cII cR cZ cIII cO h0 μ ν f H) (hS : va_S (lA h0) s.heap H locs) (hl : lv_has ls 7 [(4, .int (iZ i)), (0, .ref b), (1, .ref h0), (2, .ref (h0 + 233)), (3, .ref (h0 + 6558))]) : W p l e room_1 s m #[Value.ref b] below meth c H locs cells slots (lw_Z below #[Value.ref b] s) (F0 m 1402 ls []) := by
  obtain ⟨hfl, hx, hb, hml, hown, hts, hX, hbl, hsz0, hL9, hK, hKm, hKo, hM, hEx, hNc⟩ := C0
  obtain ⟨T, Ss, Wk, Bs, hT⟩ := hV
  have hT : LWt T Ss Wk Bs μ ν := hT
  have hT0 := hT
  have hbA : ¬ lA h0 b := Nat.not_le.mpr (by (first | ((try clear hbA); (try clear hT0); (try clear hT); (try clear Bs); (try clear Wk); (try clear Ss); (try clear hend); (try clear hroom); (try clear hi); omega) | omega))
  obtain ⟨a1, e1, ha1⟩ := iZ_ex (xs (iZ (i + 1)).toNatClampNeg)
  refine lv_aload_n hx hb dL_law_1402 rfl (lv_at hl 2 rfl) ?_
  refine lv_aload_n hx hb dL_law_1403 rfl (lv_at hl 1 rfl) ?_
  refine lv_iload hx hb dL_law_1404 (lv_at hl 0 rfl) ?_
  refine lv_iconst (v := iZ 1) hx hb dL_law_1406 rfl ?_
  refine lv_iadd hx hb dL_law_1407 ?_
  refine lv_topi (fun x9 ex9 => ?_)
  obtain rfl : x9 = iZ (i + 1) := ex9.trans (iZ_add _ _)
  refine va_sld hx hb hX hbl hbA hS (iZ_in (by (first | ((try clear ex9); (try clear ha1); (try clear e1); (try clear hbA); (try clear hT0); (try clear hT); (try clear Bs); (try clear Wk); (try clear Ss); (try clear hsz0); (try clear hend); (try clear hroom); omega) | omega)) (by (first | ((try clear ex9); (try clear ha1); (try clear e1); (try clear hbA); (try clear hT0); (try clear hT); (try clear Bs); (try clear Wk); (try clear Ss); (try clear hsz0); (try clear hend); (try clear hroom); omega) | omega)) (by (first | ((try clear ex9); (try clear ha1); (try clear e1); (try clear hbA); (try clear hT0); (try clear hT); (try clear Bs); (try clear Wk); (try clear Ss); (try clear hsz0); (try clear hend); (try clear hroom); (try clear hi); omega) | omega))) dL_law_1408 ?_
  refine lv_topi (fun x9 ex9 => ?_)
  obtain rfl : x9 = iZ a1 := ex9.trans e1
  refine lv_aload_n hx hb dL_law_1409 rfl (lv_at hl 4 rfl) ?_
  refine va_calli (vx_runSW (hh := [(0, 9, 12, 20)]) (As := [.ref h0, .int (iZ a1), .ref (h0 + 6558)]) (rest := []) ⟨hx, hb, hml, hown, hts⟩ (w_greatest l hfl dC dI cI cL cII cR cO h0 (h0 + 6558) H.size μ f a1 T (hT.1.1.1.1.1) ha1 (by (first | ((try clear ex9); (try clear ha1); (try clear e1); (try clear hbA); (try clear hT0); (try clear hT); (try clear Bs); (try clear Wk); (try clear Ss); (try clear hsz0); (try clear hend); (try clear hroom); (try clear hi); omega) | omega))) (vx_cwSW 3 hts (gW_G k1149 k1150 k0 k1151) rfl rfl rfl (by decide +kernel) ⟨Nat.le_of_ble_eq_true rfl, Nat.le_of_ble_eq_true rfl⟩) ⟨fun a U g mk q => by obtain ⟨q0, q1, qP, qO, qK, qKo, qM, qE, qN⟩ := q; exact ⟨q0, q1, qP, qO, va_K.moved (u := U) (U := U.calling g mk a) (Vm.Alike.refl U.vm) qK, va_K.moved (u := U) (U := U.calling g mk a) (Vm.Alike.refl U.vm) qKo, qM, xX_call qE, qN⟩, fun U hU hW9 => ⟨rfl, by rw [hU], by rw [hU]; exact hW.1, by rw [hU]; exact hW.2.2, va_K.moved hW9.alike hK, va_K.moved hW9.alike hKo, xM_warm hW9 hM, xX_at hEx hS (fun q h => lA_w hS hsz0 (by (first | ((try clear h); (try clear q); (try clear hU); (try clear U); (try clear mk); (try clear g); (try clear ex9); (try clear ha1); (try clear e1); (try clear hbA); (try clear hT0); (try clear hT); (try clear Bs); (try clear Wk); (try clear Ss); (try clear hsz0); (try clear hend); (try clear hroom); (try clear hi); omega) | omega)) q h) hU hW9, xNC_warm hW9 hNc⟩⟩ rfl rfl hl.1 rfl (lv_room (Nat.le_of_ble_eq_true rfl)) dL_law_1410 ⟨by show cells + 1 ≤ 601024; (first | ((try clear ex9); (try clear ha1); (try clear e1); (try clear hbA); (try clear hT0); (try clear hT); (try clear Bs); (try clear Wk); (try clear Ss); (try clear hsz0); (try clear hend); (try clear hi); omega) | omega), by show slots + 6 ≤ 7293034; (first | ((try clear ex9); (try clear ha1); (try clear e1); (try clear hbA); (try clear hT0); (try clear hT); (try clear Bs); (try clear Wk); (try clear Ss); (try clear hsz0); (try clear hend); (try clear hi); omega) | omega)⟩) hS (fun q _ h => lA_w hS hsz0 (by (first | ((try clear h); (try clear ex9); (try clear ha1); (try clear e1); (try clear hbA); (try clear hT0); (try clear hT); (try clear Bs); (try clear Wk); (try clear Ss); (try clear hsz0); (try clear hend); (try clear hroom); (try clear hi); omega) | omega)) q h) (lA_w hS hsz0 (by (first | ((try clear ex9); (try clear ha1); (try clear e1); (try clear hbA); (try clear hT0); (try clear hT); (try clear Bs); (try clear Wk); (try clear Ss); (try clear hsz0); (try clear hend); (try clear hroom); (try clear hi); omega) | omega))) (fun r1 u9 t9 H1 locs ht9 hvm9 hw9 hB9 hz9 hk9 hS => ?_)
  obtain ⟨hP9, hO9⟩ := hB9
  rw [ht9] at hP9 hO9
  have hW := LW_w hW hk9 hP9 hO9
  have hT := LWt_c hT hw9
  obtain ⟨u1, f1⟩ := u9
  try dsimp only at hW hT
  clear hk9 hP9 hO9
  generalize H1 = H at hW hS ⊢
  refine lv_istore (lv' := [(5, .int r1), (4, .int (iZ i)), (0, .ref b), (1, .ref h0), (2, .ref (h0 + 233)), (3, .ref (h0 + 6558))]) hx hb dL_law_1413 hl (by decide) rfl (fun ls hl => ?_)
  refine lv_aload_n hx hb dL_law_1415 rfl (lv_at hl 4 rfl) ?_
  refine lv_aload_n hx hb dL_law_1416 rfl (lv_at hl 2 rfl) ?_
  refine lv_iload hx hb dL_law_1417 (lv_at hl 1 rfl) ?_
  refine lv_iconst (v := iZ 1) hx hb dL_law_1419 rfl ?_
  refine lv_iadd hx hb dL_law_1420 ?_
  refine lv_topi (fun x9 ex9 => ?_)
  obtain rfl : x9 = iZ (i + 1) := ex9.trans (iZ_add _ _)
  refine va_sld hx hb hX hbl hbA hS (iZ_in (by (first | ((try clear ex9); (try clear f1); (try clear u1); (try clear hT); (try clear hO9); (try clear hP9); (try clear hz9); (try clear r1); (try clear ha1); (try clear e1); (try clear hbA); (try clear hT0); (try clear Bs); (try clear Wk); (try clear Ss); (try clear hsz0); (try clear hend); (try clear hroom); omega) | omega)) (by (first | ((try clear ex9); (try clear f1); (try clear u1); (try clear hT); (try clear hO9); (try clear hP9); (try clear hz9); (try clear r1); (try clear ha1); (try clear e1); (try clear hbA); (try clear hT0); (try clear Bs); (try clear Wk); (try clear Ss); (try clear hsz0); (try clear hend); (try clear hroom); omega) | omega)) (by (first | ((try clear ex9); (try clear f1); (try clear u1); (try clear hT); (try clear hO9); (try clear hP9); (try clear hz9); (try clear r1); (try clear ha1); (try clear e1); (try clear hbA); (try clear hT0); (try clear Bs); (try clear Wk); (try clear Ss); (try clear hsz0); (try clear hend); (try clear hroom); (try clear hi); omega) | omega))) dL_law_1421 ?_
  refine lv_topi (fun x9 ex9 => ?_)
  obtain rfl : x9 = iZ a1 := ex9.trans e1
  refine va_calli (va_runV (As := [.int (iZ a1)]) (rest := []) ⟨hx, hb, hml, hown, hts⟩ (m_greatest l dC dI cI cZ cII cIII (h0 + 233) H.size ν a1 hT.1.1.1.1.2.1.1 ha1) (cwV 1 hts (gV_G k1691 k1692 k1693 k13 k1694) rfl rfl rfl (by decide +kernel) ⟨Nat.le_of_ble_eq_true rfl, Nat.le_of_ble_eq_true rfl⟩) ⟨fun a U g mk q => by obtain ⟨q0, q1, qP, qK⟩ := q; exact ⟨q0, q1, qP, va_K.moved (u := U) (U := U.calling g mk a) (Vm.Alike.refl U.vm) qK⟩, va_recv hKm hW.2.1 (ci := 10) (q0 := 0) rfl ((fw_get (by decide)).trans (by rw [mE_obj])), fun U hU hW9 => ⟨rfl, by rw [hU], by rw [hU]; exact hW.2.1, va_K.moved hW9.alike hKm⟩⟩ rfl rfl hl.1 rfl (lv_room (Nat.le_of_ble_eq_true rfl)) dL_law_1422 ⟨by show cells + 1 + 0 ≤ 601024; (first | ((try clear ex9); (try clear f1); (try clear u1); (try clear hT); (try clear hO9); (try clear hP9); (try clear hz9); (try clear r1); (try clear ha1); (try clear e1); (try clear hbA); (try clear hT0); (try clear Bs); (try clear Wk); (try clear Ss); (try clear hsz0); (try clear hend); (try clear hi); omega) | omega), by show slots + 6 + 0 ≤ 7293034; (first | ((try clear ex9); (try clear f1); (try clear u1); (try clear hT); (try clear hO9); (try clear hP9); (try clear hz9); (try clear r1); (try clear ha1); (try clear e1); (try clear hbA); (try clear hT0); (try clear Bs); (try clear Wk); (try clear Ss); (try clear hsz0); (try clear hend); (try clear hi); omega) | omega)⟩) hS (fun q _ h => lA_f hS hsz0 (by (first | ((try clear h); (try clear ex9); (try clear f1); (try clear u1); (try clear hT); (try clear hO9); (try clear hP9); (try clear hz9); (try clear r1); (try clear ha1); (try clear e1); (try clear hbA); (try clear hT0); (try clear Bs); (try clear Wk); (try clear Ss); (try clear hsz0); (try clear hend); (try clear hroom); (try clear hi); omega) | omega)) q h) (lA_f hS hsz0 (by (first | ((try clear ex9); (try clear f1); (try clear u1); (try clear hT); (try clear hO9); (try clear hP9); (try clear hz9); (try clear r1); (try clear ha1); (try clear e1); (try clear hbA); (try clear hT0); (try clear Bs); (try clear Wk); (try clear Ss); (try clear hsz0); (try clear hend); (try clear hroom); (try clear hi); omega) | omega))) (fun r2 u9 t9 H1 locs ht9 hvm9 hw9 hB9 hz9 hk9 hS => ?_)
  obtain ⟨hP9, -⟩ := hB9
  rw [ht9] at hP9
  have hW := LW_m hW hk9 hP9
  obtain ⟨v1, q2⟩ := u9
  obtain ⟨er9, hw9⟩ := hw9
  have er2 : r2 = iZ q2 := er9
  subst er2
  have hT := LWt_ps hT hw9
  try dsimp only at hW hT
  clear hk9 hP9
  generalize H1 = H at hW hS ⊢
  refine lv_istore (lv' := [(6, .int (iZ q2)), (5, .int r1), (4, .int (iZ i)), (0, .ref b), (1, .ref h0), (2, .ref (h0 + 233)), (3, .ref (h0 + 6558))]) hx hb dL_law_1425 hl (by decide) rfl (fun ls hl => ?_)
  refine lv_goto (tgt := 1468) hx hb dL_law_1427 (by decide) ?_
  have hV9 : LW9 u1 v1 := ⟨T, Ss, Wk, Bs, hT⟩
  refine W.widen (k := cells + 1) (n := slots + 6) (by (first | ((try clear hT); (try clear er2); (try clear er9); (try clear q2); (try clear v1); (try clear hP9); (try clear hz9); (try clear r2); (try clear ex9); (try clear f1); (try clear u1); (try clear hO9); (try clear r1); (try clear ha1); (try clear e1); (try clear hbA); (try clear hT0); (try clear Bs); (try clear Wk); (try clear Ss); (try clear hsz0); (try clear hend); (try clear hroom); (try clear hi); omega) | omega)) (by (first | ((try clear hT); (try clear er2); (try clear er9); (try clear q2); (try clear v1); (try clear hP9); (try clear hz9); (try clear r2); (try clear ex9); (try clear f1); (try clear u1); (try clear hO9); (try clear r1); (try clear ha1); (try clear e1); (try clear hbA); (try clear hT0); (try clear Bs); (try clear Wk); (try clear Ss); (try clear hsz0); (try clear hend); (try clear hroom); (try clear hi); omega) | omega)) ?_
  exact hend _ _ _ H locs ls hV9 hW hS (lv_sub hl [2, 3, 4, 5, 6] rfl)
set_option maxHeartbeats 4000000 in
set_option maxRecDepth 100000 in
theorem lc_fitting {p : Program} {l : Launch} {e : Env} {s : State} {m : MethodId} {below : List Frame} {meth : Method} {c : Code} {dC : Nat → ClassId} {dI : Nat → Nat → Nat} {cI cL cII cR cZ cIII cO : ClassId} {h0 b L : Nat} {xs : Nat → Int32} (C0 : lx_C p l s m c b L xs dC dI cI cL cII cR cZ cIII cO h0) {i : Int} (hi : 0 ≤ i ∧ i + 6 ≤ L) {μ ν : va_M} {f : Nat → Int64} (hV : LW9 μ ν) {cells slots : Nat} (hroom : cells + 1 ≤ 601024 ∧ slots + 6 ≤ 7293034)
    (hend : ∀ (μ ν : va_M) (f : Nat → Int64) (H : Heap) (locs : List Loc) (ls : Array Slot), LW9 μ ν → LW dC dI cI cL cII cR cZ cIII cO h0 μ ν f H → va_S (lA h0) s.heap H locs → lv_has ls 7 [(4, .int (iZ i)), (0, .ref b), (1, .ref h0), (2, .ref (h0 + 233)), (3, .ref (h0 + 6558))] → W p l e room_1 s m #[Value.ref b] below meth c H locs (cells + 1) (slots + 6) (lw_Z below #[Value.ref b] s) (F0 m 1468 ls []))
    {H : Heap} {locs : List Loc} {ls : Array Slot} (hW : LW dC dI cI cL cII cR cZ cIII cO h0 μ ν f H) (hS : va_S (lA h0) s.heap H locs) (hl : lv_has ls 7 [(4, .int (iZ i)), (0, .ref b), (1, .ref h0), (2, .ref (h0 + 233)), (3, .ref (h0 + 6558))]) : W p l e room_1 s m #[Value.ref b] below meth c H locs cells slots (lw_Z below #[Value.ref b] s) (F0 m 1430 ls []) := by
  obtain ⟨hfl, hx, hb, hml, hown, hts, hX, hbl, hsz0, hL9, hK, hKm, hKo, hM, hEx, hNc⟩ := C0
  obtain ⟨T, Ss, Wk, Bs, hT⟩ := hV
  have hT : LWt T Ss Wk Bs μ ν := hT
  have hT0 := hT
  have hbA : ¬ lA h0 b := Nat.not_le.mpr (by (first | ((try clear hbA); (try clear hT0); (try clear hT); (try clear Bs); (try clear Wk); (try clear Ss); (try clear hend); (try clear hroom); (try clear hi); omega) | omega))
  refine lv_aload_n hx hb dL_law_1430 rfl (lv_at hl 2 rfl) ?_
  refine va_calli (va_runV (As := []) (rest := []) ⟨hx, hb, hml, hown, hts⟩ (q_fitting l dC dI cI cL cII cR h0 H.size μ  T (hT.1.1.1.1.1) ) (cwV 0 hts (gV_G k531 k532 k533 k1 k534) rfl rfl rfl (by decide +kernel) ⟨Nat.le_of_ble_eq_true rfl, Nat.le_of_ble_eq_true rfl⟩) ⟨fun a U g mk q => by obtain ⟨q0, q1, qP, qK, qM⟩ := q; exact ⟨q0, q1, qP, va_K.moved (u := U) (U := U.calling g mk a) (Vm.Alike.refl U.vm) qK, qM⟩, va_recv hK hW.1 (ci := 9) (q0 := 0) rfl ((fw_get (by decide)).trans (by rw [sE_0]; rfl)), fun U hU hW9 => ⟨rfl, by rw [hU], by rw [hU]; exact hW.1, va_K.moved hW9.alike hK, xM_warm hW9 hM⟩⟩ rfl rfl hl.1 rfl (lv_room (Nat.le_of_ble_eq_true rfl)) dL_law_1431 ⟨by show cells + 0 ≤ 601024; (first | ((try clear hbA); (try clear hT0); (try clear hT); (try clear Bs); (try clear Wk); (try clear Ss); (try clear hsz0); (try clear hend); (try clear hi); omega) | omega), by show slots + 0 ≤ 7293034; (first | ((try clear hbA); (try clear hT0); (try clear hT); (try clear Bs); (try clear Wk); (try clear Ss); (try clear hsz0); (try clear hend); (try clear hi); omega) | omega)⟩) hS (fun q _ h => lA_f hS hsz0 (Nat.le_refl _) q h) (lA_f hS hsz0 (Nat.le_refl _)) (fun r1 u9 t9 H1 locs ht9 hvm9 hw9 hB9 hz9 hk9 hS => ?_)
  obtain ⟨hP9, -⟩ := hB9
  rw [ht9] at hP9
  have hW := LW_c hW hk9 hP9
  obtain ⟨u1, q1⟩ := u9
  obtain ⟨er9, hw9⟩ := hw9
  have er1 : r1 = iZ q1 := er9
  subst er1
  have hT := LWt_c hT hw9
  try dsimp only at hW hT
  clear hk9 hP9
  generalize H1 = H at hW hS ⊢
  refine lv_pop hx hb dL_law_1434 rfl ?_
  refine lv_aload_n hx hb dL_law_1435 rfl (lv_at hl 3 rfl) ?_
  refine va_calli (va_runV (As := []) (rest := []) ⟨hx, hb, hml, hown, hts⟩ (m_fitting l dC dI cI cZ cII cIII (h0 + 233) H.size ν hT.1.1.1.1.2.1.1) (cwV 0 hts (gV_G k1647 k1648 k1649 k13 k1650) rfl rfl rfl (by decide +kernel) ⟨Nat.le_of_ble_eq_true rfl, Nat.le_of_ble_eq_true rfl⟩) ⟨fun a U g mk q => by obtain ⟨q0, q1, qP, qK⟩ := q; exact ⟨q0, q1, qP, va_K.moved (u := U) (U := U.calling g mk a) (Vm.Alike.refl U.vm) qK⟩, va_recv hKm hW.2.1 (ci := 10) (q0 := 0) rfl ((fw_get (by decide)).trans (by rw [mE_obj])), fun U hU hW9 => ⟨rfl, by rw [hU], by rw [hU]; exact hW.2.1, va_K.moved hW9.alike hKm⟩⟩ rfl rfl hl.1 rfl (lv_room (Nat.le_of_ble_eq_true rfl)) dL_law_1436 ⟨by show cells + 0 ≤ 601024; (first | ((try clear hT); (try clear er1); (try clear er9); (try clear u1); (try clear hP9); (try clear hz9); (try clear r1); (try clear hbA); (try clear hT0); (try clear Bs); (try clear Wk); (try clear Ss); (try clear hsz0); (try clear hend); (try clear hi); omega) | omega), by show slots + 0 ≤ 7293034; (first | ((try clear hT); (try clear er1); (try clear er9); (try clear u1); (try clear hP9); (try clear hz9); (try clear r1); (try clear hbA); (try clear hT0); (try clear Bs); (try clear Wk); (try clear Ss); (try clear hsz0); (try clear hend); (try clear hi); omega) | omega)⟩) hS (fun q _ h => lA_f hS hsz0 (by (first | ((try clear h); (try clear hT); (try clear er1); (try clear er9); (try clear u1); (try clear hP9); (try clear hz9); (try clear r1); (try clear hbA); (try clear hT0); (try clear Bs); (try clear Wk); (try clear Ss); (try clear hsz0); (try clear hend); (try clear hroom); (try clear hi); omega) | omega)) q h) (lA_f hS hsz0 (by (first | ((try clear hT); (try clear er1); (try clear er9); (try clear u1); (try clear hP9); (try clear hz9); (try clear r1); (try clear hbA); (try clear hT0); (try clear Bs); (try clear Wk); (try clear Ss); (try clear hsz0); (try clear hend); (try clear hroom); (try clear hi); omega) | omega))) (fun r2 u9 t9 H1 locs ht9 hvm9 hw9 hB9 hz9 hk9 hS => ?_)
  obtain ⟨hP9, -⟩ := hB9
  rw [ht9] at hP9
  have hW := LW_m hW hk9 hP9
  obtain ⟨v1, q2⟩ := u9
  obtain ⟨er9, hw9⟩ := hw9
  have er2 : r2 = iZ q2 := er9
  subst er2
  have hT := LWt_ps hT hw9
  try dsimp only at hW hT
  clear hk9 hP9
  generalize H1 = H at hW hS ⊢
  refine lv_pop hx hb dL_law_1439 rfl ?_
  refine lv_goto (tgt := 1468) hx hb dL_law_1440 (by decide) ?_
  have hV9 : LW9 u1 v1 := ⟨T, Ss, Wk, Bs, hT⟩
  refine W.widen (k := cells + 1) (n := slots + 6) (by (first | ((try clear hT); (try clear er2); (try clear er9); (try clear q2); (try clear v1); (try clear hP9); (try clear hz9); (try clear r2); (try clear er1); (try clear u1); (try clear r1); (try clear hbA); (try clear hT0); (try clear Bs); (try clear Wk); (try clear Ss); (try clear hsz0); (try clear hend); (try clear hroom); (try clear hi); omega) | omega)) (by (first | ((try clear hT); (try clear er2); (try clear er9); (try clear q2); (try clear v1); (try clear hP9); (try clear hz9); (try clear r2); (try clear er1); (try clear u1); (try clear r1); (try clear hbA); (try clear hT0); (try clear Bs); (try clear Wk); (try clear Ss); (try clear hsz0); (try clear hend); (try clear hroom); (try clear hi); omega) | omega)) ?_
  exact hend _ _ _ H locs ls hV9 hW hS (lv_sub hl [0, 1, 2, 3, 4] rfl)
set_option maxHeartbeats 4000000 in
set_option maxRecDepth 100000 in
theorem lc_status {p : Program} {l : Launch} {e : Env} {s : State} {m : MethodId} {below : List Frame} {meth : Method} {c : Code} {dC : Nat → ClassId} {dI : Nat → Nat → Nat} {cI cL cII cR cZ cIII cO : ClassId} {h0 b L : Nat} {xs : Nat → Int32} (C0 : lx_C p l s m c b L xs dC dI cI cL cII cR cZ cIII cO h0) {i : Int} (hi : 0 ≤ i ∧ i + 6 ≤ L) {μ ν : va_M} {f : Nat → Int64} (hV : LW9 μ ν) {cells slots : Nat} (hroom : cells + 1 ≤ 601024 ∧ slots + 6 ≤ 7293034)
    (hend : ∀ (μ ν : va_M) (f : Nat → Int64) (H : Heap) (locs : List Loc) (ls : Array Slot), LW9 μ ν → LW dC dI cI cL cII cR cZ cIII cO h0 μ ν f H → va_S (lA h0) s.heap H locs → lv_has ls 7 [(4, .int (iZ i)), (0, .ref b), (1, .ref h0), (2, .ref (h0 + 233)), (3, .ref (h0 + 6558))] → W p l e room_1 s m #[Value.ref b] below meth c H locs (cells + 1) (slots + 6) (lw_Z below #[Value.ref b] s) (F0 m 1468 ls []))
    {H : Heap} {locs : List Loc} {ls : Array Slot} (hW : LW dC dI cI cL cII cR cZ cIII cO h0 μ ν f H) (hS : va_S (lA h0) s.heap H locs) (hl : lv_has ls 7 [(4, .int (iZ i)), (0, .ref b), (1, .ref h0), (2, .ref (h0 + 233)), (3, .ref (h0 + 6558))]) : W p l e room_1 s m #[Value.ref b] below meth c H locs cells slots (lw_Z below #[Value.ref b] s) (F0 m 1443 ls []) := by
  obtain ⟨hfl, hx, hb, hml, hown, hts, hX, hbl, hsz0, hL9, hK, hKm, hKo, hM, hEx, hNc⟩ := C0
  obtain ⟨T, Ss, Wk, Bs, hT⟩ := hV
  have hT : LWt T Ss Wk Bs μ ν := hT
  have hT0 := hT
  have hbA : ¬ lA h0 b := Nat.not_le.mpr (by (first | ((try clear hbA); (try clear hT0); (try clear hT); (try clear Bs); (try clear Wk); (try clear Ss); (try clear hend); (try clear hroom); (try clear hi); omega) | omega))
  obtain ⟨a1, e1, ha1⟩ := iZ_ex (xs (iZ (i + 1)).toNatClampNeg)
  refine lv_aload_n hx hb dL_law_1443 rfl (lv_at hl 2 rfl) ?_
  refine lv_aload_n hx hb dL_law_1444 rfl (lv_at hl 1 rfl) ?_
  refine lv_iload hx hb dL_law_1445 (lv_at hl 0 rfl) ?_
  refine lv_iconst (v := iZ 1) hx hb dL_law_1447 rfl ?_
  refine lv_iadd hx hb dL_law_1448 ?_
  refine lv_topi (fun x9 ex9 => ?_)
  obtain rfl : x9 = iZ (i + 1) := ex9.trans (iZ_add _ _)
  refine va_sld hx hb hX hbl hbA hS (iZ_in (by (first | ((try clear ex9); (try clear ha1); (try clear e1); (try clear hbA); (try clear hT0); (try clear hT); (try clear Bs); (try clear Wk); (try clear Ss); (try clear hsz0); (try clear hend); (try clear hroom); omega) | omega)) (by (first | ((try clear ex9); (try clear ha1); (try clear e1); (try clear hbA); (try clear hT0); (try clear hT); (try clear Bs); (try clear Wk); (try clear Ss); (try clear hsz0); (try clear hend); (try clear hroom); omega) | omega)) (by (first | ((try clear ex9); (try clear ha1); (try clear e1); (try clear hbA); (try clear hT0); (try clear hT); (try clear Bs); (try clear Wk); (try clear Ss); (try clear hsz0); (try clear hend); (try clear hroom); (try clear hi); omega) | omega))) dL_law_1449 ?_
  refine lv_topi (fun x9 ex9 => ?_)
  obtain rfl : x9 = iZ a1 := ex9.trans e1
  refine va_calli (va_runV (As := [.int (iZ a1)]) (rest := []) ⟨hx, hb, hml, hown, hts⟩ (q_status l dC dI cI cL cII cR h0 H.size μ a1 T (hT.1.1.1.1.1) ha1) (cwV 1 hts (gV_G k583 k584 k585 k1 k586) rfl rfl rfl (by decide +kernel) ⟨Nat.le_of_ble_eq_true rfl, Nat.le_of_ble_eq_true rfl⟩) ⟨fun a U g mk q => by obtain ⟨q0, q1, qP, qK, qM⟩ := q; exact ⟨q0, q1, qP, va_K.moved (u := U) (U := U.calling g mk a) (Vm.Alike.refl U.vm) qK, qM⟩, va_recv hK hW.1 (ci := 9) (q0 := 0) rfl ((fw_get (by decide)).trans (by rw [sE_0]; rfl)), fun U hU hW9 => ⟨rfl, by rw [hU], by rw [hU]; exact hW.1, va_K.moved hW9.alike hK, xM_warm hW9 hM⟩⟩ rfl rfl hl.1 rfl (lv_room (Nat.le_of_ble_eq_true rfl)) dL_law_1450 ⟨by show cells + 0 ≤ 601024; (first | ((try clear ex9); (try clear ha1); (try clear e1); (try clear hbA); (try clear hT0); (try clear hT); (try clear Bs); (try clear Wk); (try clear Ss); (try clear hsz0); (try clear hend); (try clear hi); omega) | omega), by show slots + 0 ≤ 7293034; (first | ((try clear ex9); (try clear ha1); (try clear e1); (try clear hbA); (try clear hT0); (try clear hT); (try clear Bs); (try clear Wk); (try clear Ss); (try clear hsz0); (try clear hend); (try clear hi); omega) | omega)⟩) hS (fun q _ h => lA_f hS hsz0 (Nat.le_refl _) q h) (lA_f hS hsz0 (Nat.le_refl _)) (fun r1 u9 t9 H1 locs ht9 hvm9 hw9 hB9 hz9 hk9 hS => ?_)
  obtain ⟨hP9, -⟩ := hB9
  rw [ht9] at hP9
  have hW := LW_c hW hk9 hP9
  obtain ⟨u1, q1⟩ := u9
  obtain ⟨er9, hw9⟩ := hw9
  have er1 : r1 = iZ q1 := er9
  subst er1
  have hT := LWt_c hT hw9
  try dsimp only at hW hT
  clear hk9 hP9
  generalize H1 = H at hW hS ⊢
  refine lv_pop hx hb dL_law_1453 rfl ?_
  refine lv_aload_n hx hb dL_law_1454 rfl (lv_at hl 3 rfl) ?_
  refine lv_aload_n hx hb dL_law_1455 rfl (lv_at hl 1 rfl) ?_
  refine lv_iload hx hb dL_law_1456 (lv_at hl 0 rfl) ?_
  refine lv_iconst (v := iZ 1) hx hb dL_law_1458 rfl ?_
  refine lv_iadd hx hb dL_law_1459 ?_
  refine lv_topi (fun x9 ex9 => ?_)
  obtain rfl : x9 = iZ (i + 1) := ex9.trans (iZ_add _ _)
  refine va_sld hx hb hX hbl hbA hS (iZ_in (by (first | ((try clear ex9); (try clear hT); (try clear er1); (try clear er9); (try clear u1); (try clear hP9); (try clear hz9); (try clear r1); (try clear ha1); (try clear e1); (try clear hbA); (try clear hT0); (try clear Bs); (try clear Wk); (try clear Ss); (try clear hsz0); (try clear hend); (try clear hroom); omega) | omega)) (by (first | ((try clear ex9); (try clear hT); (try clear er1); (try clear er9); (try clear u1); (try clear hP9); (try clear hz9); (try clear r1); (try clear ha1); (try clear e1); (try clear hbA); (try clear hT0); (try clear Bs); (try clear Wk); (try clear Ss); (try clear hsz0); (try clear hend); (try clear hroom); omega) | omega)) (by (first | ((try clear ex9); (try clear hT); (try clear er1); (try clear er9); (try clear u1); (try clear hP9); (try clear hz9); (try clear r1); (try clear ha1); (try clear e1); (try clear hbA); (try clear hT0); (try clear Bs); (try clear Wk); (try clear Ss); (try clear hsz0); (try clear hend); (try clear hroom); (try clear hi); omega) | omega))) dL_law_1460 ?_
  refine lv_topi (fun x9 ex9 => ?_)
  obtain rfl : x9 = iZ a1 := ex9.trans e1
  refine va_calli (va_runV (As := [.int (iZ a1)]) (rest := []) ⟨hx, hb, hml, hown, hts⟩ (m_status l dC dI cI cZ cII cIII (h0 + 233) H.size ν a1 ha1) (cwV 1 hts (gV_G k1763 k1764 k1765 k13 k1766) rfl rfl rfl (by decide +kernel) ⟨Nat.le_of_ble_eq_true rfl, Nat.le_of_ble_eq_true rfl⟩) ⟨fun a U g mk q => by obtain ⟨q0, q1, qP, qK⟩ := q; exact ⟨q0, q1, qP, va_K.moved (u := U) (U := U.calling g mk a) (Vm.Alike.refl U.vm) qK⟩, va_recv hKm hW.2.1 (ci := 10) (q0 := 0) rfl ((fw_get (by decide)).trans (by rw [mE_obj])), fun U hU hW9 => ⟨rfl, by rw [hU], by rw [hU]; exact hW.2.1, va_K.moved hW9.alike hKm⟩⟩ rfl rfl hl.1 rfl (lv_room (Nat.le_of_ble_eq_true rfl)) dL_law_1461 ⟨by show cells + 0 ≤ 601024; (first | ((try clear ex9); (try clear hT); (try clear er1); (try clear er9); (try clear u1); (try clear hP9); (try clear hz9); (try clear r1); (try clear ha1); (try clear e1); (try clear hbA); (try clear hT0); (try clear Bs); (try clear Wk); (try clear Ss); (try clear hsz0); (try clear hend); (try clear hi); omega) | omega), by show slots + 0 ≤ 7293034; (first | ((try clear ex9); (try clear hT); (try clear er1); (try clear er9); (try clear u1); (try clear hP9); (try clear hz9); (try clear r1); (try clear ha1); (try clear e1); (try clear hbA); (try clear hT0); (try clear Bs); (try clear Wk); (try clear Ss); (try clear hsz0); (try clear hend); (try clear hi); omega) | omega)⟩) hS (fun q _ h => lA_f hS hsz0 (by (first | ((try clear h); (try clear ex9); (try clear hT); (try clear er1); (try clear er9); (try clear u1); (try clear hP9); (try clear hz9); (try clear r1); (try clear ha1); (try clear e1); (try clear hbA); (try clear hT0); (try clear Bs); (try clear Wk); (try clear Ss); (try clear hsz0); (try clear hend); (try clear hroom); (try clear hi); omega) | omega)) q h) (lA_f hS hsz0 (by (first | ((try clear ex9); (try clear hT); (try clear er1); (try clear er9); (try clear u1); (try clear hP9); (try clear hz9); (try clear r1); (try clear ha1); (try clear e1); (try clear hbA); (try clear hT0); (try clear Bs); (try clear Wk); (try clear Ss); (try clear hsz0); (try clear hend); (try clear hroom); (try clear hi); omega) | omega))) (fun r2 u9 t9 H1 locs ht9 hvm9 hw9 hB9 hz9 hk9 hS => ?_)
  obtain ⟨hP9, -⟩ := hB9
  rw [ht9] at hP9
  have hW := LW_m hW hk9 hP9
  obtain ⟨v1, q2⟩ := u9
  obtain ⟨er9, hw9⟩ := hw9
  have er2 : r2 = iZ q2 := er9
  subst er2
  have hT := LWt_uz (r := 0) hT hw9
  try dsimp only at hW hT
  clear hk9 hP9
  generalize H1 = H at hW hS ⊢
  refine lv_pop hx hb dL_law_1464 rfl ?_
  refine lv_goto (tgt := 1468) hx hb dL_law_1465 (by decide) ?_
  have hV9 : LW9 u1 v1 := ⟨T, Ss, Wk, Bs, hT⟩
  refine W.widen (k := cells + 1) (n := slots + 6) (by (first | ((try clear hT); (try clear er2); (try clear er9); (try clear v1); (try clear hP9); (try clear hz9); (try clear r2); (try clear ex9); (try clear er1); (try clear u1); (try clear r1); (try clear ha1); (try clear e1); (try clear hbA); (try clear hT0); (try clear Bs); (try clear Wk); (try clear Ss); (try clear hsz0); (try clear hend); (try clear hroom); (try clear hi); omega) | omega)) (by (first | ((try clear hT); (try clear er2); (try clear er9); (try clear v1); (try clear hP9); (try clear hz9); (try clear r2); (try clear ex9); (try clear er1); (try clear u1); (try clear r1); (try clear ha1); (try clear e1); (try clear hbA); (try clear hT0); (try clear Bs); (try clear Wk); (try clear Ss); (try clear hsz0); (try clear hend); (try clear hroom); (try clear hi); omega) | omega)) ?_
  exact hend _ _ _ H locs ls hV9 hW hS (lv_sub hl [0, 1, 2, 3, 4] rfl)

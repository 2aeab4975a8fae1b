set_option maxRecDepth 100000 in
theorem k531 : (Cond.methodLink "PageSkeletonLaw" (235 : Nat) ({ cls := "PageSkeleton", name := "fitting", desc := "()I" } : MethodName)) ∈ wsG := wsG_a3 51 rfl rfl
set_option maxRecDepth 100000 in
theorem k532 : (Cond.instanceMethod ({ cls := "PageSkeleton", name := "fitting", desc := "()I" } : MethodName)) ∈ wsG := wsG_a3 52 rfl rfl
set_option maxRecDepth 100000 in
theorem k533 : (Cond.selects "PageSkeleton" ({ cls := "PageSkeleton", name := "fitting", desc := "()I" } : MethodName) ({ cls := "PageSkeleton", name := "fitting", desc := "()I" } : MethodName)) ∈ wsG := wsG_a3 53 rfl rfl
set_option maxRecDepth 100000 in
theorem k534 : (Cond.code ({ cls := "PageSkeleton", name := "fitting", desc := "()I" } : MethodName) prog_1_method_38_code (3 : Nat) (Option.some FieldType.int)) ∈ wsG := wsG_a3 54 rfl rfl
set_option maxRecDepth 100000 in
theorem k583 : (Cond.methodLink "PageSkeletonLaw" (239 : Nat) ({ cls := "PageSkeleton", name := "status", desc := "(I)I" } : MethodName)) ∈ wsG := wsG_a3 103 rfl rfl
set_option maxRecDepth 100000 in
theorem k584 : (Cond.instanceMethod ({ cls := "PageSkeleton", name := "status", desc := "(I)I" } : MethodName)) ∈ wsG := wsG_a3 104 rfl rfl
set_option maxRecDepth 100000 in
theorem k585 : (Cond.selects "PageSkeleton" ({ cls := "PageSkeleton", name := "status", desc := "(I)I" } : MethodName) ({ cls := "PageSkeleton", name := "status", desc := "(I)I" } : MethodName)) ∈ wsG := wsG_a3 105 rfl rfl
set_option maxRecDepth 100000 in
theorem k586 : (Cond.code ({ cls := "PageSkeleton", name := "status", desc := "(I)I" } : MethodName) prog_1_method_39_code (2 : Nat) (Option.some FieldType.int)) ∈ wsG := wsG_a3 106 rfl rfl
set_option maxRecDepth 100000 in
theorem k1101 : (Cond.methodLink "PageSkeletonLaw" (214 : Nat) ({ cls := "PageSkeletonLaw", name := "cuts", desc := "(LPageSkeleton;I[J)I" } : MethodName)) ∈ wsG := wsG_a5 141 rfl rfl
set_option maxRecDepth 100000 in
theorem k1102 : (Cond.static ({ cls := "PageSkeletonLaw", name := "cuts", desc := "(LPageSkeleton;I[J)I" } : MethodName)) ∈ wsG := wsG_a5 142 rfl rfl
set_option maxRecDepth 100000 in
theorem k1103 : (Cond.codeWith ({ cls := "PageSkeletonLaw", name := "cuts", desc := "(LPageSkeleton;I[J)I" } : MethodName) method_26_code (4 : Nat) (Option.some FieldType.int) [((0 : Nat), (9 : Nat), (12 : Nat), (20 : Nat))]) ∈ wsG := wsG_a5 143 rfl rfl
set_option maxRecDepth 100000 in
theorem k1108 : (Cond.methodLink "PageSkeletonLaw" (217 : Nat) ({ cls := "PageSkeletonLaw", name := "derived", desc := "(LPageSkeleton;I[J)I" } : MethodName)) ∈ wsG := wsG_a5 148 rfl rfl
set_option maxRecDepth 100000 in
theorem k1109 : (Cond.static ({ cls := "PageSkeletonLaw", name := "derived", desc := "(LPageSkeleton;I[J)I" } : MethodName)) ∈ wsG := wsG_a5 149 rfl rfl
set_option maxRecDepth 100000 in
theorem k1110 : (Cond.codeWith ({ cls := "PageSkeletonLaw", name := "derived", desc := "(LPageSkeleton;I[J)I" } : MethodName) method_27_code (4 : Nat) (Option.some FieldType.int) [((0 : Nat), (9 : Nat), (12 : Nat), (13 : Nat))]) ∈ wsG := wsG_a5 150 rfl rfl
set_option maxRecDepth 100000 in
theorem k1115 : (Cond.methodLink "PageSkeletonLaw" (220 : Nat) ({ cls := "PageSkeletonLaw", name := "common", desc := "(LPageSkeleton;II[J)I" } : MethodName)) ∈ wsG := wsG_a5 155 rfl rfl
set_option maxRecDepth 100000 in
theorem k1116 : (Cond.static ({ cls := "PageSkeletonLaw", name := "common", desc := "(LPageSkeleton;II[J)I" } : MethodName)) ∈ wsG := wsG_a5 156 rfl rfl
set_option maxRecDepth 100000 in
theorem k1117 : (Cond.codeWith ({ cls := "PageSkeletonLaw", name := "common", desc := "(LPageSkeleton;II[J)I" } : MethodName) method_28_code (5 : Nat) (Option.some FieldType.int) [((0 : Nat), (10 : Nat), (13 : Nat), (20 : Nat))]) ∈ wsG := wsG_a5 157 rfl rfl
set_option maxRecDepth 100000 in
theorem k1128 : (Cond.methodLink "PageSkeletonLaw" (223 : Nat) ({ cls := "PageSkeletonLaw", name := "similar", desc := "(LPageSkeleton;II[J)I" } : MethodName)) ∈ wsG := wsG_a5 168 rfl rfl
set_option maxRecDepth 100000 in
theorem k1129 : (Cond.static ({ cls := "PageSkeletonLaw", name := "similar", desc := "(LPageSkeleton;II[J)I" } : MethodName)) ∈ wsG := wsG_a5 169 rfl rfl
set_option maxRecDepth 100000 in
theorem k1130 : (Cond.codeWith ({ cls := "PageSkeletonLaw", name := "similar", desc := "(LPageSkeleton;II[J)I" } : MethodName) method_29_code (5 : Nat) (Option.some FieldType.int) [((0 : Nat), (17 : Nat), (20 : Nat), (20 : Nat))]) ∈ wsG := wsG_a5 170 rfl rfl
set_option maxRecDepth 100000 in
theorem k1135 : (Cond.methodLink "PageSkeletonLaw" (226 : Nat) ({ cls := "PageSkeletonLaw", name := "step", desc := "(LPageSkeleton;III[J)I" } : MethodName)) ∈ wsG := wsG_a5 175 rfl rfl
set_option maxRecDepth 100000 in
theorem k1136 : (Cond.static ({ cls := "PageSkeletonLaw", name := "step", desc := "(LPageSkeleton;III[J)I" } : MethodName)) ∈ wsG := wsG_a5 176 rfl rfl
set_option maxRecDepth 100000 in
theorem k1137 : (Cond.codeWith ({ cls := "PageSkeletonLaw", name := "step", desc := "(LPageSkeleton;III[J)I" } : MethodName) method_30_code (6 : Nat) (Option.some FieldType.int) [((0 : Nat), (12 : Nat), (15 : Nat), (20 : Nat)), ((0 : Nat), (12 : Nat), (19 : Nat), (13 : Nat))]) ∈ wsG := wsG_a5 177 rfl rfl
set_option maxRecDepth 100000 in
theorem k1142 : (Cond.methodLink "PageSkeletonLaw" (229 : Nat) ({ cls := "PageSkeletonLaw", name := "users", desc := "(LPageSkeleton;I[J)I" } : MethodName)) ∈ wsG := wsG_a5 182 rfl rfl
set_option maxRecDepth 100000 in
theorem k1143 : (Cond.static ({ cls := "PageSkeletonLaw", name := "users", desc := "(LPageSkeleton;I[J)I" } : MethodName)) ∈ wsG := wsG_a5 183 rfl rfl
set_option maxRecDepth 100000 in
theorem k1144 : (Cond.codeWith ({ cls := "PageSkeletonLaw", name := "users", desc := "(LPageSkeleton;I[J)I" } : MethodName) method_31_code (4 : Nat) (Option.some FieldType.int) [((0 : Nat), (9 : Nat), (12 : Nat), (20 : Nat))]) ∈ wsG := wsG_a5 184 rfl rfl
set_option maxRecDepth 100000 in
theorem k1149 : (Cond.methodLink "PageSkeletonLaw" (232 : Nat) ({ cls := "PageSkeletonLaw", name := "greatest", desc := "(LPageSkeleton;I[J)I" } : MethodName)) ∈ wsG := wsG_a5 189 rfl rfl
set_option maxRecDepth 100000 in
theorem k1150 : (Cond.static ({ cls := "PageSkeletonLaw", name := "greatest", desc := "(LPageSkeleton;I[J)I" } : MethodName)) ∈ wsG := wsG_a5 190 rfl rfl
set_option maxRecDepth 100000 in
theorem k1151 : (Cond.codeWith ({ cls := "PageSkeletonLaw", name := "greatest", desc := "(LPageSkeleton;I[J)I" } : MethodName) method_32_code (4 : Nat) (Option.some FieldType.int) [((0 : Nat), (9 : Nat), (12 : Nat), (20 : Nat))]) ∈ wsG := wsG_a5 191 rfl rfl
set_option maxRecDepth 100000 in
theorem k1643 : (Cond.methodLink "PageSkeletonLaw" (238 : Nat) ({ cls := "PageSkeletonModel", name := "fitting", desc := "()I" } : MethodName)) ∈ wsG := wsG_a7 203 rfl rfl
set_option maxRecDepth 100000 in
theorem k1644 : (Cond.instanceMethod ({ cls := "PageSkeletonModel", name := "fitting", desc := "()I" } : MethodName)) ∈ wsG := wsG_a7 204 rfl rfl
set_option maxRecDepth 100000 in
theorem k1645 : (Cond.selects "PageSkeletonModel" ({ cls := "PageSkeletonModel", name := "fitting", desc := "()I" } : MethodName) ({ cls := "PageSkeletonModel", name := "fitting", desc := "()I" } : MethodName)) ∈ wsG := wsG_a7 205 rfl rfl
set_option maxRecDepth 100000 in
theorem k1646 : (Cond.code ({ cls := "PageSkeletonModel", name := "fitting", desc := "()I" } : MethodName) prog_12_method_83_code (3 : Nat) (Option.some FieldType.int)) ∈ wsG := wsG_a7 206 rfl rfl
set_option maxRecDepth 100000 in
theorem k1683 : (Cond.methodLink "PageSkeletonLaw" (231 : Nat) ({ cls := "PageSkeletonModel", name := "users", desc := "(I)I" } : MethodName)) ∈ wsG := wsG_a8 3 rfl rfl
set_option maxRecDepth 100000 in
theorem k1684 : (Cond.instanceMethod ({ cls := "PageSkeletonModel", name := "users", desc := "(I)I" } : MethodName)) ∈ wsG := wsG_a8 4 rfl rfl
set_option maxRecDepth 100000 in
theorem k1685 : (Cond.selects "PageSkeletonModel" ({ cls := "PageSkeletonModel", name := "users", desc := "(I)I" } : MethodName) ({ cls := "PageSkeletonModel", name := "users", desc := "(I)I" } : MethodName)) ∈ wsG := wsG_a8 5 rfl rfl
set_option maxRecDepth 100000 in
theorem k1686 : (Cond.code ({ cls := "PageSkeletonModel", name := "users", desc := "(I)I" } : MethodName) prog_12_method_93_code (4 : Nat) (Option.some FieldType.int)) ∈ wsG := wsG_a8 6 rfl rfl
set_option maxRecDepth 100000 in
theorem k1687 : (Cond.methodLink "PageSkeletonLaw" (234 : Nat) ({ cls := "PageSkeletonModel", name := "greatest", desc := "(I)I" } : MethodName)) ∈ wsG := wsG_a8 7 rfl rfl
set_option maxRecDepth 100000 in
theorem k1688 : (Cond.instanceMethod ({ cls := "PageSkeletonModel", name := "greatest", desc := "(I)I" } : MethodName)) ∈ wsG := wsG_a8 8 rfl rfl
set_option maxRecDepth 100000 in
theorem k1689 : (Cond.selects "PageSkeletonModel" ({ cls := "PageSkeletonModel", name := "greatest", desc := "(I)I" } : MethodName) ({ cls := "PageSkeletonModel", name := "greatest", desc := "(I)I" } : MethodName)) ∈ wsG := wsG_a8 9 rfl rfl
set_option maxRecDepth 100000 in
theorem k1690 : (Cond.code ({ cls := "PageSkeletonModel", name := "greatest", desc := "(I)I" } : MethodName) prog_12_method_94_code (4 : Nat) (Option.some FieldType.int)) ∈ wsG := wsG_a8 10 rfl rfl
set_option maxRecDepth 100000 in
theorem k1735 : (Cond.methodLink "PageSkeletonLaw" (216 : Nat) ({ cls := "PageSkeletonModel", name := "cuts", desc := "(I)I" } : MethodName)) ∈ wsG := wsG_a8 55 rfl rfl
set_option maxRecDepth 100000 in
theorem k1736 : (Cond.instanceMethod ({ cls := "PageSkeletonModel", name := "cuts", desc := "(I)I" } : MethodName)) ∈ wsG := wsG_a8 56 rfl rfl
set_option maxRecDepth 100000 in
theorem k1737 : (Cond.selects "PageSkeletonModel" ({ cls := "PageSkeletonModel", name := "cuts", desc := "(I)I" } : MethodName) ({ cls := "PageSkeletonModel", name := "cuts", desc := "(I)I" } : MethodName)) ∈ wsG := wsG_a8 57 rfl rfl
set_option maxRecDepth 100000 in
theorem k1738 : (Cond.code ({ cls := "PageSkeletonModel", name := "cuts", desc := "(I)I" } : MethodName) prog_12_method_107_code (8 : Nat) (Option.some FieldType.int)) ∈ wsG := wsG_a8 58 rfl rfl
set_option maxRecDepth 100000 in
theorem k1743 : (Cond.methodLink "PageSkeletonLaw" (219 : Nat) ({ cls := "PageSkeletonModel", name := "derived", desc := "(I)I" } : MethodName)) ∈ wsG := wsG_a8 63 rfl rfl
set_option maxRecDepth 100000 in
theorem k1744 : (Cond.instanceMethod ({ cls := "PageSkeletonModel", name := "derived", desc := "(I)I" } : MethodName)) ∈ wsG := wsG_a8 64 rfl rfl
set_option maxRecDepth 100000 in
theorem k1745 : (Cond.selects "PageSkeletonModel" ({ cls := "PageSkeletonModel", name := "derived", desc := "(I)I" } : MethodName) ({ cls := "PageSkeletonModel", name := "derived", desc := "(I)I" } : MethodName)) ∈ wsG := wsG_a8 65 rfl rfl
set_option maxRecDepth 100000 in
theorem k1746 : (Cond.code ({ cls := "PageSkeletonModel", name := "derived", desc := "(I)I" } : MethodName) prog_12_method_108_code (6 : Nat) (Option.some FieldType.int)) ∈ wsG := wsG_a8 66 rfl rfl
set_option maxRecDepth 100000 in
theorem k1747 : (Cond.methodLink "PageSkeletonLaw" (222 : Nat) ({ cls := "PageSkeletonModel", name := "common", desc := "(II)I" } : MethodName)) ∈ wsG := wsG_a8 67 rfl rfl
set_option maxRecDepth 100000 in
theorem k1748 : (Cond.instanceMethod ({ cls := "PageSkeletonModel", name := "common", desc := "(II)I" } : MethodName)) ∈ wsG := wsG_a8 68 rfl rfl
set_option maxRecDepth 100000 in
theorem k1749 : (Cond.selects "PageSkeletonModel" ({ cls := "PageSkeletonModel", name := "common", desc := "(II)I" } : MethodName) ({ cls := "PageSkeletonModel", name := "common", desc := "(II)I" } : MethodName)) ∈ wsG := wsG_a8 69 rfl rfl
set_option maxRecDepth 100000 in
theorem k1750 : (Cond.code ({ cls := "PageSkeletonModel", name := "common", desc := "(II)I" } : MethodName) prog_12_method_109_code (6 : Nat) (Option.some FieldType.int)) ∈ wsG := wsG_a8 70 rfl rfl
set_option maxRecDepth 100000 in
theorem k1751 : (Cond.methodLink "PageSkeletonLaw" (225 : Nat) ({ cls := "PageSkeletonModel", name := "similar", desc := "(II)Z" } : MethodName)) ∈ wsG := wsG_a8 71 rfl rfl
set_option maxRecDepth 100000 in
theorem k1752 : (Cond.instanceMethod ({ cls := "PageSkeletonModel", name := "similar", desc := "(II)Z" } : MethodName)) ∈ wsG := wsG_a8 72 rfl rfl
set_option maxRecDepth 100000 in
theorem k1753 : (Cond.selects "PageSkeletonModel" ({ cls := "PageSkeletonModel", name := "similar", desc := "(II)Z" } : MethodName) ({ cls := "PageSkeletonModel", name := "similar", desc := "(II)Z" } : MethodName)) ∈ wsG := wsG_a8 73 rfl rfl
set_option maxRecDepth 100000 in
theorem k1754 : (Cond.code ({ cls := "PageSkeletonModel", name := "similar", desc := "(II)Z" } : MethodName) prog_12_method_110_code (7 : Nat) (Option.some FieldType.boolean)) ∈ wsG := wsG_a8 74 rfl rfl
set_option maxRecDepth 100000 in
theorem k1755 : (Cond.methodLink "PageSkeletonLaw" (228 : Nat) ({ cls := "PageSkeletonModel", name := "step", desc := "(III)I" } : MethodName)) ∈ wsG := wsG_a8 75 rfl rfl
set_option maxRecDepth 100000 in
theorem k1756 : (Cond.instanceMethod ({ cls := "PageSkeletonModel", name := "step", desc := "(III)I" } : MethodName)) ∈ wsG := wsG_a8 76 rfl rfl
set_option maxRecDepth 100000 in
theorem k1757 : (Cond.selects "PageSkeletonModel" ({ cls := "PageSkeletonModel", name := "step", desc := "(III)I" } : MethodName) ({ cls := "PageSkeletonModel", name := "step", desc := "(III)I" } : MethodName)) ∈ wsG := wsG_a8 77 rfl rfl
set_option maxRecDepth 100000 in
theorem k1758 : (Cond.code ({ cls := "PageSkeletonModel", name := "step", desc := "(III)I" } : MethodName) prog_12_method_111_code (4 : Nat) (Option.some FieldType.int)) ∈ wsG := wsG_a8 78 rfl rfl
set_option maxRecDepth 100000 in
theorem k1759 : (Cond.methodLink "PageSkeletonLaw" (242 : Nat) ({ cls := "PageSkeletonModel", name := "status", desc := "(I)I" } : MethodName)) ∈ wsG := wsG_a8 79 rfl rfl
set_option maxRecDepth 100000 in
theorem k1760 : (Cond.instanceMethod ({ cls := "PageSkeletonModel", name := "status", desc := "(I)I" } : MethodName)) ∈ wsG := wsG_a8 80 rfl rfl
set_option maxRecDepth 100000 in
theorem k1761 : (Cond.selects "PageSkeletonModel" ({ cls := "PageSkeletonModel", name := "status", desc := "(I)I" } : MethodName) ({ cls := "PageSkeletonModel", name := "status", desc := "(I)I" } : MethodName)) ∈ wsG := wsG_a8 81 rfl rfl
set_option maxRecDepth 100000 in
theorem k1762 : (Cond.code ({ cls := "PageSkeletonModel", name := "status", desc := "(I)I" } : MethodName) prog_12_method_112_code (2 : Nat) (Option.some FieldType.int)) ∈ wsG := wsG_a8 82 rfl rfl
theorem dL_law_1158 : decode cL_law 1158 = .ok (.aload_n 1, 1) := by decide +kernel
theorem dL_law_1159 : decode cL_law 1159 = .ok (.aload_n 0, 1) := by decide +kernel
theorem dL_law_1160 : decode cL_law 1160 = .ok (.iload 4, 2) := by decide +kernel
theorem dL_law_1162 : decode cL_law 1162 = .ok (.iconst 1, 1) := by decide +kernel
theorem dL_law_1163 : decode cL_law 1163 = .ok (.iadd, 1) := by decide +kernel
theorem dL_law_1164 : decode cL_law 1164 = .ok (.iaload, 1) := by decide +kernel
theorem dL_law_1165 : decode cL_law 1165 = .ok (.aload_n 3, 1) := by decide +kernel
theorem dL_law_1166 : decode cL_law 1166 = .ok (.invokestatic 214, 3) := by decide +kernel
theorem dL_law_1169 : decode cL_law 1169 = .ok (.istore 5, 2) := by decide +kernel
theorem dL_law_1171 : decode cL_law 1171 = .ok (.aload_n 2, 1) := by decide +kernel
theorem dL_law_1172 : decode cL_law 1172 = .ok (.aload_n 0, 1) := by decide +kernel
theorem dL_law_1173 : decode cL_law 1173 = .ok (.iload 4, 2) := by decide +kernel
theorem dL_law_1175 : decode cL_law 1175 = .ok (.iconst 1, 1) := by decide +kernel
theorem dL_law_1176 : decode cL_law 1176 = .ok (.iadd, 1) := by decide +kernel
theorem dL_law_1177 : decode cL_law 1177 = .ok (.iaload, 1) := by decide +kernel
theorem dL_law_1178 : decode cL_law 1178 = .ok (.invokevirtual 216, 3) := by decide +kernel
theorem dL_law_1181 : decode cL_law 1181 = .ok (.istore 6, 2) := by decide +kernel
theorem dL_law_1183 : decode cL_law 1183 = .ok (.goto 257, 3) := by decide +kernel
theorem dL_law_1186 : decode cL_law 1186 = .ok (.aload_n 1, 1) := by decide +kernel
theorem dL_law_1187 : decode cL_law 1187 = .ok (.aload_n 0, 1) := by decide +kernel
theorem dL_law_1188 : decode cL_law 1188 = .ok (.iload 4, 2) := by decide +kernel
theorem dL_law_1190 : decode cL_law 1190 = .ok (.iconst 1, 1) := by decide +kernel
theorem dL_law_1191 : decode cL_law 1191 = .ok (.iadd, 1) := by decide +kernel
theorem dL_law_1192 : decode cL_law 1192 = .ok (.iaload, 1) := by decide +kernel
theorem dL_law_1193 : decode cL_law 1193 = .ok (.aload_n 3, 1) := by decide +kernel
theorem dL_law_1194 : decode cL_law 1194 = .ok (.invokestatic 217, 3) := by decide +kernel
theorem dL_law_1197 : decode cL_law 1197 = .ok (.istore 5, 2) := by decide +kernel
theorem dL_law_1199 : decode cL_law 1199 = .ok (.aload_n 2, 1) := by decide +kernel
theorem dL_law_1200 : decode cL_law 1200 = .ok (.aload_n 0, 1) := by decide +kernel
theorem dL_law_1201 : decode cL_law 1201 = .ok (.iload 4, 2) := by decide +kernel
theorem dL_law_1203 : decode cL_law 1203 = .ok (.iconst 1, 1) := by decide +kernel
theorem dL_law_1204 : decode cL_law 1204 = .ok (.iadd, 1) := by decide +kernel
theorem dL_law_1205 : decode cL_law 1205 = .ok (.iaload, 1) := by decide +kernel
theorem dL_law_1206 : decode cL_law 1206 = .ok (.invokevirtual 219, 3) := by decide +kernel
theorem dL_law_1209 : decode cL_law 1209 = .ok (.istore 6, 2) := by decide +kernel
theorem dL_law_1211 : decode cL_law 1211 = .ok (.goto 229, 3) := by decide +kernel
theorem dL_law_1214 : decode cL_law 1214 = .ok (.aload_n 1, 1) := by decide +kernel
theorem dL_law_1215 : decode cL_law 1215 = .ok (.aload_n 0, 1) := by decide +kernel
theorem dL_law_1216 : decode cL_law 1216 = .ok (.iload 4, 2) := by decide +kernel
theorem dL_law_1218 : decode cL_law 1218 = .ok (.iconst 1, 1) := by decide +kernel
theorem dL_law_1219 : decode cL_law 1219 = .ok (.iadd, 1) := by decide +kernel
theorem dL_law_1220 : decode cL_law 1220 = .ok (.iaload, 1) := by decide +kernel
theorem dL_law_1221 : decode cL_law 1221 = .ok (.aload_n 0, 1) := by decide +kernel
theorem dL_law_1222 : decode cL_law 1222 = .ok (.iload 4, 2) := by decide +kernel
theorem dL_law_1224 : decode cL_law 1224 = .ok (.iconst 2, 1) := by decide +kernel
theorem dL_law_1225 : decode cL_law 1225 = .ok (.iadd, 1) := by decide +kernel
theorem dL_law_1226 : decode cL_law 1226 = .ok (.iaload, 1) := by decide +kernel
theorem dL_law_1227 : decode cL_law 1227 = .ok (.aload_n 3, 1) := by decide +kernel
theorem dL_law_1228 : decode cL_law 1228 = .ok (.invokestatic 220, 3) := by decide +kernel
theorem dL_law_1231 : decode cL_law 1231 = .ok (.istore 5, 2) := by decide +kernel
theorem dL_law_1233 : decode cL_law 1233 = .ok (.aload_n 2, 1) := by decide +kernel
theorem dL_law_1234 : decode cL_law 1234 = .ok (.aload_n 0, 1) := by decide +kernel
theorem dL_law_1235 : decode cL_law 1235 = .ok (.iload 4, 2) := by decide +kernel
theorem dL_law_1237 : decode cL_law 1237 = .ok (.iconst 1, 1) := by decide +kernel
theorem dL_law_1238 : decode cL_law 1238 = .ok (.iadd, 1) := by decide +kernel
theorem dL_law_1239 : decode cL_law 1239 = .ok (.iaload, 1) := by decide +kernel
theorem dL_law_1240 : decode cL_law 1240 = .ok (.aload_n 0, 1) := by decide +kernel
theorem dL_law_1241 : decode cL_law 1241 = .ok (.iload 4, 2) := by decide +kernel
theorem dL_law_1243 : decode cL_law 1243 = .ok (.iconst 2, 1) := by decide +kernel
theorem dL_law_1244 : decode cL_law 1244 = .ok (.iadd, 1) := by decide +kernel
theorem dL_law_1245 : decode cL_law 1245 = .ok (.iaload, 1) := by decide +kernel
theorem dL_law_1246 : decode cL_law 1246 = .ok (.invokevirtual 222, 3) := by decide +kernel
theorem dL_law_1249 : decode cL_law 1249 = .ok (.istore 6, 2) := by decide +kernel
theorem dL_law_1251 : decode cL_law 1251 = .ok (.goto 189, 3) := by decide +kernel
theorem dL_law_1254 : decode cL_law 1254 = .ok (.aload_n 1, 1) := by decide +kernel
theorem dL_law_1255 : decode cL_law 1255 = .ok (.aload_n 0, 1) := by decide +kernel
theorem dL_law_1256 : decode cL_law 1256 = .ok (.iload 4, 2) := by decide +kernel
theorem dL_law_1258 : decode cL_law 1258 = .ok (.iconst 1, 1) := by decide +kernel
theorem dL_law_1259 : decode cL_law 1259 = .ok (.iadd, 1) := by decide +kernel
theorem dL_law_1260 : decode cL_law 1260 = .ok (.iaload, 1) := by decide +kernel
theorem dL_law_1261 : decode cL_law 1261 = .ok (.aload_n 0, 1) := by decide +kernel
theorem dL_law_1262 : decode cL_law 1262 = .ok (.iload 4, 2) := by decide +kernel
theorem dL_law_1264 : decode cL_law 1264 = .ok (.iconst 2, 1) := by decide +kernel
theorem dL_law_1265 : decode cL_law 1265 = .ok (.iadd, 1) := by decide +kernel
theorem dL_law_1266 : decode cL_law 1266 = .ok (.iaload, 1) := by decide +kernel
theorem dL_law_1267 : decode cL_law 1267 = .ok (.aload_n 3, 1) := by decide +kernel
theorem dL_law_1268 : decode cL_law 1268 = .ok (.invokestatic 223, 3) := by decide +kernel
theorem dL_law_1271 : decode cL_law 1271 = .ok (.istore 5, 2) := by decide +kernel
theorem dL_law_1273 : decode cL_law 1273 = .ok (.aload_n 2, 1) := by decide +kernel
theorem dL_law_1274 : decode cL_law 1274 = .ok (.aload_n 0, 1) := by decide +kernel
theorem dL_law_1275 : decode cL_law 1275 = .ok (.iload 4, 2) := by decide +kernel
theorem dL_law_1277 : decode cL_law 1277 = .ok (.iconst 1, 1) := by decide +kernel
theorem dL_law_1278 : decode cL_law 1278 = .ok (.iadd, 1) := by decide +kernel
theorem dL_law_1279 : decode cL_law 1279 = .ok (.iaload, 1) := by decide +kernel
theorem dL_law_1280 : decode cL_law 1280 = .ok (.aload_n 0, 1) := by decide +kernel
theorem dL_law_1281 : decode cL_law 1281 = .ok (.iload 4, 2) := by decide +kernel
theorem dL_law_1283 : decode cL_law 1283 = .ok (.iconst 2, 1) := by decide +kernel
theorem dL_law_1284 : decode cL_law 1284 = .ok (.iadd, 1) := by decide +kernel
theorem dL_law_1285 : decode cL_law 1285 = .ok (.iaload, 1) := by decide +kernel
theorem dL_law_1286 : decode cL_law 1286 = .ok (.invokevirtual 225, 3) := by decide +kernel
theorem dL_law_1289 : decode cL_law 1289 = .ok (.istore 6, 2) := by decide +kernel
theorem dL_law_1291 : decode cL_law 1291 = .ok (.goto 149, 3) := by decide +kernel
theorem dL_law_1294 : decode cL_law 1294 = .ok (.aload_n 1, 1) := by decide +kernel
theorem dL_law_1295 : decode cL_law 1295 = .ok (.aload_n 0, 1) := by decide +kernel
theorem dL_law_1296 : decode cL_law 1296 = .ok (.iload 4, 2) := by decide +kernel
theorem dL_law_1298 : decode cL_law 1298 = .ok (.iconst 1, 1) := by decide +kernel
theorem dL_law_1299 : decode cL_law 1299 = .ok (.iadd, 1) := by decide +kernel
theorem dL_law_1300 : decode cL_law 1300 = .ok (.iaload, 1) := by decide +kernel
theorem dL_law_1301 : decode cL_law 1301 = .ok (.aload_n 0, 1) := by decide +kernel
theorem dL_law_1302 : decode cL_law 1302 = .ok (.iload 4, 2) := by decide +kernel
theorem dL_law_1304 : decode cL_law 1304 = .ok (.iconst 2, 1) := by decide +kernel
theorem dL_law_1305 : decode cL_law 1305 = .ok (.iadd, 1) := by decide +kernel
theorem dL_law_1306 : decode cL_law 1306 = .ok (.iaload, 1) := by decide +kernel
theorem dL_law_1307 : decode cL_law 1307 = .ok (.aload_n 0, 1) := by decide +kernel
theorem dL_law_1308 : decode cL_law 1308 = .ok (.iload 4, 2) := by decide +kernel
theorem dL_law_1310 : decode cL_law 1310 = .ok (.iconst 3, 1) := by decide +kernel
theorem dL_law_1311 : decode cL_law 1311 = .ok (.iadd, 1) := by decide +kernel
theorem dL_law_1312 : decode cL_law 1312 = .ok (.iaload, 1) := by decide +kernel
theorem dL_law_1313 : decode cL_law 1313 = .ok (.aload_n 3, 1) := by decide +kernel
theorem dL_law_1314 : decode cL_law 1314 = .ok (.invokestatic 226, 3) := by decide +kernel
theorem dL_law_1317 : decode cL_law 1317 = .ok (.istore 5, 2) := by decide +kernel
theorem dL_law_1319 : decode cL_law 1319 = .ok (.aload_n 2, 1) := by decide +kernel
theorem dL_law_1320 : decode cL_law 1320 = .ok (.aload_n 0, 1) := by decide +kernel
theorem dL_law_1321 : decode cL_law 1321 = .ok (.iload 4, 2) := by decide +kernel
theorem dL_law_1323 : decode cL_law 1323 = .ok (.iconst 1, 1) := by decide +kernel
theorem dL_law_1324 : decode cL_law 1324 = .ok (.iadd, 1) := by decide +kernel
theorem dL_law_1325 : decode cL_law 1325 = .ok (.iaload, 1) := by decide +kernel
theorem dL_law_1326 : decode cL_law 1326 = .ok (.aload_n 0, 1) := by decide +kernel
theorem dL_law_1327 : decode cL_law 1327 = .ok (.iload 4, 2) := by decide +kernel
theorem dL_law_1329 : decode cL_law 1329 = .ok (.iconst 2, 1) := by decide +kernel
theorem dL_law_1330 : decode cL_law 1330 = .ok (.iadd, 1) := by decide +kernel
theorem dL_law_1331 : decode cL_law 1331 = .ok (.iaload, 1) := by decide +kernel
theorem dL_law_1332 : decode cL_law 1332 = .ok (.aload_n 0, 1) := by decide +kernel
theorem dL_law_1333 : decode cL_law 1333 = .ok (.iload 4, 2) := by decide +kernel
theorem dL_law_1335 : decode cL_law 1335 = .ok (.iconst 3, 1) := by decide +kernel
theorem dL_law_1336 : decode cL_law 1336 = .ok (.iadd, 1) := by decide +kernel
theorem dL_law_1337 : decode cL_law 1337 = .ok (.iaload, 1) := by decide +kernel
theorem dL_law_1338 : decode cL_law 1338 = .ok (.invokevirtual 228, 3) := by decide +kernel
theorem dL_law_1341 : decode cL_law 1341 = .ok (.istore 6, 2) := by decide +kernel
theorem dL_law_1343 : decode cL_law 1343 = .ok (.goto 97, 3) := by decide +kernel
theorem dL_law_1346 : decode cL_law 1346 = .ok (.aload_n 1, 1) := by decide +kernel
theorem dL_law_1347 : decode cL_law 1347 = .ok (.aload_n 0, 1) := by decide +kernel
theorem dL_law_1348 : decode cL_law 1348 = .ok (.iload 4, 2) := by decide +kernel
theorem dL_law_1350 : decode cL_law 1350 = .ok (.iconst 1, 1) := by decide +kernel
theorem dL_law_1351 : decode cL_law 1351 = .ok (.iadd, 1) := by decide +kernel
theorem dL_law_1352 : decode cL_law 1352 = .ok (.iaload, 1) := by decide +kernel
theorem dL_law_1353 : decode cL_law 1353 = .ok (.aload_n 3, 1) := by decide +kernel
theorem dL_law_1354 : decode cL_law 1354 = .ok (.invokestatic 229, 3) := by decide +kernel
theorem dL_law_1357 : decode cL_law 1357 = .ok (.istore 5, 2) := by decide +kernel
theorem dL_law_1359 : decode cL_law 1359 = .ok (.aload_n 2, 1) := by decide +kernel
theorem dL_law_1360 : decode cL_law 1360 = .ok (.aload_n 0, 1) := by decide +kernel
theorem dL_law_1361 : decode cL_law 1361 = .ok (.iload 4, 2) := by decide +kernel
theorem dL_law_1363 : decode cL_law 1363 = .ok (.iconst 1, 1) := by decide +kernel
theorem dL_law_1364 : decode cL_law 1364 = .ok (.iadd, 1) := by decide +kernel
theorem dL_law_1365 : decode cL_law 1365 = .ok (.iaload, 1) := by decide +kernel
theorem dL_law_1366 : decode cL_law 1366 = .ok (.invokevirtual 231, 3) := by decide +kernel
theorem dL_law_1369 : decode cL_law 1369 = .ok (.istore 6, 2) := by decide +kernel
theorem dL_law_1371 : decode cL_law 1371 = .ok (.goto 69, 3) := by decide +kernel
theorem dL_law_1374 : decode cL_law 1374 = .ok (.aload_n 1, 1) := by decide +kernel
theorem dL_law_1375 : decode cL_law 1375 = .ok (.aload_n 0, 1) := by decide +kernel
theorem dL_law_1376 : decode cL_law 1376 = .ok (.iload 4, 2) := by decide +kernel
theorem dL_law_1378 : decode cL_law 1378 = .ok (.iconst 1, 1) := by decide +kernel
theorem dL_law_1379 : decode cL_law 1379 = .ok (.iadd, 1) := by decide +kernel
theorem dL_law_1380 : decode cL_law 1380 = .ok (.iaload, 1) := by decide +kernel
theorem dL_law_1381 : decode cL_law 1381 = .ok (.aload_n 3, 1) := by decide +kernel
theorem dL_law_1382 : decode cL_law 1382 = .ok (.invokestatic 232, 3) := by decide +kernel
theorem dL_law_1385 : decode cL_law 1385 = .ok (.istore 5, 2) := by decide +kernel
theorem dL_law_1387 : decode cL_law 1387 = .ok (.aload_n 2, 1) := by decide +kernel
theorem dL_law_1388 : decode cL_law 1388 = .ok (.aload_n 0, 1) := by decide +kernel
theorem dL_law_1389 : decode cL_law 1389 = .ok (.iload 4, 2) := by decide +kernel
theorem dL_law_1391 : decode cL_law 1391 = .ok (.iconst 1, 1) := by decide +kernel
theorem dL_law_1392 : decode cL_law 1392 = .ok (.iadd, 1) := by decide +kernel
theorem dL_law_1393 : decode cL_law 1393 = .ok (.iaload, 1) := by decide +kernel
theorem dL_law_1394 : decode cL_law 1394 = .ok (.invokevirtual 234, 3) := by decide +kernel
theorem dL_law_1397 : decode cL_law 1397 = .ok (.istore 6, 2) := by decide +kernel
theorem dL_law_1399 : decode cL_law 1399 = .ok (.goto 41, 3) := by decide +kernel
theorem dL_law_1402 : decode cL_law 1402 = .ok (.aload_n 1, 1) := by decide +kernel
theorem dL_law_1403 : decode cL_law 1403 = .ok (.invokevirtual 235, 3) := by decide +kernel
theorem dL_law_1406 : decode cL_law 1406 = .ok (.pop, 1) := by decide +kernel
theorem dL_law_1407 : decode cL_law 1407 = .ok (.aload_n 2, 1) := by decide +kernel
theorem dL_law_1408 : decode cL_law 1408 = .ok (.invokevirtual 238, 3) := by decide +kernel
theorem dL_law_1411 : decode cL_law 1411 = .ok (.pop, 1) := by decide +kernel
theorem dL_law_1412 : decode cL_law 1412 = .ok (.goto 28, 3) := by decide +kernel
theorem dL_law_1415 : decode cL_law 1415 = .ok (.aload_n 1, 1) := by decide +kernel
theorem dL_law_1416 : decode cL_law 1416 = .ok (.aload_n 0, 1) := by decide +kernel
theorem dL_law_1417 : decode cL_law 1417 = .ok (.iload 4, 2) := by decide +kernel
theorem dL_law_1419 : decode cL_law 1419 = .ok (.iconst 1, 1) := by decide +kernel
theorem dL_law_1420 : decode cL_law 1420 = .ok (.iadd, 1) := by decide +kernel
theorem dL_law_1421 : decode cL_law 1421 = .ok (.iaload, 1) := by decide +kernel
theorem dL_law_1422 : decode cL_law 1422 = .ok (.invokevirtual 239, 3) := by decide +kernel
theorem dL_law_1425 : decode cL_law 1425 = .ok (.pop, 1) := by decide +kernel
theorem dL_law_1426 : decode cL_law 1426 = .ok (.aload_n 2, 1) := by decide +kernel
theorem dL_law_1427 : decode cL_law 1427 = .ok (.aload_n 0, 1) := by decide +kernel
theorem dL_law_1428 : decode cL_law 1428 = .ok (.iload 4, 2) := by decide +kernel
theorem dL_law_1430 : decode cL_law 1430 = .ok (.iconst 1, 1) := by decide +kernel
theorem dL_law_1431 : decode cL_law 1431 = .ok (.iadd, 1) := by decide +kernel
theorem dL_law_1432 : decode cL_law 1432 = .ok (.iaload, 1) := by decide +kernel
theorem dL_law_1433 : decode cL_law 1433 = .ok (.invokevirtual 242, 3) := by decide +kernel
theorem dL_law_1436 : decode cL_law 1436 = .ok (.pop, 1) := by decide +kernel
theorem dL_law_1437 : decode cL_law 1437 = .ok (.goto 3, 3) := by decide +kernel
/-! cases of the law: cuts, derived, common, similar, step, users, greatest, fitting, status -/
set_option maxHeartbeats 4000000 in
set_option maxRecDepth 100000 in
theorem lc_cuts {p : Program} {l : Launch} {e : Env} {s : State} {m : MethodId} {below : List Frame} {meth : Method} {c : Code} {dC : Nat → ClassId} {dI : Nat → Nat → Nat} {cI cL cII cR cZ cIII cO : ClassId} {h0 b L : Nat} {xs : Nat → Int32} (C0 : lx_C p l s m c b L xs dC dI cI cL cII cR cZ cIII cO h0) {i : Int} (hi : 0 ≤ i ∧ i + 6 ≤ L) {μ ν : va_M} {f : Nat → Int64} (hV : LK9 μ ν) {cells slots : Nat} (hroom : cells + 1 ≤ 601024 ∧ slots + 6 ≤ 7293034)
    (hend : ∀ (μ ν : va_M) (f : Nat → Int64) (H : Heap) (locs : List Loc) (ls : Array Slot), LK9 μ ν → LW dC dI cI cL cII cR cZ cIII cO h0 μ ν f H → va_S (lA h0) s.heap H locs → lv_has ls 7 [(4, .int (iZ i)), (0, .ref b), (1, .ref h0), (2, .ref (h0 + 233)), (3, .ref (h0 + 6558))] → W p l e room_1 s m #[Value.ref b] below meth c H locs (cells + 1) (slots + 6) (lw_Z below #[Value.ref b] s) (F0 m 1440 ls []))
    {H : Heap} {locs : List Loc} {ls : Array Slot} (hW : LW dC dI cI cL cII cR cZ cIII cO h0 μ ν f H) (hS : va_S (lA h0) s.heap H locs) (hl : lv_has ls 7 [(4, .int (iZ i)), (0, .ref b), (1, .ref h0), (2, .ref (h0 + 233)), (3, .ref (h0 + 6558))]) : W p l e room_1 s m #[Value.ref b] below meth c H locs cells slots (lw_Z below #[Value.ref b] s) (F0 m 1158 ls []) := by
  obtain ⟨hfl, hx, hb, hml, hown, hts, hX, hbl, hsz0, hL9, hK, hKm, hKo, hM, hEx, hNc⟩ := C0
  obtain ⟨T, Ss, Wk, Bs, hT⟩ := hV
  have hT : LKt T Ss Wk Bs μ ν := hT
  have hT0 := hT
  have hbA : ¬ lA h0 b := Nat.not_le.mpr (by omega)
  obtain ⟨a1, e1, ha1⟩ := iZ_ex (xs (iZ (i + 1)).toNatClampNeg)
  refine lv_aload_n hx hb dL_law_1158 rfl (lv_at hl 2 rfl) ?_
  refine lv_aload_n hx hb dL_law_1159 rfl (lv_at hl 1 rfl) ?_
  refine lv_iload hx hb dL_law_1160 (lv_at hl 0 rfl) ?_
  refine lv_iconst (v := iZ 1) hx hb dL_law_1162 rfl ?_
  refine lv_iadd hx hb dL_law_1163 ?_
  refine lv_topi (fun x9 ex9 => ?_)
  obtain rfl : x9 = iZ (i + 1) := ex9.trans (iZ_add _ _)
  refine va_sld hx hb hX hbl hbA hS (iZ_in (by omega) (by omega) (by omega)) dL_law_1164 ?_
  refine lv_topi (fun x9 ex9 => ?_)
  obtain rfl : x9 = iZ a1 := ex9.trans e1
  refine lv_aload_n hx hb dL_law_1165 rfl (lv_at hl 4 rfl) ?_
  refine va_calli (vx_runSW (hh := [(0, 9, 12, 20)]) (As := [.ref h0, .int (iZ a1), .ref (h0 + 6558)]) (rest := []) ⟨hx, hb, hml, hown, hts⟩ (w_cuts l hfl dC dI cI cL cII cR cO h0 (h0 + 6558) H.size μ f a1 T (hT.1.1.1.1) ha1 (by omega)) (vx_cwSW 3 hts (gW_G k1101 k1102 k0 k1103) rfl rfl rfl (by decide +kernel) ⟨Nat.le_of_ble_eq_true rfl, Nat.le_of_ble_eq_true rfl⟩) ⟨fun a U g mk q => by obtain ⟨q0, q1, qP, qO, qK, qKo, qM, qE, qN⟩ := q; exact ⟨q0, q1, qP, qO, va_K.moved (u := U) (U := U.calling g mk a) (Vm.Alike.refl U.vm) qK, va_K.moved (u := U) (U := U.calling g mk a) (Vm.Alike.refl U.vm) qKo, qM, xX_call qE, qN⟩, fun U hU hW9 => ⟨rfl, by rw [hU], by rw [hU]; exact hW.1, by rw [hU]; exact hW.2.2, va_K.moved hW9.alike hK, va_K.moved hW9.alike hKo, xM_warm hW9 hM, xX_at hEx hS (fun q h => lA_w hS hsz0 (by omega) q h) hU hW9, xNC_warm hW9 hNc⟩⟩ rfl rfl hl.1 rfl (lv_room (Nat.le_of_ble_eq_true rfl)) dL_law_1166 ⟨by show cells + 1 ≤ 601024; omega, by show slots + 6 ≤ 7293034; omega⟩) hS (fun q _ h => lA_w hS hsz0 (by omega) q h) (lA_w hS hsz0 (by omega)) (fun r1 u9 t9 H1 locs ht9 hvm9 hw9 hB9 hz9 hk9 hS => ?_)
  obtain ⟨hP9, hO9⟩ := hB9
  rw [ht9] at hP9 hO9
  have hW := LW_w hW hk9 hP9 hO9
  have hT := LKt_c hT hw9
  obtain ⟨u1, f1⟩ := u9
  try dsimp only at hW hT
  clear hk9 hP9 hO9
  generalize H1 = H at hW hS ⊢
  refine lv_istore (lv' := [(5, .int r1), (4, .int (iZ i)), (0, .ref b), (1, .ref h0), (2, .ref (h0 + 233)), (3, .ref (h0 + 6558))]) hx hb dL_law_1169 hl (by decide) rfl (fun ls hl => ?_)
  refine lv_aload_n hx hb dL_law_1171 rfl (lv_at hl 4 rfl) ?_
  refine lv_aload_n hx hb dL_law_1172 rfl (lv_at hl 2 rfl) ?_
  refine lv_iload hx hb dL_law_1173 (lv_at hl 1 rfl) ?_
  refine lv_iconst (v := iZ 1) hx hb dL_law_1175 rfl ?_
  refine lv_iadd hx hb dL_law_1176 ?_
  refine lv_topi (fun x9 ex9 => ?_)
  obtain rfl : x9 = iZ (i + 1) := ex9.trans (iZ_add _ _)
  refine va_sld hx hb hX hbl hbA hS (iZ_in (by omega) (by omega) (by omega)) dL_law_1177 ?_
  refine lv_topi (fun x9 ex9 => ?_)
  obtain rfl : x9 = iZ a1 := ex9.trans e1
  refine va_calli (va_runV (As := [.int (iZ a1)]) (rest := []) ⟨hx, hb, hml, hown, hts⟩ (m_cuts l dC dI cI cZ cII cIII (h0 + 233) H.size ν a1 hT.1.1.1.2.1.1 ha1) (cwV 1 hts (gV_G k1735 k1736 k1737 k13 k1738) rfl rfl rfl (by decide +kernel) ⟨Nat.le_of_ble_eq_true rfl, Nat.le_of_ble_eq_true rfl⟩) ⟨fun a U g mk q => by obtain ⟨q0, q1, qP, qK⟩ := q; exact ⟨q0, q1, qP, va_K.moved (u := U) (U := U.calling g mk a) (Vm.Alike.refl U.vm) qK⟩, va_recv hKm hW.2.1 (ci := 10) (q0 := 0) rfl ((fw_get (by decide)).trans (by rw [mE_obj])), fun U hU hW9 => ⟨rfl, by rw [hU], by rw [hU]; exact hW.2.1, va_K.moved hW9.alike hKm⟩⟩ rfl rfl hl.1 rfl (lv_room (Nat.le_of_ble_eq_true rfl)) dL_law_1178 ⟨by show cells + 1 + 0 ≤ 601024; omega, by show slots + 6 + 0 ≤ 7293034; omega⟩) hS (fun q _ h => lA_f hS hsz0 (by omega) q h) (lA_f hS hsz0 (by omega)) (fun r2 u9 t9 H1 locs ht9 hvm9 hw9 hB9 hz9 hk9 hS => ?_)
  obtain ⟨hP9, -⟩ := hB9
  rw [ht9] at hP9
  have hW := LW_m hW hk9 hP9
  obtain ⟨v1, q2⟩ := u9
  obtain ⟨er9, hw9⟩ := hw9
  have er2 : r2 = iZ q2 := er9
  subst er2
  have hT := LKt_ps hT hw9
  try dsimp only at hW hT
  clear hk9 hP9
  generalize H1 = H at hW hS ⊢
  refine lv_istore (lv' := [(6, .int (iZ q2)), (5, .int r1), (4, .int (iZ i)), (0, .ref b), (1, .ref h0), (2, .ref (h0 + 233)), (3, .ref (h0 + 6558))]) hx hb dL_law_1181 hl (by decide) rfl (fun ls hl => ?_)
  refine lv_goto (tgt := 1440) hx hb dL_law_1183 (by decide) ?_
  have hV9 : LK9 u1 v1 := ⟨T, Ss, Wk, Bs, hT⟩
  refine W.widen (k := cells + 1) (n := slots + 6) (by omega) (by omega) ?_
  exact hend _ _ _ H locs ls hV9 hW hS (lv_sub hl [2, 3, 4, 5, 6] rfl)
set_option maxHeartbeats 4000000 in
set_option maxRecDepth 100000 in
theorem lc_derived {p : Program} {l : Launch} {e : Env} {s : State} {m : MethodId} {below : List Frame} {meth : Method} {c : Code} {dC : Nat → ClassId} {dI : Nat → Nat → Nat} {cI cL cII cR cZ cIII cO : ClassId} {h0 b L : Nat} {xs : Nat → Int32} (C0 : lx_C p l s m c b L xs dC dI cI cL cII cR cZ cIII cO h0) {i : Int} (hi : 0 ≤ i ∧ i + 6 ≤ L) {μ ν : va_M} {f : Nat → Int64} (hV : LK9 μ ν) {cells slots : Nat} (hroom : cells + 1 ≤ 601024 ∧ slots + 6 ≤ 7293034)
    (hend : ∀ (μ ν : va_M) (f : Nat → Int64) (H : Heap) (locs : List Loc) (ls : Array Slot), LK9 μ ν → LW dC dI cI cL cII cR cZ cIII cO h0 μ ν f H → va_S (lA h0) s.heap H locs → lv_has ls 7 [(4, .int (iZ i)), (0, .ref b), (1, .ref h0), (2, .ref (h0 + 233)), (3, .ref (h0 + 6558))] → W p l e room_1 s m #[Value.ref b] below meth c H locs (cells + 1) (slots + 6) (lw_Z below #[Value.ref b] s) (F0 m 1440 ls []))
    {H : Heap} {locs : List Loc} {ls : Array Slot} (hW : LW dC dI cI cL cII cR cZ cIII cO h0 μ ν f H) (hS : va_S (lA h0) s.heap H locs) (hl : lv_has ls 7 [(4, .int (iZ i)), (0, .ref b), (1, .ref h0), (2, .ref (h0 + 233)), (3, .ref (h0 + 6558))]) : W p l e room_1 s m #[Value.ref b] below meth c H locs cells slots (lw_Z below #[Value.ref b] s) (F0 m 1186 ls []) := by
  obtain ⟨hfl, hx, hb, hml, hown, hts, hX, hbl, hsz0, hL9, hK, hKm, hKo, hM, hEx, hNc⟩ := C0
  obtain ⟨T, Ss, Wk, Bs, hT⟩ := hV
  have hT : LKt T Ss Wk Bs μ ν := hT
  have hT0 := hT
  have hbA : ¬ lA h0 b := Nat.not_le.mpr (by omega)
  obtain ⟨a1, e1, ha1⟩ := iZ_ex (xs (iZ (i + 1)).toNatClampNeg)
  refine lv_aload_n hx hb dL_law_1186 rfl (lv_at hl 2 rfl) ?_
  refine lv_aload_n hx hb dL_law_1187 rfl (lv_at hl 1 rfl) ?_
  refine lv_iload hx hb dL_law_1188 (lv_at hl 0 rfl) ?_
  refine lv_iconst (v := iZ 1) hx hb dL_law_1190 rfl ?_
  refine lv_iadd hx hb dL_law_1191 ?_
  refine lv_topi (fun x9 ex9 => ?_)
  obtain rfl : x9 = iZ (i + 1) := ex9.trans (iZ_add _ _)
  refine va_sld hx hb hX hbl hbA hS (iZ_in (by omega) (by omega) (by omega)) dL_law_1192 ?_
  refine lv_topi (fun x9 ex9 => ?_)
  obtain rfl : x9 = iZ a1 := ex9.trans e1
  refine lv_aload_n hx hb dL_law_1193 rfl (lv_at hl 4 rfl) ?_
  refine va_calli (vx_runSW (hh := [(0, 9, 12, 13)]) (As := [.ref h0, .int (iZ a1), .ref (h0 + 6558)]) (rest := []) ⟨hx, hb, hml, hown, hts⟩ (w_derived l hfl dC dI cI cL cII cR cO h0 (h0 + 6558) H.size μ f a1 T (hT.1.1.1.1) ha1 (by omega)) (vx_cwSW 3 hts (gW_G k1108 k1109 k0 k1110) rfl rfl rfl (by decide +kernel) ⟨Nat.le_of_ble_eq_true rfl, Nat.le_of_ble_eq_true rfl⟩) ⟨fun a U g mk q => by obtain ⟨q0, q1, qP, qO, qK, qKo, qM, qE, qN⟩ := q; exact ⟨q0, q1, qP, qO, va_K.moved (u := U) (U := U.calling g mk a) (Vm.Alike.refl U.vm) qK, va_K.moved (u := U) (U := U.calling g mk a) (Vm.Alike.refl U.vm) qKo, qM, xX_call qE, qN⟩, fun U hU hW9 => ⟨rfl, by rw [hU], by rw [hU]; exact hW.1, by rw [hU]; exact hW.2.2, va_K.moved hW9.alike hK, va_K.moved hW9.alike hKo, xM_warm hW9 hM, xX_at hEx hS (fun q h => lA_w hS hsz0 (by omega) q h) hU hW9, xNC_warm hW9 hNc⟩⟩ rfl rfl hl.1 rfl (lv_room (Nat.le_of_ble_eq_true rfl)) dL_law_1194 ⟨by show cells + 1 ≤ 601024; omega, by show slots + 6 ≤ 7293034; omega⟩) hS (fun q _ h => lA_w hS hsz0 (by omega) q h) (lA_w hS hsz0 (by omega)) (fun r1 u9 t9 H1 locs ht9 hvm9 hw9 hB9 hz9 hk9 hS => ?_)
  obtain ⟨hP9, hO9⟩ := hB9
  rw [ht9] at hP9 hO9
  have hW := LW_w hW hk9 hP9 hO9
  have hT := LKt_c hT hw9
  obtain ⟨u1, f1⟩ := u9
  try dsimp only at hW hT
  clear hk9 hP9 hO9
  generalize H1 = H at hW hS ⊢
  refine lv_istore (lv' := [(5, .int r1), (4, .int (iZ i)), (0, .ref b), (1, .ref h0), (2, .ref (h0 + 233)), (3, .ref (h0 + 6558))]) hx hb dL_law_1197 hl (by decide) rfl (fun ls hl => ?_)
  refine lv_aload_n hx hb dL_law_1199 rfl (lv_at hl 4 rfl) ?_
  refine lv_aload_n hx hb dL_law_1200 rfl (lv_at hl 2 rfl) ?_
  refine lv_iload hx hb dL_law_1201 (lv_at hl 1 rfl) ?_
  refine lv_iconst (v := iZ 1) hx hb dL_law_1203 rfl ?_
  refine lv_iadd hx hb dL_law_1204 ?_
  refine lv_topi (fun x9 ex9 => ?_)
  obtain rfl : x9 = iZ (i + 1) := ex9.trans (iZ_add _ _)
  refine va_sld hx hb hX hbl hbA hS (iZ_in (by omega) (by omega) (by omega)) dL_law_1205 ?_
  refine lv_topi (fun x9 ex9 => ?_)
  obtain rfl : x9 = iZ a1 := ex9.trans e1
  refine va_calli (va_runV (As := [.int (iZ a1)]) (rest := []) ⟨hx, hb, hml, hown, hts⟩ (m_derived l dC dI cI cZ cII cIII (h0 + 233) H.size ν a1 hT.1.1.1.2.1.1 ha1) (cwV 1 hts (gV_G k1743 k1744 k1745 k13 k1746) rfl rfl rfl (by decide +kernel) ⟨Nat.le_of_ble_eq_true rfl, Nat.le_of_ble_eq_true rfl⟩) ⟨fun a U g mk q => by obtain ⟨q0, q1, qP, qK⟩ := q; exact ⟨q0, q1, qP, va_K.moved (u := U) (U := U.calling g mk a) (Vm.Alike.refl U.vm) qK⟩, va_recv hKm hW.2.1 (ci := 10) (q0 := 0) rfl ((fw_get (by decide)).trans (by rw [mE_obj])), fun U hU hW9 => ⟨rfl, by rw [hU], by rw [hU]; exact hW.2.1, va_K.moved hW9.alike hKm⟩⟩ rfl rfl hl.1 rfl (lv_room (Nat.le_of_ble_eq_true rfl)) dL_law_1206 ⟨by show cells + 1 + 0 ≤ 601024; omega, by show slots + 6 + 0 ≤ 7293034; omega⟩) hS (fun q _ h => lA_f hS hsz0 (by omega) q h) (lA_f hS hsz0 (by omega)) (fun r2 u9 t9 H1 locs ht9 hvm9 hw9 hB9 hz9 hk9 hS => ?_)
  obtain ⟨hP9, -⟩ := hB9
  rw [ht9] at hP9
  have hW := LW_m hW hk9 hP9
  obtain ⟨v1, q2⟩ := u9
  obtain ⟨er9, hw9⟩ := hw9
  have er2 : r2 = iZ q2 := er9
  subst er2
  have hT := LKt_ps hT hw9
  try dsimp only at hW hT
  clear hk9 hP9
  generalize H1 = H at hW hS ⊢
  refine lv_istore (lv' := [(6, .int (iZ q2)), (5, .int r1), (4, .int (iZ i)), (0, .ref b), (1, .ref h0), (2, .ref (h0 + 233)), (3, .ref (h0 + 6558))]) hx hb dL_law_1209 hl (by decide) rfl (fun ls hl => ?_)
  refine lv_goto (tgt := 1440) hx hb dL_law_1211 (by decide) ?_
  have hV9 : LK9 u1 v1 := ⟨T, Ss, Wk, Bs, hT⟩
  refine W.widen (k := cells + 1) (n := slots + 6) (by omega) (by omega) ?_
  exact hend _ _ _ H locs ls hV9 hW hS (lv_sub hl [2, 3, 4, 5, 6] rfl)
set_option maxHeartbeats 4000000 in
set_option maxRecDepth 100000 in
theorem lc_common {p : Program} {l : Launch} {e : Env} {s : State} {m : MethodId} {below : List Frame} {meth : Method} {c : Code} {dC : Nat → ClassId} {dI : Nat → Nat → Nat} {cI cL cII cR cZ cIII cO : ClassId} {h0 b L : Nat} {xs : Nat → Int32} (C0 : lx_C p l s m c b L xs dC dI cI cL cII cR cZ cIII cO h0) {i : Int} (hi : 0 ≤ i ∧ i + 6 ≤ L) {μ ν : va_M} {f : Nat → Int64} (hV : LK9 μ ν) {cells slots : Nat} (hroom : cells + 1 ≤ 601024 ∧ slots + 6 ≤ 7293034)
    (hend : ∀ (μ ν : va_M) (f : Nat → Int64) (H : Heap) (locs : List Loc) (ls : Array Slot), LK9 μ ν → LW dC dI cI cL cII cR cZ cIII cO h0 μ ν f H → va_S (lA h0) s.heap H locs → lv_has ls 7 [(4, .int (iZ i)), (0, .ref b), (1, .ref h0), (2, .ref (h0 + 233)), (3, .ref (h0 + 6558))] → W p l e room_1 s m #[Value.ref b] below meth c H locs (cells + 1) (slots + 6) (lw_Z below #[Value.ref b] s) (F0 m 1440 ls []))
    {H : Heap} {locs : List Loc} {ls : Array Slot} (hW : LW dC dI cI cL cII cR cZ cIII cO h0 μ ν f H) (hS : va_S (lA h0) s.heap H locs) (hl : lv_has ls 7 [(4, .int (iZ i)), (0, .ref b), (1, .ref h0), (2, .ref (h0 + 233)), (3, .ref (h0 + 6558))]) : W p l e room_1 s m #[Value.ref b] below meth c H locs cells slots (lw_Z below #[Value.ref b] s) (F0 m 1214 ls []) := by
  obtain ⟨hfl, hx, hb, hml, hown, hts, hX, hbl, hsz0, hL9, hK, hKm, hKo, hM, hEx, hNc⟩ := C0
  obtain ⟨T, Ss, Wk, Bs, hT⟩ := hV
  have hT : LKt T Ss Wk Bs μ ν := hT
  have hT0 := hT
  have hbA : ¬ lA h0 b := Nat.not_le.mpr (by omega)
  obtain ⟨a1, e1, ha1⟩ := iZ_ex (xs (iZ (i + 1)).toNatClampNeg)
  obtain ⟨a2, e2, ha2⟩ := iZ_ex (xs (iZ (i + 2)).toNatClampNeg)
  refine lv_aload_n hx hb dL_law_1214 rfl (lv_at hl 2 rfl) ?_
  refine lv_aload_n hx hb dL_law_1215 rfl (lv_at hl 1 rfl) ?_
  refine lv_iload hx hb dL_law_1216 (lv_at hl 0 rfl) ?_
  refine lv_iconst (v := iZ 1) hx hb dL_law_1218 rfl ?_
  refine lv_iadd hx hb dL_law_1219 ?_
  refine lv_topi (fun x9 ex9 => ?_)
  obtain rfl : x9 = iZ (i + 1) := ex9.trans (iZ_add _ _)
  refine va_sld hx hb hX hbl hbA hS (iZ_in (by omega) (by omega) (by omega)) dL_law_1220 ?_
  refine lv_topi (fun x9 ex9 => ?_)
  obtain rfl : x9 = iZ a1 := ex9.trans e1
  refine lv_aload_n hx hb dL_law_1221 rfl (lv_at hl 1 rfl) ?_
  refine lv_iload hx hb dL_law_1222 (lv_at hl 0 rfl) ?_
  refine lv_iconst (v := iZ 2) hx hb dL_law_1224 rfl ?_
  refine lv_iadd hx hb dL_law_1225 ?_
  refine lv_topi (fun x9 ex9 => ?_)
  obtain rfl : x9 = iZ (i + 2) := ex9.trans (iZ_add _ _)
  refine va_sld hx hb hX hbl hbA hS (iZ_in (by omega) (by omega) (by omega)) dL_law_1226 ?_
  refine lv_topi (fun x9 ex9 => ?_)
  obtain rfl : x9 = iZ a2 := ex9.trans e2
  refine lv_aload_n hx hb dL_law_1227 rfl (lv_at hl 4 rfl) ?_
  refine va_calli (vx_runSW (hh := [(0, 10, 13, 20)]) (As := [.ref h0, .int (iZ a1), .int (iZ a2), .ref (h0 + 6558)]) (rest := []) ⟨hx, hb, hml, hown, hts⟩ (w_common l hfl dC dI cI cL cII cR cO h0 (h0 + 6558) H.size μ f a1 a2 T (hT.1.1.1.1) ha1 ha2 (by omega)) (vx_cwSW 4 hts (gW_G k1115 k1116 k0 k1117) rfl rfl rfl (by decide +kernel) ⟨Nat.le_of_ble_eq_true rfl, Nat.le_of_ble_eq_true rfl⟩) ⟨fun a U g mk q => by obtain ⟨q0, q1, qP, qO, qK, qKo, qM, qE, qN⟩ := q; exact ⟨q0, q1, qP, qO, va_K.moved (u := U) (U := U.calling g mk a) (Vm.Alike.refl U.vm) qK, va_K.moved (u := U) (U := U.calling g mk a) (Vm.Alike.refl U.vm) qKo, qM, xX_call qE, qN⟩, fun U hU hW9 => ⟨rfl, by rw [hU], by rw [hU]; exact hW.1, by rw [hU]; exact hW.2.2, va_K.moved hW9.alike hK, va_K.moved hW9.alike hKo, xM_warm hW9 hM, xX_at hEx hS (fun q h => lA_w hS hsz0 (by omega) q h) hU hW9, xNC_warm hW9 hNc⟩⟩ rfl rfl hl.1 rfl (lv_room (Nat.le_of_ble_eq_true rfl)) dL_law_1228 ⟨by show cells + 1 ≤ 601024; omega, by show slots + 6 ≤ 7293034; omega⟩) hS (fun q _ h => lA_w hS hsz0 (by omega) q h) (lA_w hS hsz0 (by omega)) (fun r1 u9 t9 H1 locs ht9 hvm9 hw9 hB9 hz9 hk9 hS => ?_)
  obtain ⟨hP9, hO9⟩ := hB9
  rw [ht9] at hP9 hO9
  have hW := LW_w hW hk9 hP9 hO9
  have hT := LKt_c hT hw9
  obtain ⟨u1, f1⟩ := u9
  try dsimp only at hW hT
  clear hk9 hP9 hO9
  generalize H1 = H at hW hS ⊢
  refine lv_istore (lv' := [(5, .int r1), (4, .int (iZ i)), (0, .ref b), (1, .ref h0), (2, .ref (h0 + 233)), (3, .ref (h0 + 6558))]) hx hb dL_law_1231 hl (by decide) rfl (fun ls hl => ?_)
  refine lv_aload_n hx hb dL_law_1233 rfl (lv_at hl 4 rfl) ?_
  refine lv_aload_n hx hb dL_law_1234 rfl (lv_at hl 2 rfl) ?_
  refine lv_iload hx hb dL_law_1235 (lv_at hl 1 rfl) ?_
  refine lv_iconst (v := iZ 1) hx hb dL_law_1237 rfl ?_
  refine lv_iadd hx hb dL_law_1238 ?_
  refine lv_topi (fun x9 ex9 => ?_)
  obtain rfl : x9 = iZ (i + 1) := ex9.trans (iZ_add _ _)
  refine va_sld hx hb hX hbl hbA hS (iZ_in (by omega) (by omega) (by omega)) dL_law_1239 ?_
  refine lv_topi (fun x9 ex9 => ?_)
  obtain rfl : x9 = iZ a1 := ex9.trans e1
  refine lv_aload_n hx hb dL_law_1240 rfl (lv_at hl 2 rfl) ?_
  refine lv_iload hx hb dL_law_1241 (lv_at hl 1 rfl) ?_
  refine lv_iconst (v := iZ 2) hx hb dL_law_1243 rfl ?_
  refine lv_iadd hx hb dL_law_1244 ?_
  refine lv_topi (fun x9 ex9 => ?_)
  obtain rfl : x9 = iZ (i + 2) := ex9.trans (iZ_add _ _)
  refine va_sld hx hb hX hbl hbA hS (iZ_in (by omega) (by omega) (by omega)) dL_law_1245 ?_
  refine lv_topi (fun x9 ex9 => ?_)
  obtain rfl : x9 = iZ a2 := ex9.trans e2
  refine va_calli (va_runV (As := [.int (iZ a1), .int (iZ a2)]) (rest := []) ⟨hx, hb, hml, hown, hts⟩ (m_common l dC dI cI cZ cII cIII (h0 + 233) H.size ν a1 a2 hT.1.1.1.2.1.1 ha1 ha2) (cwV 2 hts (gV_G k1747 k1748 k1749 k13 k1750) rfl rfl rfl (by decide +kernel) ⟨Nat.le_of_ble_eq_true rfl, Nat.le_of_ble_eq_true rfl⟩) ⟨fun a U g mk q => by obtain ⟨q0, q1, qP, qK⟩ := q; exact ⟨q0, q1, qP, va_K.moved (u := U) (U := U.calling g mk a) (Vm.Alike.refl U.vm) qK⟩, va_recv hKm hW.2.1 (ci := 10) (q0 := 0) rfl ((fw_get (by decide)).trans (by rw [mE_obj])), fun U hU hW9 => ⟨rfl, by rw [hU], by rw [hU]; exact hW.2.1, va_K.moved hW9.alike hKm⟩⟩ rfl rfl hl.1 rfl (lv_room (Nat.le_of_ble_eq_true rfl)) dL_law_1246 ⟨by show cells + 1 + 0 ≤ 601024; omega, by show slots + 6 + 0 ≤ 7293034; omega⟩) hS (fun q _ h => lA_f hS hsz0 (by omega) q h) (lA_f hS hsz0 (by omega)) (fun r2 u9 t9 H1 locs ht9 hvm9 hw9 hB9 hz9 hk9 hS => ?_)
  obtain ⟨hP9, -⟩ := hB9
  rw [ht9] at hP9
  have hW := LW_m hW hk9 hP9
  obtain ⟨v1, q2⟩ := u9
  obtain ⟨er9, hw9⟩ := hw9
  have er2 : r2 = iZ q2 := er9
  subst er2
  have hT := LKt_ps hT hw9
  try dsimp only at hW hT
  clear hk9 hP9
  generalize H1 = H at hW hS ⊢
  refine lv_istore (lv' := [(6, .int (iZ q2)), (5, .int r1), (4, .int (iZ i)), (0, .ref b), (1, .ref h0), (2, .ref (h0 + 233)), (3, .ref (h0 + 6558))]) hx hb dL_law_1249 hl (by decide) rfl (fun ls hl => ?_)
  refine lv_goto (tgt := 1440) hx hb dL_law_1251 (by decide) ?_
  have hV9 : LK9 u1 v1 := ⟨T, Ss, Wk, Bs, hT⟩
  refine W.widen (k := cells + 1) (n := slots + 6) (by omega) (by omega) ?_
  exact hend _ _ _ H locs ls hV9 hW hS (lv_sub hl [2, 3, 4, 5, 6] rfl)
set_option maxHeartbeats 4000000 in
set_option maxRecDepth 100000 in
theorem lc_similar {p : Program} {l : Launch} {e : Env} {s : State} {m : MethodId} {below : List Frame} {meth : Method} {c : Code} {dC : Nat → ClassId} {dI : Nat → Nat → Nat} {cI cL cII cR cZ cIII cO : ClassId} {h0 b L : Nat} {xs : Nat → Int32} (C0 : lx_C p l s m c b L xs dC dI cI cL cII cR cZ cIII cO h0) {i : Int} (hi : 0 ≤ i ∧ i + 6 ≤ L) {μ ν : va_M} {f : Nat → Int64} (hV : LK9 μ ν) {cells slots : Nat} (hroom : cells + 1 ≤ 601024 ∧ slots + 6 ≤ 7293034)
    (hend : ∀ (μ ν : va_M) (f : Nat → Int64) (H : Heap) (locs : List Loc) (ls : Array Slot), LK9 μ ν → LW dC dI cI cL cII cR cZ cIII cO h0 μ ν f H → va_S (lA h0) s.heap H locs → lv_has ls 7 [(4, .int (iZ i)), (0, .ref b), (1, .ref h0), (2, .ref (h0 + 233)), (3, .ref (h0 + 6558))] → W p l e room_1 s m #[Value.ref b] below meth c H locs (cells + 1) (slots + 6) (lw_Z below #[Value.ref b] s) (F0 m 1440 ls []))
    {H : Heap} {locs : List Loc} {ls : Array Slot} (hW : LW dC dI cI cL cII cR cZ cIII cO h0 μ ν f H) (hS : va_S (lA h0) s.heap H locs) (hl : lv_has ls 7 [(4, .int (iZ i)), (0, .ref b), (1, .ref h0), (2, .ref (h0 + 233)), (3, .ref (h0 + 6558))]) : W p l e room_1 s m #[Value.ref b] below meth c H locs cells slots (lw_Z below #[Value.ref b] s) (F0 m 1254 ls []) := by
  obtain ⟨hfl, hx, hb, hml, hown, hts, hX, hbl, hsz0, hL9, hK, hKm, hKo, hM, hEx, hNc⟩ := C0
  obtain ⟨T, Ss, Wk, Bs, hT⟩ := hV
  have hT : LKt T Ss Wk Bs μ ν := hT
  have hT0 := hT
  have hbA : ¬ lA h0 b := Nat.not_le.mpr (by omega)
  obtain ⟨a1, e1, ha1⟩ := iZ_ex (xs (iZ (i + 1)).toNatClampNeg)
  obtain ⟨a2, e2, ha2⟩ := iZ_ex (xs (iZ (i + 2)).toNatClampNeg)
  refine lv_aload_n hx hb dL_law_1254 rfl (lv_at hl 2 rfl) ?_
  refine lv_aload_n hx hb dL_law_1255 rfl (lv_at hl 1 rfl) ?_
  refine lv_iload hx hb dL_law_1256 (lv_at hl 0 rfl) ?_
  refine lv_iconst (v := iZ 1) hx hb dL_law_1258 rfl ?_
  refine lv_iadd hx hb dL_law_1259 ?_
  refine lv_topi (fun x9 ex9 => ?_)
  obtain rfl : x9 = iZ (i + 1) := ex9.trans (iZ_add _ _)
  refine va_sld hx hb hX hbl hbA hS (iZ_in (by omega) (by omega) (by omega)) dL_law_1260 ?_
  refine lv_topi (fun x9 ex9 => ?_)
  obtain rfl : x9 = iZ a1 := ex9.trans e1
  refine lv_aload_n hx hb dL_law_1261 rfl (lv_at hl 1 rfl) ?_
  refine lv_iload hx hb dL_law_1262 (lv_at hl 0 rfl) ?_
  refine lv_iconst (v := iZ 2) hx hb dL_law_1264 rfl ?_
  refine lv_iadd hx hb dL_law_1265 ?_
  refine lv_topi (fun x9 ex9 => ?_)
  obtain rfl : x9 = iZ (i + 2) := ex9.trans (iZ_add _ _)
  refine va_sld hx hb hX hbl hbA hS (iZ_in (by omega) (by omega) (by omega)) dL_law_1266 ?_
  refine lv_topi (fun x9 ex9 => ?_)
  obtain rfl : x9 = iZ a2 := ex9.trans e2
  refine lv_aload_n hx hb dL_law_1267 rfl (lv_at hl 4 rfl) ?_
  refine va_calli (vx_runSW (hh := [(0, 17, 20, 20)]) (As := [.ref h0, .int (iZ a1), .int (iZ a2), .ref (h0 + 6558)]) (rest := []) ⟨hx, hb, hml, hown, hts⟩ (w_similar l hfl dC dI cI cL cII cR cO h0 (h0 + 6558) H.size μ f a1 a2 T (hT.1.1.1.1) ha1 ha2 (by omega)) (vx_cwSW 4 hts (gW_G k1128 k1129 k0 k1130) rfl rfl rfl (by decide +kernel) ⟨Nat.le_of_ble_eq_true rfl, Nat.le_of_ble_eq_true rfl⟩) ⟨fun a U g mk q => by obtain ⟨q0, q1, qP, qO, qK, qKo, qM, qE, qN⟩ := q; exact ⟨q0, q1, qP, qO, va_K.moved (u := U) (U := U.calling g mk a) (Vm.Alike.refl U.vm) qK, va_K.moved (u := U) (U := U.calling g mk a) (Vm.Alike.refl U.vm) qKo, qM, xX_call qE, qN⟩, fun U hU hW9 => ⟨rfl, by rw [hU], by rw [hU]; exact hW.1, by rw [hU]; exact hW.2.2, va_K.moved hW9.alike hK, va_K.moved hW9.alike hKo, xM_warm hW9 hM, xX_at hEx hS (fun q h => lA_w hS hsz0 (by omega) q h) hU hW9, xNC_warm hW9 hNc⟩⟩ rfl rfl hl.1 rfl (lv_room (Nat.le_of_ble_eq_true rfl)) dL_law_1268 ⟨by show cells + 1 ≤ 601024; omega, by show slots + 6 ≤ 7293034; omega⟩) hS (fun q _ h => lA_w hS hsz0 (by omega) q h) (lA_w hS hsz0 (by omega)) (fun r1 u9 t9 H1 locs ht9 hvm9 hw9 hB9 hz9 hk9 hS => ?_)
  obtain ⟨hP9, hO9⟩ := hB9
  rw [ht9] at hP9 hO9
  have hW := LW_w hW hk9 hP9 hO9
  have hT := LKt_c hT hw9
  obtain ⟨u1, f1⟩ := u9
  try dsimp only at hW hT
  clear hk9 hP9 hO9
  generalize H1 = H at hW hS ⊢
  refine lv_istore (lv' := [(5, .int r1), (4, .int (iZ i)), (0, .ref b), (1, .ref h0), (2, .ref (h0 + 233)), (3, .ref (h0 + 6558))]) hx hb dL_law_1271 hl (by decide) rfl (fun ls hl => ?_)
  refine lv_aload_n hx hb dL_law_1273 rfl (lv_at hl 4 rfl) ?_
  refine lv_aload_n hx hb dL_law_1274 rfl (lv_at hl 2 rfl) ?_
  refine lv_iload hx hb dL_law_1275 (lv_at hl 1 rfl) ?_
  refine lv_iconst (v := iZ 1) hx hb dL_law_1277 rfl ?_
  refine lv_iadd hx hb dL_law_1278 ?_
  refine lv_topi (fun x9 ex9 => ?_)
  obtain rfl : x9 = iZ (i + 1) := ex9.trans (iZ_add _ _)
  refine va_sld hx hb hX hbl hbA hS (iZ_in (by omega) (by omega) (by omega)) dL_law_1279 ?_
  refine lv_topi (fun x9 ex9 => ?_)
  obtain rfl : x9 = iZ a1 := ex9.trans e1
  refine lv_aload_n hx hb dL_law_1280 rfl (lv_at hl 2 rfl) ?_
  refine lv_iload hx hb dL_law_1281 (lv_at hl 1 rfl) ?_
  refine lv_iconst (v := iZ 2) hx hb dL_law_1283 rfl ?_
  refine lv_iadd hx hb dL_law_1284 ?_
  refine lv_topi (fun x9 ex9 => ?_)
  obtain rfl : x9 = iZ (i + 2) := ex9.trans (iZ_add _ _)
  refine va_sld hx hb hX hbl hbA hS (iZ_in (by omega) (by omega) (by omega)) dL_law_1285 ?_
  refine lv_topi (fun x9 ex9 => ?_)
  obtain rfl : x9 = iZ a2 := ex9.trans e2
  refine va_calli (va_runV (As := [.int (iZ a1), .int (iZ a2)]) (rest := []) ⟨hx, hb, hml, hown, hts⟩ (m_similar l dC dI cI cZ cII cIII (h0 + 233) H.size ν a1 a2 hT.1.1.1.2.1.1 ha1 ha2) (cwV 2 hts (gV_G k1751 k1752 k1753 k13 k1754) rfl rfl rfl (by decide +kernel) ⟨Nat.le_of_ble_eq_true rfl, Nat.le_of_ble_eq_true rfl⟩) ⟨fun a U g mk q => by obtain ⟨q0, q1, qP, qK⟩ := q; exact ⟨q0, q1, qP, va_K.moved (u := U) (U := U.calling g mk a) (Vm.Alike.refl U.vm) qK⟩, va_recv hKm hW.2.1 (ci := 10) (q0 := 0) rfl ((fw_get (by decide)).trans (by rw [mE_obj])), fun U hU hW9 => ⟨rfl, by rw [hU], by rw [hU]; exact hW.2.1, va_K.moved hW9.alike hKm⟩⟩ rfl rfl hl.1 rfl (lv_room (Nat.le_of_ble_eq_true rfl)) dL_law_1286 ⟨by show cells + 1 + 0 ≤ 601024; omega, by show slots + 6 + 0 ≤ 7293034; omega⟩) hS (fun q _ h => lA_f hS hsz0 (by omega) q h) (lA_f hS hsz0 (by omega)) (fun r2 u9 t9 H1 locs ht9 hvm9 hw9 hB9 hz9 hk9 hS => ?_)
  obtain ⟨hP9, -⟩ := hB9
  rw [ht9] at hP9
  have hW := LW_m hW hk9 hP9
  obtain ⟨v1, q2⟩ := u9
  obtain ⟨er9, hw9⟩ := hw9
  have er2 : r2 = iZ q2 := er9
  subst er2
  have hT := LKt_ps hT hw9
  try dsimp only at hW hT
  clear hk9 hP9
  generalize H1 = H at hW hS ⊢
  refine lv_istore (lv' := [(6, .int (iZ q2)), (5, .int r1), (4, .int (iZ i)), (0, .ref b), (1, .ref h0), (2, .ref (h0 + 233)), (3, .ref (h0 + 6558))]) hx hb dL_law_1289 hl (by decide) rfl (fun ls hl => ?_)
  refine lv_goto (tgt := 1440) hx hb dL_law_1291 (by decide) ?_
  have hV9 : LK9 u1 v1 := ⟨T, Ss, Wk, Bs, hT⟩
  refine W.widen (k := cells + 1) (n := slots + 6) (by omega) (by omega) ?_
  exact hend _ _ _ H locs ls hV9 hW hS (lv_sub hl [2, 3, 4, 5, 6] rfl)
set_option maxHeartbeats 4000000 in
set_option maxRecDepth 100000 in
theorem lc_step {p : Program} {l : Launch} {e : Env} {s : State} {m : MethodId} {below : List Frame} {meth : Method} {c : Code} {dC : Nat → ClassId} {dI : Nat → Nat → Nat} {cI cL cII cR cZ cIII cO : ClassId} {h0 b L : Nat} {xs : Nat → Int32} (C0 : lx_C p l s m c b L xs dC dI cI cL cII cR cZ cIII cO h0) {i : Int} (hi : 0 ≤ i ∧ i + 6 ≤ L) {μ ν : va_M} {f : Nat → Int64} (hV : LK9 μ ν) {cells slots : Nat} (hroom : cells + 1 ≤ 601024 ∧ slots + 6 ≤ 7293034)
    (hend : ∀ (μ ν : va_M) (f : Nat → Int64) (H : Heap) (locs : List Loc) (ls : Array Slot), LK9 μ ν → LW dC dI cI cL cII cR cZ cIII cO h0 μ ν f H → va_S (lA h0) s.heap H locs → lv_has ls 7 [(4, .int (iZ i)), (0, .ref b), (1, .ref h0), (2, .ref (h0 + 233)), (3, .ref (h0 + 6558))] → W p l e room_1 s m #[Value.ref b] below meth c H locs (cells + 1) (slots + 6) (lw_Z below #[Value.ref b] s) (F0 m 1440 ls []))
    {H : Heap} {locs : List Loc} {ls : Array Slot} (hW : LW dC dI cI cL cII cR cZ cIII cO h0 μ ν f H) (hS : va_S (lA h0) s.heap H locs) (hl : lv_has ls 7 [(4, .int (iZ i)), (0, .ref b), (1, .ref h0), (2, .ref (h0 + 233)), (3, .ref (h0 + 6558))]) : W p l e room_1 s m #[Value.ref b] below meth c H locs cells slots (lw_Z below #[Value.ref b] s) (F0 m 1294 ls []) := by
  obtain ⟨hfl, hx, hb, hml, hown, hts, hX, hbl, hsz0, hL9, hK, hKm, hKo, hM, hEx, hNc⟩ := C0
  obtain ⟨T, Ss, Wk, Bs, hT⟩ := hV
  have hT : LKt T Ss Wk Bs μ ν := hT
  have hT0 := hT
  have hbA : ¬ lA h0 b := Nat.not_le.mpr (by omega)
  obtain ⟨a1, e1, ha1⟩ := iZ_ex (xs (iZ (i + 1)).toNatClampNeg)
  obtain ⟨a2, e2, ha2⟩ := iZ_ex (xs (iZ (i + 2)).toNatClampNeg)
  obtain ⟨a3, e3, ha3⟩ := iZ_ex (xs (iZ (i + 3)).toNatClampNeg)
  refine lv_aload_n hx hb dL_law_1294 rfl (lv_at hl 2 rfl) ?_
  refine lv_aload_n hx hb dL_law_1295 rfl (lv_at hl 1 rfl) ?_
  refine lv_iload hx hb dL_law_1296 (lv_at hl 0 rfl) ?_
  refine lv_iconst (v := iZ 1) hx hb dL_law_1298 rfl ?_
  refine lv_iadd hx hb dL_law_1299 ?_
  refine lv_topi (fun x9 ex9 => ?_)
  obtain rfl : x9 = iZ (i + 1) := ex9.trans (iZ_add _ _)
  refine va_sld hx hb hX hbl hbA hS (iZ_in (by omega) (by omega) (by omega)) dL_law_1300 ?_
  refine lv_topi (fun x9 ex9 => ?_)
  obtain rfl : x9 = iZ a1 := ex9.trans e1
  refine lv_aload_n hx hb dL_law_1301 rfl (lv_at hl 1 rfl) ?_
  refine lv_iload hx hb dL_law_1302 (lv_at hl 0 rfl) ?_
  refine lv_iconst (v := iZ 2) hx hb dL_law_1304 rfl ?_
  refine lv_iadd hx hb dL_law_1305 ?_
  refine lv_topi (fun x9 ex9 => ?_)
  obtain rfl : x9 = iZ (i + 2) := ex9.trans (iZ_add _ _)
  refine va_sld hx hb hX hbl hbA hS (iZ_in (by omega) (by omega) (by omega)) dL_law_1306 ?_
  refine lv_topi (fun x9 ex9 => ?_)
  obtain rfl : x9 = iZ a2 := ex9.trans e2
  refine lv_aload_n hx hb dL_law_1307 rfl (lv_at hl 1 rfl) ?_
  refine lv_iload hx hb dL_law_1308 (lv_at hl 0 rfl) ?_
  refine lv_iconst (v := iZ 3) hx hb dL_law_1310 rfl ?_
  refine lv_iadd hx hb dL_law_1311 ?_
  refine lv_topi (fun x9 ex9 => ?_)
  obtain rfl : x9 = iZ (i + 3) := ex9.trans (iZ_add _ _)
  refine va_sld hx hb hX hbl hbA hS (iZ_in (by omega) (by omega) (by omega)) dL_law_1312 ?_
  refine lv_topi (fun x9 ex9 => ?_)
  obtain rfl : x9 = iZ a3 := ex9.trans e3
  refine lv_aload_n hx hb dL_law_1313 rfl (lv_at hl 4 rfl) ?_
  refine va_calli (vx_runSW (hh := [(0, 12, 15, 20), (0, 12, 19, 13)]) (As := [.ref h0, .int (iZ a1), .int (iZ a2), .int (iZ a3), .ref (h0 + 6558)]) (rest := []) ⟨hx, hb, hml, hown, hts⟩ (w_step l hfl dC dI cI cL cII cR cO h0 (h0 + 6558) H.size μ f a1 a2 a3 T (hT.1.1.1.1) ha1 ha2 ha3 (by omega)) (vx_cwSW 5 hts (gW_G k1135 k1136 k0 k1137) rfl rfl rfl (by decide +kernel) ⟨Nat.le_of_ble_eq_true rfl, Nat.le_of_ble_eq_true rfl⟩) ⟨fun a U g mk q => by obtain ⟨q0, q1, qP, qO, qK, qKo, qM, qE, qN⟩ := q; exact ⟨q0, q1, qP, qO, va_K.moved (u := U) (U := U.calling g mk a) (Vm.Alike.refl U.vm) qK, va_K.moved (u := U) (U := U.calling g mk a) (Vm.Alike.refl U.vm) qKo, qM, xX_call qE, qN⟩, fun U hU hW9 => ⟨rfl, by rw [hU], by rw [hU]; exact hW.1, by rw [hU]; exact hW.2.2, va_K.moved hW9.alike hK, va_K.moved hW9.alike hKo, xM_warm hW9 hM, xX_at hEx hS (fun q h => lA_w hS hsz0 (by omega) q h) hU hW9, xNC_warm hW9 hNc⟩⟩ rfl rfl hl.1 rfl (lv_room (Nat.le_of_ble_eq_true rfl)) dL_law_1314 ⟨by show cells + 1 ≤ 601024; omega, by show slots + 6 ≤ 7293034; omega⟩) hS (fun q _ h => lA_w hS hsz0 (by omega) q h) (lA_w hS hsz0 (by omega)) (fun r1 u9 t9 H1 locs ht9 hvm9 hw9 hB9 hz9 hk9 hS => ?_)
  obtain ⟨hP9, hO9⟩ := hB9
  rw [ht9] at hP9 hO9
  have hW := LW_w hW hk9 hP9 hO9
  have hT := LKt_c hT hw9
  obtain ⟨u1, f1⟩ := u9
  try dsimp only at hW hT
  clear hk9 hP9 hO9
  generalize H1 = H at hW hS ⊢
  refine lv_istore (lv' := [(5, .int r1), (4, .int (iZ i)), (0, .ref b), (1, .ref h0), (2, .ref (h0 + 233)), (3, .ref (h0 + 6558))]) hx hb dL_law_1317 hl (by decide) rfl (fun ls hl => ?_)
  refine lv_aload_n hx hb dL_law_1319 rfl (lv_at hl 4 rfl) ?_
  refine lv_aload_n hx hb dL_law_1320 rfl (lv_at hl 2 rfl) ?_
  refine lv_iload hx hb dL_law_1321 (lv_at hl 1 rfl) ?_
  refine lv_iconst (v := iZ 1) hx hb dL_law_1323 rfl ?_
  refine lv_iadd hx hb dL_law_1324 ?_
  refine lv_topi (fun x9 ex9 => ?_)
  obtain rfl : x9 = iZ (i + 1) := ex9.trans (iZ_add _ _)
  refine va_sld hx hb hX hbl hbA hS (iZ_in (by omega) (by omega) (by omega)) dL_law_1325 ?_
  refine lv_topi (fun x9 ex9 => ?_)
  obtain rfl : x9 = iZ a1 := ex9.trans e1
  refine lv_aload_n hx hb dL_law_1326 rfl (lv_at hl 2 rfl) ?_
  refine lv_iload hx hb dL_law_1327 (lv_at hl 1 rfl) ?_
  refine lv_iconst (v := iZ 2) hx hb dL_law_1329 rfl ?_
  refine lv_iadd hx hb dL_law_1330 ?_
  refine lv_topi (fun x9 ex9 => ?_)
  obtain rfl : x9 = iZ (i + 2) := ex9.trans (iZ_add _ _)
  refine va_sld hx hb hX hbl hbA hS (iZ_in (by omega) (by omega) (by omega)) dL_law_1331 ?_
  refine lv_topi (fun x9 ex9 => ?_)
  obtain rfl : x9 = iZ a2 := ex9.trans e2
  refine lv_aload_n hx hb dL_law_1332 rfl (lv_at hl 2 rfl) ?_
  refine lv_iload hx hb dL_law_1333 (lv_at hl 1 rfl) ?_
  refine lv_iconst (v := iZ 3) hx hb dL_law_1335 rfl ?_
  refine lv_iadd hx hb dL_law_1336 ?_
  refine lv_topi (fun x9 ex9 => ?_)
  obtain rfl : x9 = iZ (i + 3) := ex9.trans (iZ_add _ _)
  refine va_sld hx hb hX hbl hbA hS (iZ_in (by omega) (by omega) (by omega)) dL_law_1337 ?_
  refine lv_topi (fun x9 ex9 => ?_)
  obtain rfl : x9 = iZ a3 := ex9.trans e3
  refine va_calli (va_runV (As := [.int (iZ a1), .int (iZ a2), .int (iZ a3)]) (rest := []) ⟨hx, hb, hml, hown, hts⟩ (m_step l dC dI cI cZ cII cIII (h0 + 233) H.size ν a1 a2 a3 hT.1.1.1.2.1.1 ha1 ha2 ha3) (cwV 3 hts (gV_G k1755 k1756 k1757 k13 k1758) rfl rfl rfl (by decide +kernel) ⟨Nat.le_of_ble_eq_true rfl, Nat.le_of_ble_eq_true rfl⟩) ⟨fun a U g mk q => by obtain ⟨q0, q1, qP, qK⟩ := q; exact ⟨q0, q1, qP, va_K.moved (u := U) (U := U.calling g mk a) (Vm.Alike.refl U.vm) qK⟩, va_recv hKm hW.2.1 (ci := 10) (q0 := 0) rfl ((fw_get (by decide)).trans (by rw [mE_obj])), fun U hU hW9 => ⟨rfl, by rw [hU], by rw [hU]; exact hW.2.1, va_K.moved hW9.alike hKm⟩⟩ rfl rfl hl.1 rfl (lv_room (Nat.le_of_ble_eq_true rfl)) dL_law_1338 ⟨by show cells + 1 + 0 ≤ 601024; omega, by show slots + 6 + 0 ≤ 7293034; omega⟩) hS (fun q _ h => lA_f hS hsz0 (by omega) q h) (lA_f hS hsz0 (by omega)) (fun r2 u9 t9 H1 locs ht9 hvm9 hw9 hB9 hz9 hk9 hS => ?_)
  obtain ⟨hP9, -⟩ := hB9
  rw [ht9] at hP9
  have hW := LW_m hW hk9 hP9
  obtain ⟨v1, q2⟩ := u9
  obtain ⟨er9, hw9⟩ := hw9
  have er2 : r2 = iZ q2 := er9
  subst er2
  have hT := LKt_ps hT hw9
  try dsimp only at hW hT
  clear hk9 hP9
  generalize H1 = H at hW hS ⊢
  refine lv_istore (lv' := [(6, .int (iZ q2)), (5, .int r1), (4, .int (iZ i)), (0, .ref b), (1, .ref h0), (2, .ref (h0 + 233)), (3, .ref (h0 + 6558))]) hx hb dL_law_1341 hl (by decide) rfl (fun ls hl => ?_)
  refine lv_goto (tgt := 1440) hx hb dL_law_1343 (by decide) ?_
  have hV9 : LK9 u1 v1 := ⟨T, Ss, Wk, Bs, hT⟩
  refine W.widen (k := cells + 1) (n := slots + 6) (by omega) (by omega) ?_
  exact hend _ _ _ H locs ls hV9 hW hS (lv_sub hl [2, 3, 4, 5, 6] rfl)
set_option maxHeartbeats 4000000 in
set_option maxRecDepth 100000 in
theorem lc_users {p : Program} {l : Launch} {e : Env} {s : State} {m : MethodId} {below : List Frame} {meth : Method} {c : Code} {dC : Nat → ClassId} {dI : Nat → Nat → Nat} {cI cL cII cR cZ cIII cO : ClassId} {h0 b L : Nat} {xs : Nat → Int32} (C0 : lx_C p l s m c b L xs dC dI cI cL cII cR cZ cIII cO h0) {i : Int} (hi : 0 ≤ i ∧ i + 6 ≤ L) {μ ν : va_M} {f : Nat → Int64} (hV : LK9 μ ν) {cells slots : Nat} (hroom : cells + 1 ≤ 601024 ∧ slots + 6 ≤ 7293034)
    (hend : ∀ (μ ν : va_M) (f : Nat → Int64) (H : Heap) (locs : List Loc) (ls : Array Slot), LK9 μ ν → LW dC dI cI cL cII cR cZ cIII cO h0 μ ν f H → va_S (lA h0) s.heap H locs → lv_has ls 7 [(4, .int (iZ i)), (0, .ref b), (1, .ref h0), (2, .ref (h0 + 233)), (3, .ref (h0 + 6558))] → W p l e room_1 s m #[Value.ref b] below meth c H locs (cells + 1) (slots + 6) (lw_Z below #[Value.ref b] s) (F0 m 1440 ls []))
    {H : Heap} {locs : List Loc} {ls : Array Slot} (hW : LW dC dI cI cL cII cR cZ cIII cO h0 μ ν f H) (hS : va_S (lA h0) s.heap H locs) (hl : lv_has ls 7 [(4, .int (iZ i)), (0, .ref b), (1, .ref h0), (2, .ref (h0 + 233)), (3, .ref (h0 + 6558))]) : W p l e room_1 s m #[Value.ref b] below meth c H locs cells slots (lw_Z below #[Value.ref b] s) (F0 m 1346 ls []) := by
  obtain ⟨hfl, hx, hb, hml, hown, hts, hX, hbl, hsz0, hL9, hK, hKm, hKo, hM, hEx, hNc⟩ := C0
  obtain ⟨T, Ss, Wk, Bs, hT⟩ := hV
  have hT : LKt T Ss Wk Bs μ ν := hT
  have hT0 := hT
  have hbA : ¬ lA h0 b := Nat.not_le.mpr (by omega)
  obtain ⟨a1, e1, ha1⟩ := iZ_ex (xs (iZ (i + 1)).toNatClampNeg)
  refine lv_aload_n hx hb dL_law_1346 rfl (lv_at hl 2 rfl) ?_
  refine lv_aload_n hx hb dL_law_1347 rfl (lv_at hl 1 rfl) ?_
  refine lv_iload hx hb dL_law_1348 (lv_at hl 0 rfl) ?_
  refine lv_iconst (v := iZ 1) hx hb dL_law_1350 rfl ?_
  refine lv_iadd hx hb dL_law_1351 ?_
  refine lv_topi (fun x9 ex9 => ?_)
  obtain rfl : x9 = iZ (i + 1) := ex9.trans (iZ_add _ _)
  refine va_sld hx hb hX hbl hbA hS (iZ_in (by omega) (by omega) (by omega)) dL_law_1352 ?_
  refine lv_topi (fun x9 ex9 => ?_)
  obtain rfl : x9 = iZ a1 := ex9.trans e1
  refine lv_aload_n hx hb dL_law_1353 rfl (lv_at hl 4 rfl) ?_
  refine va_calli (vx_runSW (hh := [(0, 9, 12, 20)]) (As := [.ref h0, .int (iZ a1), .ref (h0 + 6558)]) (rest := []) ⟨hx, hb, hml, hown, hts⟩ (w_users l hfl dC dI cI cL cII cR cO h0 (h0 + 6558) H.size μ f a1 T (hT.1.1.1.1) ha1 (by omega)) (vx_cwSW 3 hts (gW_G k1142 k1143 k0 k1144) rfl rfl rfl (by decide +kernel) ⟨Nat.le_of_ble_eq_true rfl, Nat.le_of_ble_eq_true rfl⟩) ⟨fun a U g mk q => by obtain ⟨q0, q1, qP, qO, qK, qKo, qM, qE, qN⟩ := q; exact ⟨q0, q1, qP, qO, va_K.moved (u := U) (U := U.calling g mk a) (Vm.Alike.refl U.vm) qK, va_K.moved (u := U) (U := U.calling g mk a) (Vm.Alike.refl U.vm) qKo, qM, xX_call qE, qN⟩, fun U hU hW9 => ⟨rfl, by rw [hU], by rw [hU]; exact hW.1, by rw [hU]; exact hW.2.2, va_K.moved hW9.alike hK, va_K.moved hW9.alike hKo, xM_warm hW9 hM, xX_at hEx hS (fun q h => lA_w hS hsz0 (by omega) q h) hU hW9, xNC_warm hW9 hNc⟩⟩ rfl rfl hl.1 rfl (lv_room (Nat.le_of_ble_eq_true rfl)) dL_law_1354 ⟨by show cells + 1 ≤ 601024; omega, by show slots + 6 ≤ 7293034; omega⟩) hS (fun q _ h => lA_w hS hsz0 (by omega) q h) (lA_w hS hsz0 (by omega)) (fun r1 u9 t9 H1 locs ht9 hvm9 hw9 hB9 hz9 hk9 hS => ?_)
  obtain ⟨hP9, hO9⟩ := hB9
  rw [ht9] at hP9 hO9
  have hW := LW_w hW hk9 hP9 hO9
  have hT := LKt_c hT hw9
  obtain ⟨u1, f1⟩ := u9
  try dsimp only at hW hT
  clear hk9 hP9 hO9
  generalize H1 = H at hW hS ⊢
  refine lv_istore (lv' := [(5, .int r1), (4, .int (iZ i)), (0, .ref b), (1, .ref h0), (2, .ref (h0 + 233)), (3, .ref (h0 + 6558))]) hx hb dL_law_1357 hl (by decide) rfl (fun ls hl => ?_)
  refine lv_aload_n hx hb dL_law_1359 rfl (lv_at hl 4 rfl) ?_
  refine lv_aload_n hx hb dL_law_1360 rfl (lv_at hl 2 rfl) ?_
  refine lv_iload hx hb dL_law_1361 (lv_at hl 1 rfl) ?_
  refine lv_iconst (v := iZ 1) hx hb dL_law_1363 rfl ?_
  refine lv_iadd hx hb dL_law_1364 ?_
  refine lv_topi (fun x9 ex9 => ?_)
  obtain rfl : x9 = iZ (i + 1) := ex9.trans (iZ_add _ _)
  refine va_sld hx hb hX hbl hbA hS (iZ_in (by omega) (by omega) (by omega)) dL_law_1365 ?_
  refine lv_topi (fun x9 ex9 => ?_)
  obtain rfl : x9 = iZ a1 := ex9.trans e1
  refine va_calli (va_runV (As := [.int (iZ a1)]) (rest := []) ⟨hx, hb, hml, hown, hts⟩ (m_users l dC dI cI cZ cII cIII (h0 + 233) H.size ν a1 hT.1.1.1.2.1.1 ha1) (cwV 1 hts (gV_G k1683 k1684 k1685 k13 k1686) rfl rfl rfl (by decide +kernel) ⟨Nat.le_of_ble_eq_true rfl, Nat.le_of_ble_eq_true rfl⟩) ⟨fun a U g mk q => by obtain ⟨q0, q1, qP, qK⟩ := q; exact ⟨q0, q1, qP, va_K.moved (u := U) (U := U.calling g mk a) (Vm.Alike.refl U.vm) qK⟩, va_recv hKm hW.2.1 (ci := 10) (q0 := 0) rfl ((fw_get (by decide)).trans (by rw [mE_obj])), fun U hU hW9 => ⟨rfl, by rw [hU], by rw [hU]; exact hW.2.1, va_K.moved hW9.alike hKm⟩⟩ rfl rfl hl.1 rfl (lv_room (Nat.le_of_ble_eq_true rfl)) dL_law_1366 ⟨by show cells + 1 + 0 ≤ 601024; omega, by show slots + 6 + 0 ≤ 7293034; omega⟩) hS (fun q _ h => lA_f hS hsz0 (by omega) q h) (lA_f hS hsz0 (by omega)) (fun r2 u9 t9 H1 locs ht9 hvm9 hw9 hB9 hz9 hk9 hS => ?_)
  obtain ⟨hP9, -⟩ := hB9
  rw [ht9] at hP9
  have hW := LW_m hW hk9 hP9
  obtain ⟨v1, q2⟩ := u9
  obtain ⟨er9, hw9⟩ := hw9
  have er2 : r2 = iZ q2 := er9
  subst er2
  have hT := LKt_ps hT hw9
  try dsimp only at hW hT
  clear hk9 hP9
  generalize H1 = H at hW hS ⊢
  refine lv_istore (lv' := [(6, .int (iZ q2)), (5, .int r1), (4, .int (iZ i)), (0, .ref b), (1, .ref h0), (2, .ref (h0 + 233)), (3, .ref (h0 + 6558))]) hx hb dL_law_1369 hl (by decide) rfl (fun ls hl => ?_)
  refine lv_goto (tgt := 1440) hx hb dL_law_1371 (by decide) ?_
  have hV9 : LK9 u1 v1 := ⟨T, Ss, Wk, Bs, hT⟩
  refine W.widen (k := cells + 1) (n := slots + 6) (by omega) (by omega) ?_
  exact hend _ _ _ H locs ls hV9 hW hS (lv_sub hl [2, 3, 4, 5, 6] rfl)
set_option maxHeartbeats 4000000 in
set_option maxRecDepth 100000 in
theorem lc_greatest {p : Program} {l : Launch} {e : Env} {s : State} {m : MethodId} {below : List Frame} {meth : Method} {c : Code} {dC : Nat → ClassId} {dI : Nat → Nat → Nat} {cI cL cII cR cZ cIII cO : ClassId} {h0 b L : Nat} {xs : Nat → Int32} (C0 : lx_C p l s m c b L xs dC dI cI cL cII cR cZ cIII cO h0) {i : Int} (hi : 0 ≤ i ∧ i + 6 ≤ L) {μ ν : va_M} {f : Nat → Int64} (hV : LK9 μ ν) {cells slots : Nat} (hroom : cells + 1 ≤ 601024 ∧ slots + 6 ≤ 7293034)
    (hend : ∀ (μ ν : va_M) (f : Nat → Int64) (H : Heap) (locs : List Loc) (ls : Array Slot), LK9 μ ν → LW dC dI cI cL cII cR cZ cIII cO h0 μ ν f H → va_S (lA h0) s.heap H locs → lv_has ls 7 [(4, .int (iZ i)), (0, .ref b), (1, .ref h0), (2, .ref (h0 + 233)), (3, .ref (h0 + 6558))] → W p l e room_1 s m #[Value.ref b] below meth c H locs (cells + 1) (slots + 6) (lw_Z below #[Value.ref b] s) (F0 m 1440 ls []))
    {H : Heap} {locs : List Loc} {ls : Array Slot} (hW : LW dC dI cI cL cII cR cZ cIII cO h0 μ ν f H) (hS : va_S (lA h0) s.heap H locs) (hl : lv_has ls 7 [(4, .int (iZ i)), (0, .ref b), (1, .ref h0), (2, .ref (h0 + 233)), (3, .ref (h0 + 6558))]) : W p l e room_1 s m #[Value.ref b] below meth c H locs cells slots (lw_Z below #[Value.ref b] s) (F0 m 1374 ls []) := by
  obtain ⟨hfl, hx, hb, hml, hown, hts, hX, hbl, hsz0, hL9, hK, hKm, hKo, hM, hEx, hNc⟩ := C0
  obtain ⟨T, Ss, Wk, Bs, hT⟩ := hV
  have hT : LKt T Ss Wk Bs μ ν := hT
  have hT0 := hT
  have hbA : ¬ lA h0 b := Nat.not_le.mpr (by omega)
  obtain ⟨a1, e1, ha1⟩ := iZ_ex (xs (iZ (i + 1)).toNatClampNeg)
  refine lv_aload_n hx hb dL_law_1374 rfl (lv_at hl 2 rfl) ?_
  refine lv_aload_n hx hb dL_law_1375 rfl (lv_at hl 1 rfl) ?_
  refine lv_iload hx hb dL_law_1376 (lv_at hl 0 rfl) ?_
  refine lv_iconst (v := iZ 1) hx hb dL_law_1378 rfl ?_
  refine lv_iadd hx hb dL_law_1379 ?_
  refine lv_topi (fun x9 ex9 => ?_)
  obtain rfl : x9 = iZ (i + 1) := ex9.trans (iZ_add _ _)
  refine va_sld hx hb hX hbl hbA hS (iZ_in (by omega) (by omega) (by omega)) dL_law_1380 ?_
  refine lv_topi (fun x9 ex9 => ?_)
  obtain rfl : x9 = iZ a1 := ex9.trans e1
  refine lv_aload_n hx hb dL_law_1381 rfl (lv_at hl 4 rfl) ?_
  refine va_calli (vx_runSW (hh := [(0, 9, 12, 20)]) (As := [.ref h0, .int (iZ a1), .ref (h0 + 6558)]) (rest := []) ⟨hx, hb, hml, hown, hts⟩ (w_greatest l hfl dC dI cI cL cII cR cO h0 (h0 + 6558) H.size μ f a1 T (hT.1.1.1.1) ha1 (by omega)) (vx_cwSW 3 hts (gW_G k1149 k1150 k0 k1151) rfl rfl rfl (by decide +kernel) ⟨Nat.le_of_ble_eq_true rfl, Nat.le_of_ble_eq_true rfl⟩) ⟨fun a U g mk q => by obtain ⟨q0, q1, qP, qO, qK, qKo, qM, qE, qN⟩ := q; exact ⟨q0, q1, qP, qO, va_K.moved (u := U) (U := U.calling g mk a) (Vm.Alike.refl U.vm) qK, va_K.moved (u := U) (U := U.calling g mk a) (Vm.Alike.refl U.vm) qKo, qM, xX_call qE, qN⟩, fun U hU hW9 => ⟨rfl, by rw [hU], by rw [hU]; exact hW.1, by rw [hU]; exact hW.2.2, va_K.moved hW9.alike hK, va_K.moved hW9.alike hKo, xM_warm hW9 hM, xX_at hEx hS (fun q h => lA_w hS hsz0 (by omega) q h) hU hW9, xNC_warm hW9 hNc⟩⟩ rfl rfl hl.1 rfl (lv_room (Nat.le_of_ble_eq_true rfl)) dL_law_1382 ⟨by show cells + 1 ≤ 601024; omega, by show slots + 6 ≤ 7293034; omega⟩) hS (fun q _ h => lA_w hS hsz0 (by omega) q h) (lA_w hS hsz0 (by omega)) (fun r1 u9 t9 H1 locs ht9 hvm9 hw9 hB9 hz9 hk9 hS => ?_)
  obtain ⟨hP9, hO9⟩ := hB9
  rw [ht9] at hP9 hO9
  have hW := LW_w hW hk9 hP9 hO9
  have hT := LKt_c hT hw9
  obtain ⟨u1, f1⟩ := u9
  try dsimp only at hW hT
  clear hk9 hP9 hO9
  generalize H1 = H at hW hS ⊢
  refine lv_istore (lv' := [(5, .int r1), (4, .int (iZ i)), (0, .ref b), (1, .ref h0), (2, .ref (h0 + 233)), (3, .ref (h0 + 6558))]) hx hb dL_law_1385 hl (by decide) rfl (fun ls hl => ?_)
  refine lv_aload_n hx hb dL_law_1387 rfl (lv_at hl 4 rfl) ?_
  refine lv_aload_n hx hb dL_law_1388 rfl (lv_at hl 2 rfl) ?_
  refine lv_iload hx hb dL_law_1389 (lv_at hl 1 rfl) ?_
  refine lv_iconst (v := iZ 1) hx hb dL_law_1391 rfl ?_
  refine lv_iadd hx hb dL_law_1392 ?_
  refine lv_topi (fun x9 ex9 => ?_)
  obtain rfl : x9 = iZ (i + 1) := ex9.trans (iZ_add _ _)
  refine va_sld hx hb hX hbl hbA hS (iZ_in (by omega) (by omega) (by omega)) dL_law_1393 ?_
  refine lv_topi (fun x9 ex9 => ?_)
  obtain rfl : x9 = iZ a1 := ex9.trans e1
  refine va_calli (va_runV (As := [.int (iZ a1)]) (rest := []) ⟨hx, hb, hml, hown, hts⟩ (m_greatest l dC dI cI cZ cII cIII (h0 + 233) H.size ν a1 hT.1.1.1.2.1.1 ha1) (cwV 1 hts (gV_G k1687 k1688 k1689 k13 k1690) rfl rfl rfl (by decide +kernel) ⟨Nat.le_of_ble_eq_true rfl, Nat.le_of_ble_eq_true rfl⟩) ⟨fun a U g mk q => by obtain ⟨q0, q1, qP, qK⟩ := q; exact ⟨q0, q1, qP, va_K.moved (u := U) (U := U.calling g mk a) (Vm.Alike.refl U.vm) qK⟩, va_recv hKm hW.2.1 (ci := 10) (q0 := 0) rfl ((fw_get (by decide)).trans (by rw [mE_obj])), fun U hU hW9 => ⟨rfl, by rw [hU], by rw [hU]; exact hW.2.1, va_K.moved hW9.alike hKm⟩⟩ rfl rfl hl.1 rfl (lv_room (Nat.le_of_ble_eq_true rfl)) dL_law_1394 ⟨by show cells + 1 + 0 ≤ 601024; omega, by show slots + 6 + 0 ≤ 7293034; omega⟩) hS (fun q _ h => lA_f hS hsz0 (by omega) q h) (lA_f hS hsz0 (by omega)) (fun r2 u9 t9 H1 locs ht9 hvm9 hw9 hB9 hz9 hk9 hS => ?_)
  obtain ⟨hP9, -⟩ := hB9
  rw [ht9] at hP9
  have hW := LW_m hW hk9 hP9
  obtain ⟨v1, q2⟩ := u9
  obtain ⟨er9, hw9⟩ := hw9
  have er2 : r2 = iZ q2 := er9
  subst er2
  have hT := LKt_ps hT hw9
  try dsimp only at hW hT
  clear hk9 hP9
  generalize H1 = H at hW hS ⊢
  refine lv_istore (lv' := [(6, .int (iZ q2)), (5, .int r1), (4, .int (iZ i)), (0, .ref b), (1, .ref h0), (2, .ref (h0 + 233)), (3, .ref (h0 + 6558))]) hx hb dL_law_1397 hl (by decide) rfl (fun ls hl => ?_)
  refine lv_goto (tgt := 1440) hx hb dL_law_1399 (by decide) ?_
  have hV9 : LK9 u1 v1 := ⟨T, Ss, Wk, Bs, hT⟩
  refine W.widen (k := cells + 1) (n := slots + 6) (by omega) (by omega) ?_
  exact hend _ _ _ H locs ls hV9 hW hS (lv_sub hl [2, 3, 4, 5, 6] rfl)
set_option maxHeartbeats 4000000 in
set_option maxRecDepth 100000 in
theorem lc_fitting {p : Program} {l : Launch} {e : Env} {s : State} {m : MethodId} {below : List Frame} {meth : Method} {c : Code} {dC : Nat → ClassId} {dI : Nat → Nat → Nat} {cI cL cII cR cZ cIII cO : ClassId} {h0 b L : Nat} {xs : Nat → Int32} (C0 : lx_C p l s m c b L xs dC dI cI cL cII cR cZ cIII cO h0) {i : Int} (hi : 0 ≤ i ∧ i + 6 ≤ L) {μ ν : va_M} {f : Nat → Int64} (hV : LK9 μ ν) {cells slots : Nat} (hroom : cells + 1 ≤ 601024 ∧ slots + 6 ≤ 7293034)
    (hend : ∀ (μ ν : va_M) (f : Nat → Int64) (H : Heap) (locs : List Loc) (ls : Array Slot), LK9 μ ν → LW dC dI cI cL cII cR cZ cIII cO h0 μ ν f H → va_S (lA h0) s.heap H locs → lv_has ls 7 [(4, .int (iZ i)), (0, .ref b), (1, .ref h0), (2, .ref (h0 + 233)), (3, .ref (h0 + 6558))] → W p l e room_1 s m #[Value.ref b] below meth c H locs (cells + 1) (slots + 6) (lw_Z below #[Value.ref b] s) (F0 m 1440 ls []))
    {H : Heap} {locs : List Loc} {ls : Array Slot} (hW : LW dC dI cI cL cII cR cZ cIII cO h0 μ ν f H) (hS : va_S (lA h0) s.heap H locs) (hl : lv_has ls 7 [(4, .int (iZ i)), (0, .ref b), (1, .ref h0), (2, .ref (h0 + 233)), (3, .ref (h0 + 6558))]) : W p l e room_1 s m #[Value.ref b] below meth c H locs cells slots (lw_Z below #[Value.ref b] s) (F0 m 1402 ls []) := by
  obtain ⟨hfl, hx, hb, hml, hown, hts, hX, hbl, hsz0, hL9, hK, hKm, hKo, hM, hEx, hNc⟩ := C0
  obtain ⟨T, Ss, Wk, Bs, hT⟩ := hV
  have hT : LKt T Ss Wk Bs μ ν := hT
  have hT0 := hT
  have hbA : ¬ lA h0 b := Nat.not_le.mpr (by omega)
  refine lv_aload_n hx hb dL_law_1402 rfl (lv_at hl 2 rfl) ?_
  refine va_calli (va_runV (As := []) (rest := []) ⟨hx, hb, hml, hown, hts⟩ (q_fitting l dC dI cI cL cII cR h0 H.size μ  T (hT.1.1.1.1) ) (cwV 0 hts (gV_G k531 k532 k533 k1 k534) rfl rfl rfl (by decide +kernel) ⟨Nat.le_of_ble_eq_true rfl, Nat.le_of_ble_eq_true rfl⟩) ⟨fun a U g mk q => by obtain ⟨q0, q1, qP, qK, qM⟩ := q; exact ⟨q0, q1, qP, va_K.moved (u := U) (U := U.calling g mk a) (Vm.Alike.refl U.vm) qK, qM⟩, va_recv hK hW.1 (ci := 9) (q0 := 0) rfl ((fw_get (by decide)).trans (by rw [sE_0]; rfl)), fun U hU hW9 => ⟨rfl, by rw [hU], by rw [hU]; exact hW.1, va_K.moved hW9.alike hK, xM_warm hW9 hM⟩⟩ rfl rfl hl.1 rfl (lv_room (Nat.le_of_ble_eq_true rfl)) dL_law_1403 ⟨by show cells + 0 ≤ 601024; omega, by show slots + 0 ≤ 7293034; omega⟩) hS (fun q _ h => lA_f hS hsz0 (Nat.le_refl _) q h) (lA_f hS hsz0 (Nat.le_refl _)) (fun r1 u9 t9 H1 locs ht9 hvm9 hw9 hB9 hz9 hk9 hS => ?_)
  obtain ⟨hP9, -⟩ := hB9
  rw [ht9] at hP9
  have hW := LW_c hW hk9 hP9
  obtain ⟨u1, q1⟩ := u9
  obtain ⟨er9, hw9⟩ := hw9
  have er1 : r1 = iZ q1 := er9
  subst er1
  have hT := LKt_c hT hw9
  try dsimp only at hW hT
  clear hk9 hP9
  generalize H1 = H at hW hS ⊢
  refine lv_pop hx hb dL_law_1406 rfl ?_
  refine lv_aload_n hx hb dL_law_1407 rfl (lv_at hl 3 rfl) ?_
  refine va_calli (va_runV (As := []) (rest := []) ⟨hx, hb, hml, hown, hts⟩ (m_fitting l dC dI cI cZ cII cIII (h0 + 233) H.size ν hT.1.1.1.2.1.1) (cwV 0 hts (gV_G k1643 k1644 k1645 k13 k1646) rfl rfl rfl (by decide +kernel) ⟨Nat.le_of_ble_eq_true rfl, Nat.le_of_ble_eq_true rfl⟩) ⟨fun a U g mk q => by obtain ⟨q0, q1, qP, qK⟩ := q; exact ⟨q0, q1, qP, va_K.moved (u := U) (U := U.calling g mk a) (Vm.Alike.refl U.vm) qK⟩, va_recv hKm hW.2.1 (ci := 10) (q0 := 0) rfl ((fw_get (by decide)).trans (by rw [mE_obj])), fun U hU hW9 => ⟨rfl, by rw [hU], by rw [hU]; exact hW.2.1, va_K.moved hW9.alike hKm⟩⟩ rfl rfl hl.1 rfl (lv_room (Nat.le_of_ble_eq_true rfl)) dL_law_1408 ⟨by show cells + 0 ≤ 601024; omega, by show slots + 0 ≤ 7293034; omega⟩) hS (fun q _ h => lA_f hS hsz0 (by omega) q h) (lA_f hS hsz0 (by omega)) (fun r2 u9 t9 H1 locs ht9 hvm9 hw9 hB9 hz9 hk9 hS => ?_)
  obtain ⟨hP9, -⟩ := hB9
  rw [ht9] at hP9
  have hW := LW_m hW hk9 hP9
  obtain ⟨v1, q2⟩ := u9
  obtain ⟨er9, hw9⟩ := hw9
  have er2 : r2 = iZ q2 := er9
  subst er2
  have hT := LKt_ps hT hw9
  try dsimp only at hW hT
  clear hk9 hP9
  generalize H1 = H at hW hS ⊢
  refine lv_pop hx hb dL_law_1411 rfl ?_
  refine lv_goto (tgt := 1440) hx hb dL_law_1412 (by decide) ?_
  have hV9 : LK9 u1 v1 := ⟨T, Ss, Wk, Bs, hT⟩
  refine W.widen (k := cells + 1) (n := slots + 6) (by omega) (by omega) ?_
  exact hend _ _ _ H locs ls hV9 hW hS (lv_sub hl [0, 1, 2, 3, 4] rfl)
set_option maxHeartbeats 4000000 in
set_option maxRecDepth 100000 in
theorem lc_status {p : Program} {l : Launch} {e : Env} {s : State} {m : MethodId} {below : List Frame} {meth : Method} {c : Code} {dC : Nat → ClassId} {dI : Nat → Nat → Nat} {cI cL cII cR cZ cIII cO : ClassId} {h0 b L : Nat} {xs : Nat → Int32} (C0 : lx_C p l s m c b L xs dC dI cI cL cII cR cZ cIII cO h0) {i : Int} (hi : 0 ≤ i ∧ i + 6 ≤ L) {μ ν : va_M} {f : Nat → Int64} (hV : LK9 μ ν) {cells slots : Nat} (hroom : cells + 1 ≤ 601024 ∧ slots + 6 ≤ 7293034)
    (hend : ∀ (μ ν : va_M) (f : Nat → Int64) (H : Heap) (locs : List Loc) (ls : Array Slot), LK9 μ ν → LW dC dI cI cL cII cR cZ cIII cO h0 μ ν f H → va_S (lA h0) s.heap H locs → lv_has ls 7 [(4, .int (iZ i)), (0, .ref b), (1, .ref h0), (2, .ref (h0 + 233)), (3, .ref (h0 + 6558))] → W p l e room_1 s m #[Value.ref b] below meth c H locs (cells + 1) (slots + 6) (lw_Z below #[Value.ref b] s) (F0 m 1440 ls []))
    {H : Heap} {locs : List Loc} {ls : Array Slot} (hW : LW dC dI cI cL cII cR cZ cIII cO h0 μ ν f H) (hS : va_S (lA h0) s.heap H locs) (hl : lv_has ls 7 [(4, .int (iZ i)), (0, .ref b), (1, .ref h0), (2, .ref (h0 + 233)), (3, .ref (h0 + 6558))]) : W p l e room_1 s m #[Value.ref b] below meth c H locs cells slots (lw_Z below #[Value.ref b] s) (F0 m 1415 ls []) := by
  obtain ⟨hfl, hx, hb, hml, hown, hts, hX, hbl, hsz0, hL9, hK, hKm, hKo, hM, hEx, hNc⟩ := C0
  obtain ⟨T, Ss, Wk, Bs, hT⟩ := hV
  have hT : LKt T Ss Wk Bs μ ν := hT
  have hT0 := hT
  have hbA : ¬ lA h0 b := Nat.not_le.mpr (by omega)
  obtain ⟨a1, e1, ha1⟩ := iZ_ex (xs (iZ (i + 1)).toNatClampNeg)
  refine lv_aload_n hx hb dL_law_1415 rfl (lv_at hl 2 rfl) ?_
  refine lv_aload_n hx hb dL_law_1416 rfl (lv_at hl 1 rfl) ?_
  refine lv_iload hx hb dL_law_1417 (lv_at hl 0 rfl) ?_
  refine lv_iconst (v := iZ 1) hx hb dL_law_1419 rfl ?_
  refine lv_iadd hx hb dL_law_1420 ?_
  refine lv_topi (fun x9 ex9 => ?_)
  obtain rfl : x9 = iZ (i + 1) := ex9.trans (iZ_add _ _)
  refine va_sld hx hb hX hbl hbA hS (iZ_in (by omega) (by omega) (by omega)) dL_law_1421 ?_
  refine lv_topi (fun x9 ex9 => ?_)
  obtain rfl : x9 = iZ a1 := ex9.trans e1
  refine va_calli (va_runV (As := [.int (iZ a1)]) (rest := []) ⟨hx, hb, hml, hown, hts⟩ (q_status l dC dI cI cL cII cR h0 H.size μ a1 T (hT.1.1.1.1) ha1) (cwV 1 hts (gV_G k583 k584 k585 k1 k586) rfl rfl rfl (by decide +kernel) ⟨Nat.le_of_ble_eq_true rfl, Nat.le_of_ble_eq_true rfl⟩) ⟨fun a U g mk q => by obtain ⟨q0, q1, qP, qK, qM⟩ := q; exact ⟨q0, q1, qP, va_K.moved (u := U) (U := U.calling g mk a) (Vm.Alike.refl U.vm) qK, qM⟩, va_recv hK hW.1 (ci := 9) (q0 := 0) rfl ((fw_get (by decide)).trans (by rw [sE_0]; rfl)), fun U hU hW9 => ⟨rfl, by rw [hU], by rw [hU]; exact hW.1, va_K.moved hW9.alike hK, xM_warm hW9 hM⟩⟩ rfl rfl hl.1 rfl (lv_room (Nat.le_of_ble_eq_true rfl)) dL_law_1422 ⟨by show cells + 0 ≤ 601024; omega, by show slots + 0 ≤ 7293034; omega⟩) hS (fun q _ h => lA_f hS hsz0 (Nat.le_refl _) q h) (lA_f hS hsz0 (Nat.le_refl _)) (fun r1 u9 t9 H1 locs ht9 hvm9 hw9 hB9 hz9 hk9 hS => ?_)
  obtain ⟨hP9, -⟩ := hB9
  rw [ht9] at hP9
  have hW := LW_c hW hk9 hP9
  obtain ⟨u1, q1⟩ := u9
  obtain ⟨er9, hw9⟩ := hw9
  have er1 : r1 = iZ q1 := er9
  subst er1
  have hT := LKt_c hT hw9
  try dsimp only at hW hT
  clear hk9 hP9
  generalize H1 = H at hW hS ⊢
  refine lv_pop hx hb dL_law_1425 rfl ?_
  refine lv_aload_n hx hb dL_law_1426 rfl (lv_at hl 3 rfl) ?_
  refine lv_aload_n hx hb dL_law_1427 rfl (lv_at hl 1 rfl) ?_
  refine lv_iload hx hb dL_law_1428 (lv_at hl 0 rfl) ?_
  refine lv_iconst (v := iZ 1) hx hb dL_law_1430 rfl ?_
  refine lv_iadd hx hb dL_law_1431 ?_
  refine lv_topi (fun x9 ex9 => ?_)
  obtain rfl : x9 = iZ (i + 1) := ex9.trans (iZ_add _ _)
  refine va_sld hx hb hX hbl hbA hS (iZ_in (by omega) (by omega) (by omega)) dL_law_1432 ?_
  refine lv_topi (fun x9 ex9 => ?_)
  obtain rfl : x9 = iZ a1 := ex9.trans e1
  refine va_calli (va_runV (As := [.int (iZ a1)]) (rest := []) ⟨hx, hb, hml, hown, hts⟩ (m_status l dC dI cI cZ cII cIII (h0 + 233) H.size ν a1 ha1) (cwV 1 hts (gV_G k1759 k1760 k1761 k13 k1762) rfl rfl rfl (by decide +kernel) ⟨Nat.le_of_ble_eq_true rfl, Nat.le_of_ble_eq_true rfl⟩) ⟨fun a U g mk q => by obtain ⟨q0, q1, qP, qK⟩ := q; exact ⟨q0, q1, qP, va_K.moved (u := U) (U := U.calling g mk a) (Vm.Alike.refl U.vm) qK⟩, va_recv hKm hW.2.1 (ci := 10) (q0 := 0) rfl ((fw_get (by decide)).trans (by rw [mE_obj])), fun U hU hW9 => ⟨rfl, by rw [hU], by rw [hU]; exact hW.2.1, va_K.moved hW9.alike hKm⟩⟩ rfl rfl hl.1 rfl (lv_room (Nat.le_of_ble_eq_true rfl)) dL_law_1433 ⟨by show cells + 0 ≤ 601024; omega, by show slots + 0 ≤ 7293034; omega⟩) hS (fun q _ h => lA_f hS hsz0 (by omega) q h) (lA_f hS hsz0 (by omega)) (fun r2 u9 t9 H1 locs ht9 hvm9 hw9 hB9 hz9 hk9 hS => ?_)
  obtain ⟨hP9, -⟩ := hB9
  rw [ht9] at hP9
  have hW := LW_m hW hk9 hP9
  obtain ⟨v1, q2⟩ := u9
  obtain ⟨er9, hw9⟩ := hw9
  have er2 : r2 = iZ q2 := er9
  subst er2
  have hT := LKt_uz (r := 0) hT hw9
  try dsimp only at hW hT
  clear hk9 hP9
  generalize H1 = H at hW hS ⊢
  refine lv_pop hx hb dL_law_1436 rfl ?_
  refine lv_goto (tgt := 1440) hx hb dL_law_1437 (by decide) ?_
  have hV9 : LK9 u1 v1 := ⟨T, Ss, Wk, Bs, hT⟩
  refine W.widen (k := cells + 1) (n := slots + 6) (by omega) (by omega) ?_
  exact hend _ _ _ H locs ls hV9 hW hS (lv_sub hl [0, 1, 2, 3, 4] rfl)

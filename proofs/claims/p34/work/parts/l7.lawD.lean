theorem k531 : (Cond.methodLink "PageSkeletonLaw" (238 : Nat) ({ cls := "PageSkeleton", name := "fitting", desc := "()I" } : MethodName)) ∈ wsG := wsG_at 531 (by decide +kernel) (by decide +kernel)
theorem k532 : (Cond.instanceMethod ({ cls := "PageSkeleton", name := "fitting", desc := "()I" } : MethodName)) ∈ wsG := wsG_at 532 (by decide +kernel) (by decide +kernel)
theorem k533 : (Cond.selects "PageSkeleton" ({ cls := "PageSkeleton", name := "fitting", desc := "()I" } : MethodName) ({ cls := "PageSkeleton", name := "fitting", desc := "()I" } : MethodName)) ∈ wsG := wsG_at 533 (by decide +kernel) (by decide +kernel)
theorem k534 : (Cond.code ({ cls := "PageSkeleton", name := "fitting", desc := "()I" } : MethodName) prog_1_method_38_code (3 : Nat) (Option.some FieldType.int)) ∈ wsG := wsG_at 534 (by decide +kernel) (by decide +kernel)
theorem k583 : (Cond.methodLink "PageSkeletonLaw" (242 : Nat) ({ cls := "PageSkeleton", name := "status", desc := "(I)I" } : MethodName)) ∈ wsG := wsG_at 583 (by decide +kernel) (by decide +kernel)
theorem k584 : (Cond.instanceMethod ({ cls := "PageSkeleton", name := "status", desc := "(I)I" } : MethodName)) ∈ wsG := wsG_at 584 (by decide +kernel) (by decide +kernel)
theorem k585 : (Cond.selects "PageSkeleton" ({ cls := "PageSkeleton", name := "status", desc := "(I)I" } : MethodName) ({ cls := "PageSkeleton", name := "status", desc := "(I)I" } : MethodName)) ∈ wsG := wsG_at 585 (by decide +kernel) (by decide +kernel)
theorem k586 : (Cond.code ({ cls := "PageSkeleton", name := "status", desc := "(I)I" } : MethodName) prog_1_method_39_code (2 : Nat) (Option.some FieldType.int)) ∈ wsG := wsG_at 586 (by decide +kernel) (by decide +kernel)
theorem k1101 : (Cond.methodLink "PageSkeletonLaw" (214 : Nat) ({ cls := "PageSkeletonLaw", name := "cuts", desc := "(LPageSkeleton;I[J)I" } : MethodName)) ∈ wsG := wsG_at 1101 (by decide +kernel) (by decide +kernel)
theorem k1102 : (Cond.static ({ cls := "PageSkeletonLaw", name := "cuts", desc := "(LPageSkeleton;I[J)I" } : MethodName)) ∈ wsG := wsG_at 1102 (by decide +kernel) (by decide +kernel)
theorem k1103 : (Cond.codeWith ({ cls := "PageSkeletonLaw", name := "cuts", desc := "(LPageSkeleton;I[J)I" } : MethodName) method_26_code (4 : Nat) (Option.some FieldType.int) [((0 : Nat), (9 : Nat), (12 : Nat), (20 : Nat))]) ∈ wsG := wsG_at 1103 (by decide +kernel) (by decide +kernel)
theorem k1108 : (Cond.methodLink "PageSkeletonLaw" (217 : Nat) ({ cls := "PageSkeletonLaw", name := "derived", desc := "(LPageSkeleton;I[J)I" } : MethodName)) ∈ wsG := wsG_at 1108 (by decide +kernel) (by decide +kernel)
theorem k1109 : (Cond.static ({ cls := "PageSkeletonLaw", name := "derived", desc := "(LPageSkeleton;I[J)I" } : MethodName)) ∈ wsG := wsG_at 1109 (by decide +kernel) (by decide +kernel)
theorem k1110 : (Cond.codeWith ({ cls := "PageSkeletonLaw", name := "derived", desc := "(LPageSkeleton;I[J)I" } : MethodName) method_27_code (4 : Nat) (Option.some FieldType.int) [((0 : Nat), (9 : Nat), (12 : Nat), (13 : Nat))]) ∈ wsG := wsG_at 1110 (by decide +kernel) (by decide +kernel)
theorem k1115 : (Cond.methodLink "PageSkeletonLaw" (220 : Nat) ({ cls := "PageSkeletonLaw", name := "common", desc := "(LPageSkeleton;II[J)I" } : MethodName)) ∈ wsG := wsG_at 1115 (by decide +kernel) (by decide +kernel)
theorem k1116 : (Cond.static ({ cls := "PageSkeletonLaw", name := "common", desc := "(LPageSkeleton;II[J)I" } : MethodName)) ∈ wsG := wsG_at 1116 (by decide +kernel) (by decide +kernel)
theorem k1117 : (Cond.codeWith ({ cls := "PageSkeletonLaw", name := "common", desc := "(LPageSkeleton;II[J)I" } : MethodName) method_28_code (5 : Nat) (Option.some FieldType.int) [((0 : Nat), (10 : Nat), (13 : Nat), (20 : Nat))]) ∈ wsG := wsG_at 1117 (by decide +kernel) (by decide +kernel)
theorem k1128 : (Cond.methodLink "PageSkeletonLaw" (223 : Nat) ({ cls := "PageSkeletonLaw", name := "similar", desc := "(LPageSkeleton;II[J)I" } : MethodName)) ∈ wsG := wsG_at 1128 (by decide +kernel) (by decide +kernel)
theorem k1129 : (Cond.static ({ cls := "PageSkeletonLaw", name := "similar", desc := "(LPageSkeleton;II[J)I" } : MethodName)) ∈ wsG := wsG_at 1129 (by decide +kernel) (by decide +kernel)
theorem k1130 : (Cond.codeWith ({ cls := "PageSkeletonLaw", name := "similar", desc := "(LPageSkeleton;II[J)I" } : MethodName) method_29_code (5 : Nat) (Option.some FieldType.int) [((0 : Nat), (17 : Nat), (20 : Nat), (20 : Nat))]) ∈ wsG := wsG_at 1130 (by decide +kernel) (by decide +kernel)
theorem k1135 : (Cond.methodLink "PageSkeletonLaw" (229 : Nat) ({ cls := "PageSkeletonLaw", name := "step", desc := "(LPageSkeleton;III[J)I" } : MethodName)) ∈ wsG := wsG_at 1135 (by decide +kernel) (by decide +kernel)
theorem k1136 : (Cond.static ({ cls := "PageSkeletonLaw", name := "step", desc := "(LPageSkeleton;III[J)I" } : MethodName)) ∈ wsG := wsG_at 1136 (by decide +kernel) (by decide +kernel)
theorem k1137 : (Cond.codeWith ({ cls := "PageSkeletonLaw", name := "step", desc := "(LPageSkeleton;III[J)I" } : MethodName) method_30_code (6 : Nat) (Option.some FieldType.int) [((0 : Nat), (12 : Nat), (15 : Nat), (20 : Nat)), ((0 : Nat), (12 : Nat), (19 : Nat), (13 : Nat))]) ∈ wsG := wsG_at 1137 (by decide +kernel) (by decide +kernel)
theorem k1142 : (Cond.methodLink "PageSkeletonLaw" (232 : Nat) ({ cls := "PageSkeletonLaw", name := "users", desc := "(LPageSkeleton;I[J)I" } : MethodName)) ∈ wsG := wsG_at 1142 (by decide +kernel) (by decide +kernel)
theorem k1143 : (Cond.static ({ cls := "PageSkeletonLaw", name := "users", desc := "(LPageSkeleton;I[J)I" } : MethodName)) ∈ wsG := wsG_at 1143 (by decide +kernel) (by decide +kernel)
theorem k1144 : (Cond.codeWith ({ cls := "PageSkeletonLaw", name := "users", desc := "(LPageSkeleton;I[J)I" } : MethodName) method_31_code (4 : Nat) (Option.some FieldType.int) [((0 : Nat), (9 : Nat), (12 : Nat), (20 : Nat))]) ∈ wsG := wsG_at 1144 (by decide +kernel) (by decide +kernel)
theorem k1149 : (Cond.methodLink "PageSkeletonLaw" (235 : Nat) ({ cls := "PageSkeletonLaw", name := "greatest", desc := "(LPageSkeleton;I[J)I" } : MethodName)) ∈ wsG := wsG_at 1149 (by decide +kernel) (by decide +kernel)
theorem k1150 : (Cond.static ({ cls := "PageSkeletonLaw", name := "greatest", desc := "(LPageSkeleton;I[J)I" } : MethodName)) ∈ wsG := wsG_at 1150 (by decide +kernel) (by decide +kernel)
theorem k1151 : (Cond.codeWith ({ cls := "PageSkeletonLaw", name := "greatest", desc := "(LPageSkeleton;I[J)I" } : MethodName) method_32_code (4 : Nat) (Option.some FieldType.int) [((0 : Nat), (9 : Nat), (12 : Nat), (20 : Nat))]) ∈ wsG := wsG_at 1151 (by decide +kernel) (by decide +kernel)
theorem k1327 : (Cond.methodLink "PageSkeletonLaw" (226 : Nat) ({ cls := "PageSkeletonModel", name := "thrown", desc := "()I" } : MethodName)) ∈ wsG := wsG_at 1327 (by decide +kernel) (by decide +kernel)
theorem k1328 : (Cond.instanceMethod ({ cls := "PageSkeletonModel", name := "thrown", desc := "()I" } : MethodName)) ∈ wsG := wsG_at 1328 (by decide +kernel) (by decide +kernel)
theorem k1329 : (Cond.selects "PageSkeletonModel" ({ cls := "PageSkeletonModel", name := "thrown", desc := "()I" } : MethodName) ({ cls := "PageSkeletonModel", name := "thrown", desc := "()I" } : MethodName)) ∈ wsG := wsG_at 1329 (by decide +kernel) (by decide +kernel)
theorem k1330 : (Cond.code ({ cls := "PageSkeletonModel", name := "thrown", desc := "()I" } : MethodName) prog_12_method_2_code (1 : Nat) (Option.some FieldType.int)) ∈ wsG := wsG_at 1330 (by decide +kernel) (by decide +kernel)
theorem k1647 : (Cond.methodLink "PageSkeletonLaw" (241 : Nat) ({ cls := "PageSkeletonModel", name := "fitting", desc := "()I" } : MethodName)) ∈ wsG := wsG_at 1647 (by decide +kernel) (by decide +kernel)
theorem k1648 : (Cond.instanceMethod ({ cls := "PageSkeletonModel", name := "fitting", desc := "()I" } : MethodName)) ∈ wsG := wsG_at 1648 (by decide +kernel) (by decide +kernel)
theorem k1649 : (Cond.selects "PageSkeletonModel" ({ cls := "PageSkeletonModel", name := "fitting", desc := "()I" } : MethodName) ({ cls := "PageSkeletonModel", name := "fitting", desc := "()I" } : MethodName)) ∈ wsG := wsG_at 1649 (by decide +kernel) (by decide +kernel)
theorem k1650 : (Cond.code ({ cls := "PageSkeletonModel", name := "fitting", desc := "()I" } : MethodName) prog_12_method_83_code (3 : Nat) (Option.some FieldType.int)) ∈ wsG := wsG_at 1650 (by decide +kernel) (by decide +kernel)
theorem k1687 : (Cond.methodLink "PageSkeletonLaw" (234 : Nat) ({ cls := "PageSkeletonModel", name := "users", desc := "(I)I" } : MethodName)) ∈ wsG := wsG_at 1687 (by decide +kernel) (by decide +kernel)
theorem k1688 : (Cond.instanceMethod ({ cls := "PageSkeletonModel", name := "users", desc := "(I)I" } : MethodName)) ∈ wsG := wsG_at 1688 (by decide +kernel) (by decide +kernel)
theorem k1689 : (Cond.selects "PageSkeletonModel" ({ cls := "PageSkeletonModel", name := "users", desc := "(I)I" } : MethodName) ({ cls := "PageSkeletonModel", name := "users", desc := "(I)I" } : MethodName)) ∈ wsG := wsG_at 1689 (by decide +kernel) (by decide +kernel)
theorem k1690 : (Cond.code ({ cls := "PageSkeletonModel", name := "users", desc := "(I)I" } : MethodName) prog_12_method_93_code (4 : Nat) (Option.some FieldType.int)) ∈ wsG := wsG_at 1690 (by decide +kernel) (by decide +kernel)
theorem k1691 : (Cond.methodLink "PageSkeletonLaw" (237 : Nat) ({ cls := "PageSkeletonModel", name := "greatest", desc := "(I)I" } : MethodName)) ∈ wsG := wsG_at 1691 (by decide +kernel) (by decide +kernel)
theorem k1692 : (Cond.instanceMethod ({ cls := "PageSkeletonModel", name := "greatest", desc := "(I)I" } : MethodName)) ∈ wsG := wsG_at 1692 (by decide +kernel) (by decide +kernel)
theorem k1693 : (Cond.selects "PageSkeletonModel" ({ cls := "PageSkeletonModel", name := "greatest", desc := "(I)I" } : MethodName) ({ cls := "PageSkeletonModel", name := "greatest", desc := "(I)I" } : MethodName)) ∈ wsG := wsG_at 1693 (by decide +kernel) (by decide +kernel)
theorem k1694 : (Cond.code ({ cls := "PageSkeletonModel", name := "greatest", desc := "(I)I" } : MethodName) prog_12_method_94_code (4 : Nat) (Option.some FieldType.int)) ∈ wsG := wsG_at 1694 (by decide +kernel) (by decide +kernel)
theorem k1739 : (Cond.methodLink "PageSkeletonLaw" (216 : Nat) ({ cls := "PageSkeletonModel", name := "cuts", desc := "(I)I" } : MethodName)) ∈ wsG := wsG_at 1739 (by decide +kernel) (by decide +kernel)
theorem k1740 : (Cond.instanceMethod ({ cls := "PageSkeletonModel", name := "cuts", desc := "(I)I" } : MethodName)) ∈ wsG := wsG_at 1740 (by decide +kernel) (by decide +kernel)
theorem k1741 : (Cond.selects "PageSkeletonModel" ({ cls := "PageSkeletonModel", name := "cuts", desc := "(I)I" } : MethodName) ({ cls := "PageSkeletonModel", name := "cuts", desc := "(I)I" } : MethodName)) ∈ wsG := wsG_at 1741 (by decide +kernel) (by decide +kernel)
theorem k1742 : (Cond.code ({ cls := "PageSkeletonModel", name := "cuts", desc := "(I)I" } : MethodName) prog_12_method_107_code (8 : Nat) (Option.some FieldType.int)) ∈ wsG := wsG_at 1742 (by decide +kernel) (by decide +kernel)
theorem k1747 : (Cond.methodLink "PageSkeletonLaw" (219 : Nat) ({ cls := "PageSkeletonModel", name := "derived", desc := "(I)I" } : MethodName)) ∈ wsG := wsG_at 1747 (by decide +kernel) (by decide +kernel)
theorem k1748 : (Cond.instanceMethod ({ cls := "PageSkeletonModel", name := "derived", desc := "(I)I" } : MethodName)) ∈ wsG := wsG_at 1748 (by decide +kernel) (by decide +kernel)
theorem k1749 : (Cond.selects "PageSkeletonModel" ({ cls := "PageSkeletonModel", name := "derived", desc := "(I)I" } : MethodName) ({ cls := "PageSkeletonModel", name := "derived", desc := "(I)I" } : MethodName)) ∈ wsG := wsG_at 1749 (by decide +kernel) (by decide +kernel)
theorem k1750 : (Cond.code ({ cls := "PageSkeletonModel", name := "derived", desc := "(I)I" } : MethodName) prog_12_method_108_code (6 : Nat) (Option.some FieldType.int)) ∈ wsG := wsG_at 1750 (by decide +kernel) (by decide +kernel)
theorem k1751 : (Cond.methodLink "PageSkeletonLaw" (222 : Nat) ({ cls := "PageSkeletonModel", name := "common", desc := "(II)I" } : MethodName)) ∈ wsG := wsG_at 1751 (by decide +kernel) (by decide +kernel)
theorem k1752 : (Cond.instanceMethod ({ cls := "PageSkeletonModel", name := "common", desc := "(II)I" } : MethodName)) ∈ wsG := wsG_at 1752 (by decide +kernel) (by decide +kernel)
theorem k1753 : (Cond.selects "PageSkeletonModel" ({ cls := "PageSkeletonModel", name := "common", desc := "(II)I" } : MethodName) ({ cls := "PageSkeletonModel", name := "common", desc := "(II)I" } : MethodName)) ∈ wsG := wsG_at 1753 (by decide +kernel) (by decide +kernel)
theorem k1754 : (Cond.code ({ cls := "PageSkeletonModel", name := "common", desc := "(II)I" } : MethodName) prog_12_method_109_code (6 : Nat) (Option.some FieldType.int)) ∈ wsG := wsG_at 1754 (by decide +kernel) (by decide +kernel)
theorem k1755 : (Cond.methodLink "PageSkeletonLaw" (225 : Nat) ({ cls := "PageSkeletonModel", name := "similar", desc := "(II)Z" } : MethodName)) ∈ wsG := wsG_at 1755 (by decide +kernel) (by decide +kernel)
theorem k1756 : (Cond.instanceMethod ({ cls := "PageSkeletonModel", name := "similar", desc := "(II)Z" } : MethodName)) ∈ wsG := wsG_at 1756 (by decide +kernel) (by decide +kernel)
theorem k1757 : (Cond.selects "PageSkeletonModel" ({ cls := "PageSkeletonModel", name := "similar", desc := "(II)Z" } : MethodName) ({ cls := "PageSkeletonModel", name := "similar", desc := "(II)Z" } : MethodName)) ∈ wsG := wsG_at 1757 (by decide +kernel) (by decide +kernel)
theorem k1758 : (Cond.code ({ cls := "PageSkeletonModel", name := "similar", desc := "(II)Z" } : MethodName) prog_12_method_110_code (7 : Nat) (Option.some FieldType.boolean)) ∈ wsG := wsG_at 1758 (by decide +kernel) (by decide +kernel)
theorem k1759 : (Cond.methodLink "PageSkeletonLaw" (231 : Nat) ({ cls := "PageSkeletonModel", name := "step", desc := "(III)I" } : MethodName)) ∈ wsG := wsG_at 1759 (by decide +kernel) (by decide +kernel)
theorem k1760 : (Cond.instanceMethod ({ cls := "PageSkeletonModel", name := "step", desc := "(III)I" } : MethodName)) ∈ wsG := wsG_at 1760 (by decide +kernel) (by decide +kernel)
theorem k1761 : (Cond.selects "PageSkeletonModel" ({ cls := "PageSkeletonModel", name := "step", desc := "(III)I" } : MethodName) ({ cls := "PageSkeletonModel", name := "step", desc := "(III)I" } : MethodName)) ∈ wsG := wsG_at 1761 (by decide +kernel) (by decide +kernel)
theorem k1762 : (Cond.code ({ cls := "PageSkeletonModel", name := "step", desc := "(III)I" } : MethodName) prog_12_method_111_code (4 : Nat) (Option.some FieldType.int)) ∈ wsG := wsG_at 1762 (by decide +kernel) (by decide +kernel)
theorem k1763 : (Cond.methodLink "PageSkeletonLaw" (245 : Nat) ({ cls := "PageSkeletonModel", name := "status", desc := "(I)I" } : MethodName)) ∈ wsG := wsG_at 1763 (by decide +kernel) (by decide +kernel)
theorem k1764 : (Cond.instanceMethod ({ cls := "PageSkeletonModel", name := "status", desc := "(I)I" } : MethodName)) ∈ wsG := wsG_at 1764 (by decide +kernel) (by decide +kernel)
theorem k1765 : (Cond.selects "PageSkeletonModel" ({ cls := "PageSkeletonModel", name := "status", desc := "(I)I" } : MethodName) ({ cls := "PageSkeletonModel", name := "status", desc := "(I)I" } : MethodName)) ∈ wsG := wsG_at 1765 (by decide +kernel) (by decide +kernel)
theorem k1766 : (Cond.code ({ cls := "PageSkeletonModel", name := "status", desc := "(I)I" } : MethodName) prog_12_method_112_code (2 : Nat) (Option.some FieldType.int)) ∈ wsG := wsG_at 1766 (by decide +kernel) (by decide +kernel)
theorem dL_law_1158 : decode cL_law 1158 = .ok (.aload_n 1, 1) := by decide +kernel
theorem dL_law_1159 : decode cL_law 1159 = .ok (.aload_n 0, 1) := by decide +kernel
theorem dL_law_1160 : decode cL_law 1160 = .ok (.iload 4, 2) := by decide +kernel
theorem dL_law_1162 : decode cL_law 1162 = .ok (.iconst 1, 1) := by decide +kernel
theorem dL_law_1163 : decode cL_law 1163 = .ok (.iadd, 1) := by decide +kernel
theorem dL_law_1164 : decode cL_law 1164 = .ok (.iaload, 1) := by decide +kernel
theorem dL_law_1165 : decode cL_law 1165 = .ok (.aload_n 3, 1) := by decide +kernel
theorem dL_law_1166 : decode cL_law 1166 = .ok (.invokestatic 214, 3) := by decide +kernel
theorem dL_law_1169 : decode cL_law 1169 = .ok (.istore 5, 2) := by decide +kernel
theorem dL_law_1171 : decode cL_law 1171 = .ok (.aload_n 2, 1) := by decide +kernel
theorem dL_law_1172 : decode cL_law 1172 = .ok (.aload_n 0, 1) := by decide +kernel
theorem dL_law_1173 : decode cL_law 1173 = .ok (.iload 4, 2) := by decide +kernel
theorem dL_law_1175 : decode cL_law 1175 = .ok (.iconst 1, 1) := by decide +kernel
theorem dL_law_1176 : decode cL_law 1176 = .ok (.iadd, 1) := by decide +kernel
theorem dL_law_1177 : decode cL_law 1177 = .ok (.iaload, 1) := by decide +kernel
theorem dL_law_1178 : decode cL_law 1178 = .ok (.invokevirtual 216, 3) := by decide +kernel
theorem dL_law_1181 : decode cL_law 1181 = .ok (.istore 6, 2) := by decide +kernel
theorem dL_law_1183 : decode cL_law 1183 = .ok (.goto 292, 3) := by decide +kernel
theorem dL_law_1186 : decode cL_law 1186 = .ok (.aload_n 1, 1) := by decide +kernel
theorem dL_law_1187 : decode cL_law 1187 = .ok (.aload_n 0, 1) := by decide +kernel
theorem dL_law_1188 : decode cL_law 1188 = .ok (.iload 4, 2) := by decide +kernel
theorem dL_law_1190 : decode cL_law 1190 = .ok (.iconst 1, 1) := by decide +kernel
theorem dL_law_1191 : decode cL_law 1191 = .ok (.iadd, 1) := by decide +kernel
theorem dL_law_1192 : decode cL_law 1192 = .ok (.iaload, 1) := by decide +kernel
theorem dL_law_1193 : decode cL_law 1193 = .ok (.aload_n 3, 1) := by decide +kernel
theorem dL_law_1194 : decode cL_law 1194 = .ok (.invokestatic 217, 3) := by decide +kernel
theorem dL_law_1197 : decode cL_law 1197 = .ok (.istore 5, 2) := by decide +kernel
theorem dL_law_1199 : decode cL_law 1199 = .ok (.aload_n 2, 1) := by decide +kernel
theorem dL_law_1200 : decode cL_law 1200 = .ok (.aload_n 0, 1) := by decide +kernel
theorem dL_law_1201 : decode cL_law 1201 = .ok (.iload 4, 2) := by decide +kernel
theorem dL_law_1203 : decode cL_law 1203 = .ok (.iconst 1, 1) := by decide +kernel
theorem dL_law_1204 : decode cL_law 1204 = .ok (.iadd, 1) := by decide +kernel
theorem dL_law_1205 : decode cL_law 1205 = .ok (.iaload, 1) := by decide +kernel
theorem dL_law_1206 : decode cL_law 1206 = .ok (.invokevirtual 219, 3) := by decide +kernel
theorem dL_law_1209 : decode cL_law 1209 = .ok (.istore 6, 2) := by decide +kernel
theorem dL_law_1211 : decode cL_law 1211 = .ok (.goto 264, 3) := by decide +kernel
theorem dL_law_1214 : decode cL_law 1214 = .ok (.aload_n 1, 1) := by decide +kernel
theorem dL_law_1215 : decode cL_law 1215 = .ok (.aload_n 0, 1) := by decide +kernel
theorem dL_law_1216 : decode cL_law 1216 = .ok (.iload 4, 2) := by decide +kernel
theorem dL_law_1218 : decode cL_law 1218 = .ok (.iconst 1, 1) := by decide +kernel
theorem dL_law_1219 : decode cL_law 1219 = .ok (.iadd, 1) := by decide +kernel
theorem dL_law_1220 : decode cL_law 1220 = .ok (.iaload, 1) := by decide +kernel
theorem dL_law_1221 : decode cL_law 1221 = .ok (.aload_n 0, 1) := by decide +kernel
theorem dL_law_1222 : decode cL_law 1222 = .ok (.iload 4, 2) := by decide +kernel
theorem dL_law_1224 : decode cL_law 1224 = .ok (.iconst 2, 1) := by decide +kernel
theorem dL_law_1225 : decode cL_law 1225 = .ok (.iadd, 1) := by decide +kernel
theorem dL_law_1226 : decode cL_law 1226 = .ok (.iaload, 1) := by decide +kernel
theorem dL_law_1227 : decode cL_law 1227 = .ok (.aload_n 3, 1) := by decide +kernel
theorem dL_law_1228 : decode cL_law 1228 = .ok (.invokestatic 220, 3) := by decide +kernel
theorem dL_law_1231 : decode cL_law 1231 = .ok (.istore 5, 2) := by decide +kernel
theorem dL_law_1233 : decode cL_law 1233 = .ok (.aload_n 2, 1) := by decide +kernel
theorem dL_law_1234 : decode cL_law 1234 = .ok (.aload_n 0, 1) := by decide +kernel
theorem dL_law_1235 : decode cL_law 1235 = .ok (.iload 4, 2) := by decide +kernel
theorem dL_law_1237 : decode cL_law 1237 = .ok (.iconst 1, 1) := by decide +kernel
theorem dL_law_1238 : decode cL_law 1238 = .ok (.iadd, 1) := by decide +kernel
theorem dL_law_1239 : decode cL_law 1239 = .ok (.iaload, 1) := by decide +kernel
theorem dL_law_1240 : decode cL_law 1240 = .ok (.aload_n 0, 1) := by decide +kernel
theorem dL_law_1241 : decode cL_law 1241 = .ok (.iload 4, 2) := by decide +kernel
theorem dL_law_1243 : decode cL_law 1243 = .ok (.iconst 2, 1) := by decide +kernel
theorem dL_law_1244 : decode cL_law 1244 = .ok (.iadd, 1) := by decide +kernel
theorem dL_law_1245 : decode cL_law 1245 = .ok (.iaload, 1) := by decide +kernel
theorem dL_law_1246 : decode cL_law 1246 = .ok (.invokevirtual 222, 3) := by decide +kernel
theorem dL_law_1249 : decode cL_law 1249 = .ok (.istore 6, 2) := by decide +kernel
theorem dL_law_1251 : decode cL_law 1251 = .ok (.goto 224, 3) := by decide +kernel
theorem dL_law_1254 : decode cL_law 1254 = .ok (.aload_n 1, 1) := by decide +kernel
theorem dL_law_1255 : decode cL_law 1255 = .ok (.aload_n 0, 1) := by decide +kernel
theorem dL_law_1256 : decode cL_law 1256 = .ok (.iload 4, 2) := by decide +kernel
theorem dL_law_1258 : decode cL_law 1258 = .ok (.iconst 1, 1) := by decide +kernel
theorem dL_law_1259 : decode cL_law 1259 = .ok (.iadd, 1) := by decide +kernel
theorem dL_law_1260 : decode cL_law 1260 = .ok (.iaload, 1) := by decide +kernel
theorem dL_law_1261 : decode cL_law 1261 = .ok (.aload_n 0, 1) := by decide +kernel
theorem dL_law_1262 : decode cL_law 1262 = .ok (.iload 4, 2) := by decide +kernel
theorem dL_law_1264 : decode cL_law 1264 = .ok (.iconst 2, 1) := by decide +kernel
theorem dL_law_1265 : decode cL_law 1265 = .ok (.iadd, 1) := by decide +kernel
theorem dL_law_1266 : decode cL_law 1266 = .ok (.iaload, 1) := by decide +kernel
theorem dL_law_1267 : decode cL_law 1267 = .ok (.aload_n 3, 1) := by decide +kernel
theorem dL_law_1268 : decode cL_law 1268 = .ok (.invokestatic 223, 3) := by decide +kernel
theorem dL_law_1271 : decode cL_law 1271 = .ok (.istore 5, 2) := by decide +kernel
theorem dL_law_1273 : decode cL_law 1273 = .ok (.aload_n 2, 1) := by decide +kernel
theorem dL_law_1274 : decode cL_law 1274 = .ok (.aload_n 0, 1) := by decide +kernel
theorem dL_law_1275 : decode cL_law 1275 = .ok (.iload 4, 2) := by decide +kernel
theorem dL_law_1277 : decode cL_law 1277 = .ok (.iconst 1, 1) := by decide +kernel
theorem dL_law_1278 : decode cL_law 1278 = .ok (.iadd, 1) := by decide +kernel
theorem dL_law_1279 : decode cL_law 1279 = .ok (.iaload, 1) := by decide +kernel
theorem dL_law_1280 : decode cL_law 1280 = .ok (.aload_n 0, 1) := by decide +kernel
theorem dL_law_1281 : decode cL_law 1281 = .ok (.iload 4, 2) := by decide +kernel
theorem dL_law_1283 : decode cL_law 1283 = .ok (.iconst 2, 1) := by decide +kernel
theorem dL_law_1284 : decode cL_law 1284 = .ok (.iadd, 1) := by decide +kernel
theorem dL_law_1285 : decode cL_law 1285 = .ok (.iaload, 1) := by decide +kernel
theorem dL_law_1286 : decode cL_law 1286 = .ok (.invokevirtual 225, 3) := by decide +kernel
theorem dL_law_1289 : decode cL_law 1289 = .ok (.istore 6, 2) := by decide +kernel
theorem dL_law_1291 : decode cL_law 1291 = .ok (.aload_n 2, 1) := by decide +kernel
theorem dL_law_1292 : decode cL_law 1292 = .ok (.invokevirtual 226, 3) := by decide +kernel
theorem dL_law_1295 : decode cL_law 1295 = .ok (.iload 5, 2) := by decide +kernel
theorem dL_law_1297 : decode cL_law 1297 = .ok (.if_icmp .eq 5, 3) := by decide +kernel
theorem dL_law_1302 : decode cL_law 1302 = .ok (.iload 5, 2) := by decide +kernel
theorem dL_law_1304 : decode cL_law 1304 = .ok (.ifCond .ne 22, 3) := by decide +kernel
theorem dL_law_1307 : decode cL_law 1307 = .ok (.aload_n 3, 1) := by decide +kernel
theorem dL_law_1308 : decode cL_law 1308 = .ok (.iconst 0, 1) := by decide +kernel
theorem dL_law_1309 : decode cL_law 1309 = .ok (.laload, 1) := by decide +kernel
theorem dL_law_1310 : decode cL_law 1310 = .ok (.iload 6, 2) := by decide +kernel
theorem dL_law_1312 : decode cL_law 1312 = .ok (.ifCond .eq 7, 3) := by decide +kernel
theorem dL_law_1315 : decode cL_law 1315 = .ok (.lconst 1, 1) := by decide +kernel
theorem dL_law_1316 : decode cL_law 1316 = .ok (.goto 4, 3) := by decide +kernel
theorem dL_law_1319 : decode cL_law 1319 = .ok (.lconst 0, 1) := by decide +kernel
theorem dL_law_1320 : decode cL_law 1320 = .ok (.lcmp, 1) := by decide +kernel
theorem dL_law_1321 : decode cL_law 1321 = .ok (.ifCond .eq 5, 3) := by decide +kernel
theorem dL_law_1326 : decode cL_law 1326 = .ok (.goto 149, 3) := by decide +kernel
theorem dL_law_1329 : decode cL_law 1329 = .ok (.aload_n 1, 1) := by decide +kernel
theorem dL_law_1330 : decode cL_law 1330 = .ok (.aload_n 0, 1) := by decide +kernel
theorem dL_law_1331 : decode cL_law 1331 = .ok (.iload 4, 2) := by decide +kernel
theorem dL_law_1333 : decode cL_law 1333 = .ok (.iconst 1, 1) := by decide +kernel
theorem dL_law_1334 : decode cL_law 1334 = .ok (.iadd, 1) := by decide +kernel
theorem dL_law_1335 : decode cL_law 1335 = .ok (.iaload, 1) := by decide +kernel
theorem dL_law_1336 : decode cL_law 1336 = .ok (.aload_n 0, 1) := by decide +kernel
theorem dL_law_1337 : decode cL_law 1337 = .ok (.iload 4, 2) := by decide +kernel
theorem dL_law_1339 : decode cL_law 1339 = .ok (.iconst 2, 1) := by decide +kernel
theorem dL_law_1340 : decode cL_law 1340 = .ok (.iadd, 1) := by decide +kernel
theorem dL_law_1341 : decode cL_law 1341 = .ok (.iaload, 1) := by decide +kernel
theorem dL_law_1342 : decode cL_law 1342 = .ok (.aload_n 0, 1) := by decide +kernel
theorem dL_law_1343 : decode cL_law 1343 = .ok (.iload 4, 2) := by decide +kernel
theorem dL_law_1345 : decode cL_law 1345 = .ok (.iconst 3, 1) := by decide +kernel
theorem dL_law_1346 : decode cL_law 1346 = .ok (.iadd, 1) := by decide +kernel
theorem dL_law_1347 : decode cL_law 1347 = .ok (.iaload, 1) := by decide +kernel
theorem dL_law_1348 : decode cL_law 1348 = .ok (.aload_n 3, 1) := by decide +kernel
theorem dL_law_1349 : decode cL_law 1349 = .ok (.invokestatic 229, 3) := by decide +kernel
theorem dL_law_1352 : decode cL_law 1352 = .ok (.istore 5, 2) := by decide +kernel
theorem dL_law_1354 : decode cL_law 1354 = .ok (.aload_n 2, 1) := by decide +kernel
theorem dL_law_1355 : decode cL_law 1355 = .ok (.aload_n 0, 1) := by decide +kernel
theorem dL_law_1356 : decode cL_law 1356 = .ok (.iload 4, 2) := by decide +kernel
theorem dL_law_1358 : decode cL_law 1358 = .ok (.iconst 1, 1) := by decide +kernel
theorem dL_law_1359 : decode cL_law 1359 = .ok (.iadd, 1) := by decide +kernel
theorem dL_law_1360 : decode cL_law 1360 = .ok (.iaload, 1) := by decide +kernel
theorem dL_law_1361 : decode cL_law 1361 = .ok (.aload_n 0, 1) := by decide +kernel
theorem dL_law_1362 : decode cL_law 1362 = .ok (.iload 4, 2) := by decide +kernel
theorem dL_law_1364 : decode cL_law 1364 = .ok (.iconst 2, 1) := by decide +kernel
theorem dL_law_1365 : decode cL_law 1365 = .ok (.iadd, 1) := by decide +kernel
theorem dL_law_1366 : decode cL_law 1366 = .ok (.iaload, 1) := by decide +kernel
theorem dL_law_1367 : decode cL_law 1367 = .ok (.aload_n 0, 1) := by decide +kernel
theorem dL_law_1368 : decode cL_law 1368 = .ok (.iload 4, 2) := by decide +kernel
theorem dL_law_1370 : decode cL_law 1370 = .ok (.iconst 3, 1) := by decide +kernel
theorem dL_law_1371 : decode cL_law 1371 = .ok (.iadd, 1) := by decide +kernel
theorem dL_law_1372 : decode cL_law 1372 = .ok (.iaload, 1) := by decide +kernel
theorem dL_law_1373 : decode cL_law 1373 = .ok (.invokevirtual 231, 3) := by decide +kernel
theorem dL_law_1376 : decode cL_law 1376 = .ok (.istore 6, 2) := by decide +kernel
theorem dL_law_1378 : decode cL_law 1378 = .ok (.goto 97, 3) := by decide +kernel
theorem dL_law_1381 : decode cL_law 1381 = .ok (.aload_n 1, 1) := by decide +kernel
theorem dL_law_1382 : decode cL_law 1382 = .ok (.aload_n 0, 1) := by decide +kernel
theorem dL_law_1383 : decode cL_law 1383 = .ok (.iload 4, 2) := by decide +kernel
theorem dL_law_1385 : decode cL_law 1385 = .ok (.iconst 1, 1) := by decide +kernel
theorem dL_law_1386 : decode cL_law 1386 = .ok (.iadd, 1) := by decide +kernel
theorem dL_law_1387 : decode cL_law 1387 = .ok (.iaload, 1) := by decide +kernel
theorem dL_law_1388 : decode cL_law 1388 = .ok (.aload_n 3, 1) := by decide +kernel
theorem dL_law_1389 : decode cL_law 1389 = .ok (.invokestatic 232, 3) := by decide +kernel
theorem dL_law_1392 : decode cL_law 1392 = .ok (.istore 5, 2) := by decide +kernel
theorem dL_law_1394 : decode cL_law 1394 = .ok (.aload_n 2, 1) := by decide +kernel
theorem dL_law_1395 : decode cL_law 1395 = .ok (.aload_n 0, 1) := by decide +kernel
theorem dL_law_1396 : decode cL_law 1396 = .ok (.iload 4, 2) := by decide +kernel
theorem dL_law_1398 : decode cL_law 1398 = .ok (.iconst 1, 1) := by decide +kernel
theorem dL_law_1399 : decode cL_law 1399 = .ok (.iadd, 1) := by decide +kernel
theorem dL_law_1400 : decode cL_law 1400 = .ok (.iaload, 1) := by decide +kernel
theorem dL_law_1401 : decode cL_law 1401 = .ok (.invokevirtual 234, 3) := by decide +kernel
theorem dL_law_1404 : decode cL_law 1404 = .ok (.istore 6, 2) := by decide +kernel
theorem dL_law_1406 : decode cL_law 1406 = .ok (.goto 69, 3) := by decide +kernel
theorem dL_law_1409 : decode cL_law 1409 = .ok (.aload_n 1, 1) := by decide +kernel
theorem dL_law_1410 : decode cL_law 1410 = .ok (.aload_n 0, 1) := by decide +kernel
theorem dL_law_1411 : decode cL_law 1411 = .ok (.iload 4, 2) := by decide +kernel
theorem dL_law_1413 : decode cL_law 1413 = .ok (.iconst 1, 1) := by decide +kernel
theorem dL_law_1414 : decode cL_law 1414 = .ok (.iadd, 1) := by decide +kernel
theorem dL_law_1415 : decode cL_law 1415 = .ok (.iaload, 1) := by decide +kernel
theorem dL_law_1416 : decode cL_law 1416 = .ok (.aload_n 3, 1) := by decide +kernel
theorem dL_law_1417 : decode cL_law 1417 = .ok (.invokestatic 235, 3) := by decide +kernel
theorem dL_law_1420 : decode cL_law 1420 = .ok (.istore 5, 2) := by decide +kernel
theorem dL_law_1422 : decode cL_law 1422 = .ok (.aload_n 2, 1) := by decide +kernel
theorem dL_law_1423 : decode cL_law 1423 = .ok (.aload_n 0, 1) := by decide +kernel
theorem dL_law_1424 : decode cL_law 1424 = .ok (.iload 4, 2) := by decide +kernel
theorem dL_law_1426 : decode cL_law 1426 = .ok (.iconst 1, 1) := by decide +kernel
theorem dL_law_1427 : decode cL_law 1427 = .ok (.iadd, 1) := by decide +kernel
theorem dL_law_1428 : decode cL_law 1428 = .ok (.iaload, 1) := by decide +kernel
theorem dL_law_1429 : decode cL_law 1429 = .ok (.invokevirtual 237, 3) := by decide +kernel
theorem dL_law_1432 : decode cL_law 1432 = .ok (.istore 6, 2) := by decide +kernel
theorem dL_law_1434 : decode cL_law 1434 = .ok (.goto 41, 3) := by decide +kernel
theorem dL_law_1437 : decode cL_law 1437 = .ok (.aload_n 1, 1) := by decide +kernel
theorem dL_law_1438 : decode cL_law 1438 = .ok (.invokevirtual 238, 3) := by decide +kernel
theorem dL_law_1441 : decode cL_law 1441 = .ok (.pop, 1) := by decide +kernel
theorem dL_law_1442 : decode cL_law 1442 = .ok (.aload_n 2, 1) := by decide +kernel
theorem dL_law_1443 : decode cL_law 1443 = .ok (.invokevirtual 241, 3) := by decide +kernel
theorem dL_law_1446 : decode cL_law 1446 = .ok (.pop, 1) := by decide +kernel
theorem dL_law_1447 : decode cL_law 1447 = .ok (.goto 28, 3) := by decide +kernel
theorem dL_law_1450 : decode cL_law 1450 = .ok (.aload_n 1, 1) := by decide +kernel
theorem dL_law_1451 : decode cL_law 1451 = .ok (.aload_n 0, 1) := by decide +kernel
theorem dL_law_1452 : decode cL_law 1452 = .ok (.iload 4, 2) := by decide +kernel
theorem dL_law_1454 : decode cL_law 1454 = .ok (.iconst 1, 1) := by decide +kernel
theorem dL_law_1455 : decode cL_law 1455 = .ok (.iadd, 1) := by decide +kernel
theorem dL_law_1456 : decode cL_law 1456 = .ok (.iaload, 1) := by decide +kernel
theorem dL_law_1457 : decode cL_law 1457 = .ok (.invokevirtual 242, 3) := by decide +kernel
theorem dL_law_1460 : decode cL_law 1460 = .ok (.pop, 1) := by decide +kernel
theorem dL_law_1461 : decode cL_law 1461 = .ok (.aload_n 2, 1) := by decide +kernel
theorem dL_law_1462 : decode cL_law 1462 = .ok (.aload_n 0, 1) := by decide +kernel
theorem dL_law_1463 : decode cL_law 1463 = .ok (.iload 4, 2) := by decide +kernel
theorem dL_law_1465 : decode cL_law 1465 = .ok (.iconst 1, 1) := by decide +kernel
theorem dL_law_1466 : decode cL_law 1466 = .ok (.iadd, 1) := by decide +kernel
theorem dL_law_1467 : decode cL_law 1467 = .ok (.iaload, 1) := by decide +kernel
theorem dL_law_1468 : decode cL_law 1468 = .ok (.invokevirtual 245, 3) := by decide +kernel
theorem dL_law_1471 : decode cL_law 1471 = .ok (.pop, 1) := by decide +kernel
theorem dL_law_1472 : decode cL_law 1472 = .ok (.goto 3, 3) := by decide +kernel
/-! cases of the law: cuts, derived, common, similar, step, users, greatest, fitting, status -/
set_option maxHeartbeats 4000000 in
set_option maxRecDepth 100000 in
theorem lc_cuts {p : Program} {l : Launch} {e : Env} {s : State} {m : MethodId} {below : List Frame} {meth : Method} {c : Code} {dC : Nat → ClassId} {dI : Nat → Nat → Nat} {cI cL cII cR cZ cIII cO : ClassId} {h0 b L : Nat} {xs : Nat → Int32} (C0 : lx_C p l s m c b L xs dC dI cI cL cII cR cZ cIII cO h0) {i : Int} (hi : 0 ≤ i ∧ i + 6 ≤ L) {μ ν : va_M} {f : Nat → Int64} (hV : LR9 μ ν) {cells slots : Nat} (hroom : cells + 1 ≤ 601024 ∧ slots + 6 ≤ 7293034)
    (hend : ∀ (μ ν : va_M) (f : Nat → Int64) (H : Heap) (locs : List Loc) (ls : Array Slot), LR9 μ ν → LW dC dI cI cL cII cR cZ cIII cO h0 μ ν f H → va_S (lA h0) s.heap H locs → lv_has ls 7 [(4, .int (iZ i)), (0, .ref b), (1, .ref h0), (2, .ref (h0 + 233)), (3, .ref (h0 + 6558))] → W p l e room_1 s m #[Value.ref b] below meth c H locs (cells + 1) (slots + 6) (lw_Z below #[Value.ref b] s) (F0 m 1475 ls []))
    {H : Heap} {locs : List Loc} {ls : Array Slot} (hW : LW dC dI cI cL cII cR cZ cIII cO h0 μ ν f H) (hS : va_S (lA h0) s.heap H locs) (hl : lv_has ls 7 [(4, .int (iZ i)), (0, .ref b), (1, .ref h0), (2, .ref (h0 + 233)), (3, .ref (h0 + 6558))]) : W p l e room_1 s m #[Value.ref b] below meth c H locs cells slots (lw_Z below #[Value.ref b] s) (F0 m 1158 ls []) := by
  obtain ⟨hfl, hx, hb, hml, hown, hts, hX, hbl, hsz0, hL9, hK, hKm, hKo, hM, hEx, hNc⟩ := C0
  obtain ⟨T, Ss, hT⟩ := hV
  have hT : LRt T Ss μ ν := hT
  have hT0 := hT
  have hbA : ¬ lA h0 b := Nat.not_le.mpr (by omega)
  obtain ⟨a1, e1, ha1⟩ := iZ_ex (xs (iZ (i + 1)).toNatClampNeg)
  refine lv_aload_n hx hb dL_law_1158 rfl (lv_at hl 2 rfl) ?_
  refine lv_aload_n hx hb dL_law_1159 rfl (lv_at hl 1 rfl) ?_
  refine lv_iload hx hb dL_law_1160 (lv_at hl 0 rfl) ?_
  refine lv_iconst (v := iZ 1) hx hb dL_law_1162 rfl ?_
  refine lv_iadd hx hb dL_law_1163 ?_
  refine lv_topi (fun x9 ex9 => ?_)
  obtain rfl : x9 = iZ (i + 1) := ex9.trans (iZ_add _ _)
  refine va_sld hx hb hX hbl hbA hS (iZ_in (by omega) (by omega) (by omega)) dL_law_1164 ?_
  refine lv_topi (fun x9 ex9 => ?_)
  obtain rfl : x9 = iZ a1 := ex9.trans e1
  refine lv_aload_n hx hb dL_law_1165 rfl (lv_at hl 4 rfl) ?_
  refine va_calli (vx_runSW (hh := [(0, 9, 12, 20)]) (As := [.ref h0, .int (iZ a1), .ref (h0 + 6558)]) (rest := []) ⟨hx, hb, hml, hown, hts⟩ (w_cuts l hfl dC dI cI cL cII cR cO h0 (h0 + 6558) H.size μ f a1 T (hT.1.1.1) ha1 (by omega)) (vx_cwSW 3 hts (gW_G k1101 k1102 k0 k1103) rfl rfl rfl (by decide +kernel) ⟨Nat.le_of_ble_eq_true rfl, Nat.le_of_ble_eq_true rfl⟩) ⟨fun a U g mk q => by obtain ⟨q0, q1, qP, qO, qK, qKo, qM, qE, qN⟩ := q; exact ⟨q0, q1, qP, qO, va_K.moved (u := U) (U := U.calling g mk a) (Vm.Alike.refl U.vm) qK, va_K.moved (u := U) (U := U.calling g mk a) (Vm.Alike.refl U.vm) qKo, qM, xX_call qE, qN⟩, fun U hU hW9 => ⟨rfl, by rw [hU], by rw [hU]; exact hW.1, by rw [hU]; exact hW.2.2, va_K.moved hW9.alike hK, va_K.moved hW9.alike hKo, xM_warm hW9 hM, xX_at hEx hS (fun q h => lA_w hS hsz0 (by omega) q h) hU hW9, xNC_warm hW9 hNc⟩⟩ rfl rfl hl.1 rfl (lv_room (Nat.le_of_ble_eq_true rfl)) dL_law_1166 ⟨by show cells + 1 ≤ 601024; omega, by show slots + 6 ≤ 7293034; omega⟩) hS (fun q _ h => lA_w hS hsz0 (by omega) q h) (lA_w hS hsz0 (by omega)) (fun r1 u9 t9 H1 locs ht9 hvm9 hw9 hB9 hz9 hk9 hS => ?_)
  obtain ⟨hP9, hO9⟩ := hB9
  rw [ht9] at hP9 hO9
  have hW := LW_w hW hk9 hP9 hO9
  have hT := LRt_c hT hw9
  obtain ⟨u1, f1⟩ := u9
  try dsimp only at hW hT
  clear hk9 hP9 hO9
  generalize H1 = H at hW hS ⊢
  refine lv_istore (lv' := [(5, .int r1), (4, .int (iZ i)), (0, .ref b), (1, .ref h0), (2, .ref (h0 + 233)), (3, .ref (h0 + 6558))]) hx hb dL_law_1169 hl (by decide) rfl (fun ls hl => ?_)
  refine lv_aload_n hx hb dL_law_1171 rfl (lv_at hl 4 rfl) ?_
  refine lv_aload_n hx hb dL_law_1172 rfl (lv_at hl 2 rfl) ?_
  refine lv_iload hx hb dL_law_1173 (lv_at hl 1 rfl) ?_
  refine lv_iconst (v := iZ 1) hx hb dL_law_1175 rfl ?_
  refine lv_iadd hx hb dL_law_1176 ?_
  refine lv_topi (fun x9 ex9 => ?_)
  obtain rfl : x9 = iZ (i + 1) := ex9.trans (iZ_add _ _)
  refine va_sld hx hb hX hbl hbA hS (iZ_in (by omega) (by omega) (by omega)) dL_law_1177 ?_
  refine lv_topi (fun x9 ex9 => ?_)
  obtain rfl : x9 = iZ a1 := ex9.trans e1
  refine va_calli (va_runV (As := [.int (iZ a1)]) (rest := []) ⟨hx, hb, hml, hown, hts⟩ (m_cuts l dC dI cI cZ cII cIII (h0 + 233) H.size ν a1 hT.1.1.2.1.1 ha1) (cwV 1 hts (gV_G k1739 k1740 k1741 k13 k1742) rfl rfl rfl (by decide +kernel) ⟨Nat.le_of_ble_eq_true rfl, Nat.le_of_ble_eq_true rfl⟩) ⟨fun a U g mk q => by obtain ⟨q0, q1, qP, qK⟩ := q; exact ⟨q0, q1, qP, va_K.moved (u := U) (U := U.calling g mk a) (Vm.Alike.refl U.vm) qK⟩, va_recv hKm hW.2.1 (ci := 10) (q0 := 0) rfl ((fw_get (by decide)).trans (by rw [mE_obj])), fun U hU hW9 => ⟨rfl, by rw [hU], by rw [hU]; exact hW.2.1, va_K.moved hW9.alike hKm⟩⟩ rfl rfl hl.1 rfl (lv_room (Nat.le_of_ble_eq_true rfl)) dL_law_1178 ⟨by show cells + 1 + 0 ≤ 601024; omega, by show slots + 6 + 0 ≤ 7293034; omega⟩) hS (fun q _ h => lA_f hS hsz0 (by omega) q h) (lA_f hS hsz0 (by omega)) (fun r2 u9 t9 H1 locs ht9 hvm9 hw9 hB9 hz9 hk9 hS => ?_)
  obtain ⟨hP9, -⟩ := hB9
  rw [ht9] at hP9
  have hW := LW_m hW hk9 hP9
  obtain ⟨v1, q2⟩ := u9
  obtain ⟨er9, hw9⟩ := hw9
  have er2 : r2 = iZ q2 := er9
  subst er2
  have hT := LRt_ps hT hw9
  try dsimp only at hW hT
  clear hk9 hP9
  generalize H1 = H at hW hS ⊢
  refine lv_istore (lv' := [(6, .int (iZ q2)), (5, .int r1), (4, .int (iZ i)), (0, .ref b), (1, .ref h0), (2, .ref (h0 + 233)), (3, .ref (h0 + 6558))]) hx hb dL_law_1181 hl (by decide) rfl (fun ls hl => ?_)
  refine lv_goto (tgt := 1475) hx hb dL_law_1183 (by decide) ?_
  have hV9 : LR9 u1 v1 := ⟨T, Ss, hT⟩
  refine W.widen (k := cells + 1) (n := slots + 6) (by omega) (by omega) ?_
  exact hend _ _ _ H locs ls hV9 hW hS (lv_sub hl [2, 3, 4, 5, 6] rfl)
set_option maxHeartbeats 4000000 in
set_option maxRecDepth 100000 in
theorem lc_derived {p : Program} {l : Launch} {e : Env} {s : State} {m : MethodId} {below : List Frame} {meth : Method} {c : Code} {dC : Nat → ClassId} {dI : Nat → Nat → Nat} {cI cL cII cR cZ cIII cO : ClassId} {h0 b L : Nat} {xs : Nat → Int32} (C0 : lx_C p l s m c b L xs dC dI cI cL cII cR cZ cIII cO h0) {i : Int} (hi : 0 ≤ i ∧ i + 6 ≤ L) {μ ν : va_M} {f : Nat → Int64} (hV : LR9 μ ν) {cells slots : Nat} (hroom : cells + 1 ≤ 601024 ∧ slots + 6 ≤ 7293034)
    (hend : ∀ (μ ν : va_M) (f : Nat → Int64) (H : Heap) (locs : List Loc) (ls : Array Slot), LR9 μ ν → LW dC dI cI cL cII cR cZ cIII cO h0 μ ν f H → va_S (lA h0) s.heap H locs → lv_has ls 7 [(4, .int (iZ i)), (0, .ref b), (1, .ref h0), (2, .ref (h0 + 233)), (3, .ref (h0 + 6558))] → W p l e room_1 s m #[Value.ref b] below meth c H locs (cells + 1) (slots + 6) (lw_Z below #[Value.ref b] s) (F0 m 1475 ls []))
    {H : Heap} {locs : List Loc} {ls : Array Slot} (hW : LW dC dI cI cL cII cR cZ cIII cO h0 μ ν f H) (hS : va_S (lA h0) s.heap H locs) (hl : lv_has ls 7 [(4, .int (iZ i)), (0, .ref b), (1, .ref h0), (2, .ref (h0 + 233)), (3, .ref (h0 + 6558))]) : W p l e room_1 s m #[Value.ref b] below meth c H locs cells slots (lw_Z below #[Value.ref b] s) (F0 m 1186 ls []) := by
  obtain ⟨hfl, hx, hb, hml, hown, hts, hX, hbl, hsz0, hL9, hK, hKm, hKo, hM, hEx, hNc⟩ := C0
  obtain ⟨T, Ss, hT⟩ := hV
  have hT : LRt T Ss μ ν := hT
  have hT0 := hT
  have hbA : ¬ lA h0 b := Nat.not_le.mpr (by omega)
  obtain ⟨a1, e1, ha1⟩ := iZ_ex (xs (iZ (i + 1)).toNatClampNeg)
  refine lv_aload_n hx hb dL_law_1186 rfl (lv_at hl 2 rfl) ?_
  refine lv_aload_n hx hb dL_law_1187 rfl (lv_at hl 1 rfl) ?_
  refine lv_iload hx hb dL_law_1188 (lv_at hl 0 rfl) ?_
  refine lv_iconst (v := iZ 1) hx hb dL_law_1190 rfl ?_
  refine lv_iadd hx hb dL_law_1191 ?_
  refine lv_topi (fun x9 ex9 => ?_)
  obtain rfl : x9 = iZ (i + 1) := ex9.trans (iZ_add _ _)
  refine va_sld hx hb hX hbl hbA hS (iZ_in (by omega) (by omega) (by omega)) dL_law_1192 ?_
  refine lv_topi (fun x9 ex9 => ?_)
  obtain rfl : x9 = iZ a1 := ex9.trans e1
  refine lv_aload_n hx hb dL_law_1193 rfl (lv_at hl 4 rfl) ?_
  refine va_calli (vx_runSW (hh := [(0, 9, 12, 13)]) (As := [.ref h0, .int (iZ a1), .ref (h0 + 6558)]) (rest := []) ⟨hx, hb, hml, hown, hts⟩ (w_derived l hfl dC dI cI cL cII cR cO h0 (h0 + 6558) H.size μ f a1 T (hT.1.1.1) ha1 (by omega)) (vx_cwSW 3 hts (gW_G k1108 k1109 k0 k1110) rfl rfl rfl (by decide +kernel) ⟨Nat.le_of_ble_eq_true rfl, Nat.le_of_ble_eq_true rfl⟩) ⟨fun a U g mk q => by obtain ⟨q0, q1, qP, qO, qK, qKo, qM, qE, qN⟩ := q; exact ⟨q0, q1, qP, qO, va_K.moved (u := U) (U := U.calling g mk a) (Vm.Alike.refl U.vm) qK, va_K.moved (u := U) (U := U.calling g mk a) (Vm.Alike.refl U.vm) qKo, qM, xX_call qE, qN⟩, fun U hU hW9 => ⟨rfl, by rw [hU], by rw [hU]; exact hW.1, by rw [hU]; exact hW.2.2, va_K.moved hW9.alike hK, va_K.moved hW9.alike hKo, xM_warm hW9 hM, xX_at hEx hS (fun q h => lA_w hS hsz0 (by omega) q h) hU hW9, xNC_warm hW9 hNc⟩⟩ rfl rfl hl.1 rfl (lv_room (Nat.le_of_ble_eq_true rfl)) dL_law_1194 ⟨by show cells + 1 ≤ 601024; omega, by show slots + 6 ≤ 7293034; omega⟩) hS (fun q _ h => lA_w hS hsz0 (by omega) q h) (lA_w hS hsz0 (by omega)) (fun r1 u9 t9 H1 locs ht9 hvm9 hw9 hB9 hz9 hk9 hS => ?_)
  obtain ⟨hP9, hO9⟩ := hB9
  rw [ht9] at hP9 hO9
  have hW := LW_w hW hk9 hP9 hO9
  have hT := LRt_c hT hw9
  obtain ⟨u1, f1⟩ := u9
  try dsimp only at hW hT
  clear hk9 hP9 hO9
  generalize H1 = H at hW hS ⊢
  refine lv_istore (lv' := [(5, .int r1), (4, .int (iZ i)), (0, .ref b), (1, .ref h0), (2, .ref (h0 + 233)), (3, .ref (h0 + 6558))]) hx hb dL_law_1197 hl (by decide) rfl (fun ls hl => ?_)
  refine lv_aload_n hx hb dL_law_1199 rfl (lv_at hl 4 rfl) ?_
  refine lv_aload_n hx hb dL_law_1200 rfl (lv_at hl 2 rfl) ?_
  refine lv_iload hx hb dL_law_1201 (lv_at hl 1 rfl) ?_
  refine lv_iconst (v := iZ 1) hx hb dL_law_1203 rfl ?_
  refine lv_iadd hx hb dL_law_1204 ?_
  refine lv_topi (fun x9 ex9 => ?_)
  obtain rfl : x9 = iZ (i + 1) := ex9.trans (iZ_add _ _)
  refine va_sld hx hb hX hbl hbA hS (iZ_in (by omega) (by omega) (by omega)) dL_law_1205 ?_
  refine lv_topi (fun x9 ex9 => ?_)
  obtain rfl : x9 = iZ a1 := ex9.trans e1
  refine va_calli (va_runV (As := [.int (iZ a1)]) (rest := []) ⟨hx, hb, hml, hown, hts⟩ (m_derived l dC dI cI cZ cII cIII (h0 + 233) H.size ν a1 hT.1.1.2.1.1 ha1) (cwV 1 hts (gV_G k1747 k1748 k1749 k13 k1750) rfl rfl rfl (by decide +kernel) ⟨Nat.le_of_ble_eq_true rfl, Nat.le_of_ble_eq_true rfl⟩) ⟨fun a U g mk q => by obtain ⟨q0, q1, qP, qK⟩ := q; exact ⟨q0, q1, qP, va_K.moved (u := U) (U := U.calling g mk a) (Vm.Alike.refl U.vm) qK⟩, va_recv hKm hW.2.1 (ci := 10) (q0 := 0) rfl ((fw_get (by decide)).trans (by rw [mE_obj])), fun U hU hW9 => ⟨rfl, by rw [hU], by rw [hU]; exact hW.2.1, va_K.moved hW9.alike hKm⟩⟩ rfl rfl hl.1 rfl (lv_room (Nat.le_of_ble_eq_true rfl)) dL_law_1206 ⟨by show cells + 1 + 0 ≤ 601024; omega, by show slots + 6 + 0 ≤ 7293034; omega⟩) hS (fun q _ h => lA_f hS hsz0 (by omega) q h) (lA_f hS hsz0 (by omega)) (fun r2 u9 t9 H1 locs ht9 hvm9 hw9 hB9 hz9 hk9 hS => ?_)
  obtain ⟨hP9, -⟩ := hB9
  rw [ht9] at hP9
  have hW := LW_m hW hk9 hP9
  obtain ⟨v1, q2⟩ := u9
  obtain ⟨er9, hw9⟩ := hw9
  have er2 : r2 = iZ q2 := er9
  subst er2
  have hT := LRt_ps hT hw9
  try dsimp only at hW hT
  clear hk9 hP9
  generalize H1 = H at hW hS ⊢
  refine lv_istore (lv' := [(6, .int (iZ q2)), (5, .int r1), (4, .int (iZ i)), (0, .ref b), (1, .ref h0), (2, .ref (h0 + 233)), (3, .ref (h0 + 6558))]) hx hb dL_law_1209 hl (by decide) rfl (fun ls hl => ?_)
  refine lv_goto (tgt := 1475) hx hb dL_law_1211 (by decide) ?_
  have hV9 : LR9 u1 v1 := ⟨T, Ss, hT⟩
  refine W.widen (k := cells + 1) (n := slots + 6) (by omega) (by omega) ?_
  exact hend _ _ _ H locs ls hV9 hW hS (lv_sub hl [2, 3, 4, 5, 6] rfl)
set_option maxHeartbeats 4000000 in
set_option maxRecDepth 100000 in
theorem lc_common {p : Program} {l : Launch} {e : Env} {s : State} {m : MethodId} {below : List Frame} {meth : Method} {c : Code} {dC : Nat → ClassId} {dI : Nat → Nat → Nat} {cI cL cII cR cZ cIII cO : ClassId} {h0 b L : Nat} {xs : Nat → Int32} (C0 : lx_C p l s m c b L xs dC dI cI cL cII cR cZ cIII cO h0) {i : Int} (hi : 0 ≤ i ∧ i + 6 ≤ L) {μ ν : va_M} {f : Nat → Int64} (hV : LR9 μ ν) {cells slots : Nat} (hroom : cells + 1 ≤ 601024 ∧ slots + 6 ≤ 7293034)
    (hend : ∀ (μ ν : va_M) (f : Nat → Int64) (H : Heap) (locs : List Loc) (ls : Array Slot), LR9 μ ν → LW dC dI cI cL cII cR cZ cIII cO h0 μ ν f H → va_S (lA h0) s.heap H locs → lv_has ls 7 [(4, .int (iZ i)), (0, .ref b), (1, .ref h0), (2, .ref (h0 + 233)), (3, .ref (h0 + 6558))] → W p l e room_1 s m #[Value.ref b] below meth c H locs (cells + 1) (slots + 6) (lw_Z below #[Value.ref b] s) (F0 m 1475 ls []))
    {H : Heap} {locs : List Loc} {ls : Array Slot} (hW : LW dC dI cI cL cII cR cZ cIII cO h0 μ ν f H) (hS : va_S (lA h0) s.heap H locs) (hl : lv_has ls 7 [(4, .int (iZ i)), (0, .ref b), (1, .ref h0), (2, .ref (h0 + 233)), (3, .ref (h0 + 6558))]) : W p l e room_1 s m #[Value.ref b] below meth c H locs cells slots (lw_Z below #[Value.ref b] s) (F0 m 1214 ls []) := by
  obtain ⟨hfl, hx, hb, hml, hown, hts, hX, hbl, hsz0, hL9, hK, hKm, hKo, hM, hEx, hNc⟩ := C0
  obtain ⟨T, Ss, hT⟩ := hV
  have hT : LRt T Ss μ ν := hT
  have hT0 := hT
  have hbA : ¬ lA h0 b := Nat.not_le.mpr (by omega)
  obtain ⟨a1, e1, ha1⟩ := iZ_ex (xs (iZ (i + 1)).toNatClampNeg)
  obtain ⟨a2, e2, ha2⟩ := iZ_ex (xs (iZ (i + 2)).toNatClampNeg)
  refine lv_aload_n hx hb dL_law_1214 rfl (lv_at hl 2 rfl) ?_
  refine lv_aload_n hx hb dL_law_1215 rfl (lv_at hl 1 rfl) ?_
  refine lv_iload hx hb dL_law_1216 (lv_at hl 0 rfl) ?_
  refine lv_iconst (v := iZ 1) hx hb dL_law_1218 rfl ?_
  refine lv_iadd hx hb dL_law_1219 ?_
  refine lv_topi (fun x9 ex9 => ?_)
  obtain rfl : x9 = iZ (i + 1) := ex9.trans (iZ_add _ _)
  refine va_sld hx hb hX hbl hbA hS (iZ_in (by omega) (by omega) (by omega)) dL_law_1220 ?_
  refine lv_topi (fun x9 ex9 => ?_)
  obtain rfl : x9 = iZ a1 := ex9.trans e1
  refine lv_aload_n hx hb dL_law_1221 rfl (lv_at hl 1 rfl) ?_
  refine lv_iload hx hb dL_law_1222 (lv_at hl 0 rfl) ?_
  refine lv_iconst (v := iZ 2) hx hb dL_law_1224 rfl ?_
  refine lv_iadd hx hb dL_law_1225 ?_
  refine lv_topi (fun x9 ex9 => ?_)
  obtain rfl : x9 = iZ (i + 2) := ex9.trans (iZ_add _ _)
  refine va_sld hx hb hX hbl hbA hS (iZ_in (by omega) (by omega) (by omega)) dL_law_1226 ?_
  refine lv_topi (fun x9 ex9 => ?_)
  obtain rfl : x9 = iZ a2 := ex9.trans e2
  refine lv_aload_n hx hb dL_law_1227 rfl (lv_at hl 4 rfl) ?_
  refine va_calli (vx_runSW (hh := [(0, 10, 13, 20)]) (As := [.ref h0, .int (iZ a1), .int (iZ a2), .ref (h0 + 6558)]) (rest := []) ⟨hx, hb, hml, hown, hts⟩ (w_common l hfl dC dI cI cL cII cR cO h0 (h0 + 6558) H.size μ f a1 a2 T (hT.1.1.1) ha1 ha2 (by omega)) (vx_cwSW 4 hts (gW_G k1115 k1116 k0 k1117) rfl rfl rfl (by decide +kernel) ⟨Nat.le_of_ble_eq_true rfl, Nat.le_of_ble_eq_true rfl⟩) ⟨fun a U g mk q => by obtain ⟨q0, q1, qP, qO, qK, qKo, qM, qE, qN⟩ := q; exact ⟨q0, q1, qP, qO, va_K.moved (u := U) (U := U.calling g mk a) (Vm.Alike.refl U.vm) qK, va_K.moved (u := U) (U := U.calling g mk a) (Vm.Alike.refl U.vm) qKo, qM, xX_call qE, qN⟩, fun U hU hW9 => ⟨rfl, by rw [hU], by rw [hU]; exact hW.1, by rw [hU]; exact hW.2.2, va_K.moved hW9.alike hK, va_K.moved hW9.alike hKo, xM_warm hW9 hM, xX_at hEx hS (fun q h => lA_w hS hsz0 (by omega) q h) hU hW9, xNC_warm hW9 hNc⟩⟩ rfl rfl hl.1 rfl (lv_room (Nat.le_of_ble_eq_true rfl)) dL_law_1228 ⟨by show cells + 1 ≤ 601024; omega, by show slots + 6 ≤ 7293034; omega⟩) hS (fun q _ h => lA_w hS hsz0 (by omega) q h) (lA_w hS hsz0 (by omega)) (fun r1 u9 t9 H1 locs ht9 hvm9 hw9 hB9 hz9 hk9 hS => ?_)
  obtain ⟨hP9, hO9⟩ := hB9
  rw [ht9] at hP9 hO9
  have hW := LW_w hW hk9 hP9 hO9
  have hT := LRt_c hT hw9
  obtain ⟨u1, f1⟩ := u9
  try dsimp only at hW hT
  clear hk9 hP9 hO9
  generalize H1 = H at hW hS ⊢
  refine lv_istore (lv' := [(5, .int r1), (4, .int (iZ i)), (0, .ref b), (1, .ref h0), (2, .ref (h0 + 233)), (3, .ref (h0 + 6558))]) hx hb dL_law_1231 hl (by decide) rfl (fun ls hl => ?_)
  refine lv_aload_n hx hb dL_law_1233 rfl (lv_at hl 4 rfl) ?_
  refine lv_aload_n hx hb dL_law_1234 rfl (lv_at hl 2 rfl) ?_
  refine lv_iload hx hb dL_law_1235 (lv_at hl 1 rfl) ?_
  refine lv_iconst (v := iZ 1) hx hb dL_law_1237 rfl ?_
  refine lv_iadd hx hb dL_law_1238 ?_
  refine lv_topi (fun x9 ex9 => ?_)
  obtain rfl : x9 = iZ (i + 1) := ex9.trans (iZ_add _ _)
  refine va_sld hx hb hX hbl hbA hS (iZ_in (by omega) (by omega) (by omega)) dL_law_1239 ?_
  refine lv_topi (fun x9 ex9 => ?_)
  obtain rfl : x9 = iZ a1 := ex9.trans e1
  refine lv_aload_n hx hb dL_law_1240 rfl (lv_at hl 2 rfl) ?_
  refine lv_iload hx hb dL_law_1241 (lv_at hl 1 rfl) ?_
  refine lv_iconst (v := iZ 2) hx hb dL_law_1243 rfl ?_
  refine lv_iadd hx hb dL_law_1244 ?_
  refine lv_topi (fun x9 ex9 => ?_)
  obtain rfl : x9 = iZ (i + 2) := ex9.trans (iZ_add _ _)
  refine va_sld hx hb hX hbl hbA hS (iZ_in (by omega) (by omega) (by omega)) dL_law_1245 ?_
  refine lv_topi (fun x9 ex9 => ?_)
  obtain rfl : x9 = iZ a2 := ex9.trans e2
  refine va_calli (va_runV (As := [.int (iZ a1), .int (iZ a2)]) (rest := []) ⟨hx, hb, hml, hown, hts⟩ (m_common l dC dI cI cZ cII cIII (h0 + 233) H.size ν a1 a2 hT.1.1.2.1.1 ha1 ha2) (cwV 2 hts (gV_G k1751 k1752 k1753 k13 k1754) rfl rfl rfl (by decide +kernel) ⟨Nat.le_of_ble_eq_true rfl, Nat.le_of_ble_eq_true rfl⟩) ⟨fun a U g mk q => by obtain ⟨q0, q1, qP, qK⟩ := q; exact ⟨q0, q1, qP, va_K.moved (u := U) (U := U.calling g mk a) (Vm.Alike.refl U.vm) qK⟩, va_recv hKm hW.2.1 (ci := 10) (q0 := 0) rfl ((fw_get (by decide)).trans (by rw [mE_obj])), fun U hU hW9 => ⟨rfl, by rw [hU], by rw [hU]; exact hW.2.1, va_K.moved hW9.alike hKm⟩⟩ rfl rfl hl.1 rfl (lv_room (Nat.le_of_ble_eq_true rfl)) dL_law_1246 ⟨by show cells + 1 + 0 ≤ 601024; omega, by show slots + 6 + 0 ≤ 7293034; omega⟩) hS (fun q _ h => lA_f hS hsz0 (by omega) q h) (lA_f hS hsz0 (by omega)) (fun r2 u9 t9 H1 locs ht9 hvm9 hw9 hB9 hz9 hk9 hS => ?_)
  obtain ⟨hP9, -⟩ := hB9
  rw [ht9] at hP9
  have hW := LW_m hW hk9 hP9
  obtain ⟨v1, q2⟩ := u9
  obtain ⟨er9, hw9⟩ := hw9
  have er2 : r2 = iZ q2 := er9
  subst er2
  have hT := LRt_ps hT hw9
  try dsimp only at hW hT
  clear hk9 hP9
  generalize H1 = H at hW hS ⊢
  refine lv_istore (lv' := [(6, .int (iZ q2)), (5, .int r1), (4, .int (iZ i)), (0, .ref b), (1, .ref h0), (2, .ref (h0 + 233)), (3, .ref (h0 + 6558))]) hx hb dL_law_1249 hl (by decide) rfl (fun ls hl => ?_)
  refine lv_goto (tgt := 1475) hx hb dL_law_1251 (by decide) ?_
  have hV9 : LR9 u1 v1 := ⟨T, Ss, hT⟩
  refine W.widen (k := cells + 1) (n := slots + 6) (by omega) (by omega) ?_
  exact hend _ _ _ H locs ls hV9 hW hS (lv_sub hl [2, 3, 4, 5, 6] rfl)
set_option maxHeartbeats 4000000 in
set_option maxRecDepth 100000 in
theorem lc_similar {p : Program} {l : Launch} {e : Env} {s : State} {m : MethodId} {below : List Frame} {meth : Method} {c : Code} {dC : Nat → ClassId} {dI : Nat → Nat → Nat} {cI cL cII cR cZ cIII cO : ClassId} {h0 b L : Nat} {xs : Nat → Int32} (C0 : lx_C p l s m c b L xs dC dI cI cL cII cR cZ cIII cO h0) {i : Int} (hi : 0 ≤ i ∧ i + 6 ≤ L) {μ ν : va_M} {f : Nat → Int64} (hV : LR9 μ ν) {cells slots : Nat} (hroom : cells + 1 ≤ 601024 ∧ slots + 6 ≤ 7293034)
    (hend : ∀ (μ ν : va_M) (f : Nat → Int64) (H : Heap) (locs : List Loc) (ls : Array Slot), LR9 μ ν → LW dC dI cI cL cII cR cZ cIII cO h0 μ ν f H → va_S (lA h0) s.heap H locs → lv_has ls 7 [(4, .int (iZ i)), (0, .ref b), (1, .ref h0), (2, .ref (h0 + 233)), (3, .ref (h0 + 6558))] → W p l e room_1 s m #[Value.ref b] below meth c H locs (cells + 1) (slots + 6) (lw_Z below #[Value.ref b] s) (F0 m 1475 ls []))
    {H : Heap} {locs : List Loc} {ls : Array Slot} (hW : LW dC dI cI cL cII cR cZ cIII cO h0 μ ν f H) (hS : va_S (lA h0) s.heap H locs) (hl : lv_has ls 7 [(4, .int (iZ i)), (0, .ref b), (1, .ref h0), (2, .ref (h0 + 233)), (3, .ref (h0 + 6558))]) : W p l e room_1 s m #[Value.ref b] below meth c H locs cells slots (lw_Z below #[Value.ref b] s) (F0 m 1254 ls []) := by
  obtain ⟨hfl, hx, hb, hml, hown, hts, hX, hbl, hsz0, hL9, hK, hKm, hKo, hM, hEx, hNc⟩ := C0
  obtain ⟨T, Ss, hT⟩ := hV
  have hT : LRt T Ss μ ν := hT
  have hT0 := hT
  have hbA : ¬ lA h0 b := Nat.not_le.mpr (by omega)
  obtain ⟨a1, e1, ha1⟩ := iZ_ex (xs (iZ (i + 1)).toNatClampNeg)
  obtain ⟨a2, e2, ha2⟩ := iZ_ex (xs (iZ (i + 2)).toNatClampNeg)
  obtain ⟨S9a, l9a, wp, hp9a⟩ := pf_ex hT a1
  obtain ⟨S9b, l9b, wq, hp9b⟩ := pf_ex hT a2
  refine lv_aload_n hx hb dL_law_1254 rfl (lv_at hl 2 rfl) ?_
  refine lv_aload_n hx hb dL_law_1255 rfl (lv_at hl 1 rfl) ?_
  refine lv_iload hx hb dL_law_1256 (lv_at hl 0 rfl) ?_
  refine lv_iconst (v := iZ 1) hx hb dL_law_1258 rfl ?_
  refine lv_iadd hx hb dL_law_1259 ?_
  refine lv_topi (fun x9 ex9 => ?_)
  obtain rfl : x9 = iZ (i + 1) := ex9.trans (iZ_add _ _)
  refine va_sld hx hb hX hbl hbA hS (iZ_in (by omega) (by omega) (by omega)) dL_law_1260 ?_
  refine lv_topi (fun x9 ex9 => ?_)
  obtain rfl : x9 = iZ a1 := ex9.trans e1
  refine lv_aload_n hx hb dL_law_1261 rfl (lv_at hl 1 rfl) ?_
  refine lv_iload hx hb dL_law_1262 (lv_at hl 0 rfl) ?_
  refine lv_iconst (v := iZ 2) hx hb dL_law_1264 rfl ?_
  refine lv_iadd hx hb dL_law_1265 ?_
  refine lv_topi (fun x9 ex9 => ?_)
  obtain rfl : x9 = iZ (i + 2) := ex9.trans (iZ_add _ _)
  refine va_sld hx hb hX hbl hbA hS (iZ_in (by omega) (by omega) (by omega)) dL_law_1266 ?_
  refine lv_topi (fun x9 ex9 => ?_)
  obtain rfl : x9 = iZ a2 := ex9.trans e2
  refine lv_aload_n hx hb dL_law_1267 rfl (lv_at hl 4 rfl) ?_
  refine va_calli (vx_runSW (hh := [(0, 17, 20, 20)]) (As := [.ref h0, .int (iZ a1), .int (iZ a2), .ref (h0 + 6558)]) (rest := []) ⟨hx, hb, hml, hown, hts⟩ (w_similar l hfl dC dI cI cL cII cR cO h0 (h0 + 6558) H.size μ f a1 a2 T wp wq (hT.1.1.1) ha1 ha2 (pf_c hT hp9a) (pf_c hT hp9b) (by omega)) (vx_cwSW 4 hts (gW_G k1128 k1129 k0 k1130) rfl rfl rfl (by decide +kernel) ⟨Nat.le_of_ble_eq_true rfl, Nat.le_of_ble_eq_true rfl⟩) ⟨fun a U g mk q => by obtain ⟨q0, q1, qP, qO, qK, qKo, qM, qE, qN⟩ := q; exact ⟨q0, q1, qP, qO, va_K.moved (u := U) (U := U.calling g mk a) (Vm.Alike.refl U.vm) qK, va_K.moved (u := U) (U := U.calling g mk a) (Vm.Alike.refl U.vm) qKo, qM, xX_call qE, qN⟩, fun U hU hW9 => ⟨rfl, by rw [hU], by rw [hU]; exact hW.1, by rw [hU]; exact hW.2.2, va_K.moved hW9.alike hK, va_K.moved hW9.alike hKo, xM_warm hW9 hM, xX_at hEx hS (fun q h => lA_w hS hsz0 (by omega) q h) hU hW9, xNC_warm hW9 hNc⟩⟩ rfl rfl hl.1 rfl (lv_room (Nat.le_of_ble_eq_true rfl)) dL_law_1268 ⟨by show cells + 1 ≤ 601024; omega, by show slots + 6 ≤ 7293034; omega⟩) hS (fun q _ h => lA_w hS hsz0 (by omega) q h) (lA_w hS hsz0 (by omega)) (fun r1 u9 t9 H1 locs ht9 hvm9 hw9 hB9 hz9 hk9 hS => ?_)
  obtain ⟨hP9, hO9⟩ := hB9
  rw [ht9] at hP9 hO9
  have hW := LW_w hW hk9 hP9 hO9
  obtain ⟨hk1, hk2, cd, z, er1, hsp, hout⟩ := hw9
  have hT := LRt_c hT ⟨hk1, hk2⟩
  clear hk1 hk2
  obtain ⟨u1, f1⟩ := u9
  try dsimp only at hW hT hout
  clear hk9 hP9 hO9
  generalize H1 = H at hW hS ⊢
  refine lv_istore (lv' := [(5, .int r1), (4, .int (iZ i)), (0, .ref b), (1, .ref h0), (2, .ref (h0 + 233)), (3, .ref (h0 + 6558))]) hx hb dL_law_1271 hl (by decide) rfl (fun ls hl => ?_)
  refine lv_aload_n hx hb dL_law_1273 rfl (lv_at hl 4 rfl) ?_
  refine lv_aload_n hx hb dL_law_1274 rfl (lv_at hl 2 rfl) ?_
  refine lv_iload hx hb dL_law_1275 (lv_at hl 1 rfl) ?_
  refine lv_iconst (v := iZ 1) hx hb dL_law_1277 rfl ?_
  refine lv_iadd hx hb dL_law_1278 ?_
  refine lv_topi (fun x9 ex9 => ?_)
  obtain rfl : x9 = iZ (i + 1) := ex9.trans (iZ_add _ _)
  refine va_sld hx hb hX hbl hbA hS (iZ_in (by omega) (by omega) (by omega)) dL_law_1279 ?_
  refine lv_topi (fun x9 ex9 => ?_)
  obtain rfl : x9 = iZ a1 := ex9.trans e1
  refine lv_aload_n hx hb dL_law_1280 rfl (lv_at hl 2 rfl) ?_
  refine lv_iload hx hb dL_law_1281 (lv_at hl 1 rfl) ?_
  refine lv_iconst (v := iZ 2) hx hb dL_law_1283 rfl ?_
  refine lv_iadd hx hb dL_law_1284 ?_
  refine lv_topi (fun x9 ex9 => ?_)
  obtain rfl : x9 = iZ (i + 2) := ex9.trans (iZ_add _ _)
  refine va_sld hx hb hX hbl hbA hS (iZ_in (by omega) (by omega) (by omega)) dL_law_1285 ?_
  refine lv_topi (fun x9 ex9 => ?_)
  obtain rfl : x9 = iZ a2 := ex9.trans e2
  refine va_calli (va_runV (As := [.int (iZ a1), .int (iZ a2)]) (rest := []) ⟨hx, hb, hml, hown, hts⟩ (f_similar l dC dI cI cZ cII cIII (h0 + 233) H.size ν a1 a2 wp wq hT.1.1.2.1.1 ha1 ha2 (pf_m hp9a) (pf_m hp9b)) (cwV 2 hts (gV_G k1755 k1756 k1757 k13 k1758) rfl rfl rfl (by decide +kernel) ⟨Nat.le_of_ble_eq_true rfl, Nat.le_of_ble_eq_true rfl⟩) ⟨fun a U g mk q => by obtain ⟨q0, q1, qP, qK⟩ := q; exact ⟨q0, q1, qP, va_K.moved (u := U) (U := U.calling g mk a) (Vm.Alike.refl U.vm) qK⟩, va_recv hKm hW.2.1 (ci := 10) (q0 := 0) rfl ((fw_get (by decide)).trans (by rw [mE_obj])), fun U hU hW9 => ⟨rfl, by rw [hU], by rw [hU]; exact hW.2.1, va_K.moved hW9.alike hKm⟩⟩ rfl rfl hl.1 rfl (lv_room (Nat.le_of_ble_eq_true rfl)) dL_law_1286 ⟨by show cells + 1 + 0 ≤ 601024; omega, by show slots + 6 + 0 ≤ 7293034; omega⟩) hS (fun q _ h => lA_f hS hsz0 (by omega) q h) (lA_f hS hsz0 (by omega)) (fun r2 u9 t9 H1 locs ht9 hvm9 hw9 hB9 hz9 hk9 hS => ?_)
  obtain ⟨hP9, -⟩ := hB9
  rw [ht9] at hP9
  have hW := LW_m hW hk9 hP9
  obtain ⟨v1, q2⟩ := u9
  obtain ⟨er9, hw9⟩ := hw9
  have er2 : r2 = iZ q2 := er9
  subst er2
  have hm9 := hw9
  have hT := LRt_ps hT hw9.1
  try dsimp only at hW hT
  clear hk9 hP9
  generalize H1 = H at hW hS ⊢
  refine lv_istore (lv' := [(6, .int (iZ q2)), (5, .int r1), (4, .int (iZ i)), (0, .ref b), (1, .ref h0), (2, .ref (h0 + 233)), (3, .ref (h0 + 6558))]) hx hb dL_law_1289 hl (by decide) rfl (fun ls hl => ?_)
  refine lv_aload_n hx hb dL_law_1291 rfl (lv_at hl 5 rfl) ?_
  refine va_calli (va_runV (As := []) (rest := []) ⟨hx, hb, hml, hown, hts⟩ (m_thrown l dC dI cI cZ cII cIII (h0 + 233) H.size v1 ) (cwV 0 hts (gV_G k1327 k1328 k1329 k13 k1330) rfl rfl rfl (by decide +kernel) ⟨Nat.le_of_ble_eq_true rfl, Nat.le_of_ble_eq_true rfl⟩) ⟨fun a U g mk q => by obtain ⟨q0, q1, qP, qK⟩ := q; exact ⟨q0, q1, qP, va_K.moved (u := U) (U := U.calling g mk a) (Vm.Alike.refl U.vm) qK⟩, va_recv hKm hW.2.1 (ci := 10) (q0 := 0) rfl ((fw_get (by decide)).trans (by rw [mE_obj])), fun U hU hW9 => ⟨rfl, by rw [hU], by rw [hU]; exact hW.2.1, va_K.moved hW9.alike hKm⟩⟩ rfl rfl hl.1 rfl (lv_room (Nat.le_of_ble_eq_true rfl)) dL_law_1292 ⟨by show cells + 1 + 0 ≤ 601024; omega, by show slots + 6 + 0 ≤ 7293034; omega⟩) hS (fun q _ h => lA_f hS hsz0 (by omega) q h) (lA_f hS hsz0 (by omega)) (fun r3 u9 t9 H1 locs ht9 hvm9 hw9 hB9 hz9 hk9 hS => ?_)
  obtain ⟨hP9, -⟩ := hB9
  rw [ht9] at hP9
  have hW := LW_m hW hk9 hP9
  obtain ⟨v3, q3⟩ := u9
  obtain ⟨er9, hw9⟩ := hw9
  have er3 : r3 = iZ q3 := er9
  subst er3
  obtain ⟨hv3, hq3⟩ := hw9
  have hv3 : v3 = v1 := hv3
  have hq3 : q3 = v1 0 0 := hq3
  try dsimp only at hW
  rw [hv3] at hW
  try dsimp only at hW hT
  clear hk9 hP9
  generalize H1 = H at hW hS ⊢
  refine lv_iload hx hb dL_law_1295 (lv_at hl 1 rfl) ?_
  obtain ⟨hs1, hs2⟩ := sim_same hT0 hsp hm9
  have hs1 : v1 0 0 = cd := hs1
  have hs2 : cd = 0 → q2 = z := hs2
  have hthr : iZ q3 = r1 := by rw [er1, hq3, hs1]
  refine lv_icmp_eq (tgt := 1302) hx hb dL_law_1297 (by decide) (fun _ => ?_) (fun c9 => absurd hthr c9)
  refine lv_iload hx hb dL_law_1302 (lv_at hl 1 rfl) ?_
  have hend9 : W p l e room_1 s m #[Value.ref b] below meth c H locs (cells + 1) (slots + 6) (lw_Z below #[Value.ref b] s) (F0 m 1326 ls []) := by
    refine lv_goto (tgt := 1475) hx hb dL_law_1326 (by decide) ?_
    exact hend _ _ _ H locs ls (⟨T, Ss, hT⟩ : LR9 u1 v1) hW hS (lv_sub hl [2, 3, 4, 5, 6] rfl)
  refine W.widen (k := cells + 1) (n := slots + 6) (by omega) (by omega) ?_
  refine lv_if_ne (tgt := 1326) hx hb dL_law_1304 (by decide) (fun _ => hend9) (fun c9 => ?_)
  have hz9 : cd = 0 := sim_cd0 hsp (by rw [← er1]; exact c9)
  have ho9 := hout hz9
  have hz8 := hs2 hz9
  refine lv_aload_n hx hb dL_law_1307 rfl (lv_at hl 6 rfl) ?_
  refine lv_iconst (v := iZ 0) hx hb dL_law_1308 rfl ?_
  refine va_lald hx hb hKo hW.2.2 0 0 rfl rfl (by unfold vp_in; decide +kernel) dL_law_1309 ?_
  refine lv_topl (fun y9 ey9 => ?_)
  obtain rfl : y9 = (iZ z).toInt64 := ey9.trans ((congrArg f1 lo_0).trans ho9)
  refine lv_iload hx hb dL_law_1310 (lv_at hl 0 rfl) ?_
  have hz01 : z = 0 ∨ z = 1 := by rw [hsp.2 hz9]; exact simV_c wp wq
  refine lv_if_eq (tgt := 1319) hx hb dL_law_1312 (by decide) (fun c8 => ?_) (fun c8 => ?_)
  · refine lv_lconst (v := 0) hx hb dL_law_1319 rfl ?_
    rw [bl_0 hz8 hz01 c8]
    refine x_lcmp0 hx hb dL_law_1320 ?_
    refine lv_if_eq (tgt := 1326) hx hb dL_law_1321 (by decide) (fun _ => ?_) (fun c9 => (c9 rfl).elim)
    exact hend9
  · refine lv_lconst (v := 1) hx hb dL_law_1315 rfl ?_
    refine lv_goto (tgt := 1320) hx hb dL_law_1316 (by decide) ?_
    rw [bl_1 hz8 hz01 c8]
    refine x_lcmp0 hx hb dL_law_1320 ?_
    refine lv_if_eq (tgt := 1326) hx hb dL_law_1321 (by decide) (fun _ => ?_) (fun c9 => (c9 rfl).elim)
    exact hend9
set_option maxHeartbeats 4000000 in
set_option maxRecDepth 100000 in
theorem lc_step {p : Program} {l : Launch} {e : Env} {s : State} {m : MethodId} {below : List Frame} {meth : Method} {c : Code} {dC : Nat → ClassId} {dI : Nat → Nat → Nat} {cI cL cII cR cZ cIII cO : ClassId} {h0 b L : Nat} {xs : Nat → Int32} (C0 : lx_C p l s m c b L xs dC dI cI cL cII cR cZ cIII cO h0) {i : Int} (hi : 0 ≤ i ∧ i + 6 ≤ L) {μ ν : va_M} {f : Nat → Int64} (hV : LR9 μ ν) {cells slots : Nat} (hroom : cells + 1 ≤ 601024 ∧ slots + 6 ≤ 7293034)
    (hend : ∀ (μ ν : va_M) (f : Nat → Int64) (H : Heap) (locs : List Loc) (ls : Array Slot), LR9 μ ν → LW dC dI cI cL cII cR cZ cIII cO h0 μ ν f H → va_S (lA h0) s.heap H locs → lv_has ls 7 [(4, .int (iZ i)), (0, .ref b), (1, .ref h0), (2, .ref (h0 + 233)), (3, .ref (h0 + 6558))] → W p l e room_1 s m #[Value.ref b] below meth c H locs (cells + 1) (slots + 6) (lw_Z below #[Value.ref b] s) (F0 m 1475 ls []))
    {H : Heap} {locs : List Loc} {ls : Array Slot} (hW : LW dC dI cI cL cII cR cZ cIII cO h0 μ ν f H) (hS : va_S (lA h0) s.heap H locs) (hl : lv_has ls 7 [(4, .int (iZ i)), (0, .ref b), (1, .ref h0), (2, .ref (h0 + 233)), (3, .ref (h0 + 6558))]) : W p l e room_1 s m #[Value.ref b] below meth c H locs cells slots (lw_Z below #[Value.ref b] s) (F0 m 1329 ls []) := by
  obtain ⟨hfl, hx, hb, hml, hown, hts, hX, hbl, hsz0, hL9, hK, hKm, hKo, hM, hEx, hNc⟩ := C0
  obtain ⟨T, Ss, hT⟩ := hV
  have hT : LRt T Ss μ ν := hT
  have hT0 := hT
  have hbA : ¬ lA h0 b := Nat.not_le.mpr (by omega)
  obtain ⟨a1, e1, ha1⟩ := iZ_ex (xs (iZ (i + 1)).toNatClampNeg)
  obtain ⟨a2, e2, ha2⟩ := iZ_ex (xs (iZ (i + 2)).toNatClampNeg)
  obtain ⟨a3, e3, ha3⟩ := iZ_ex (xs (iZ (i + 3)).toNatClampNeg)
  refine lv_aload_n hx hb dL_law_1329 rfl (lv_at hl 2 rfl) ?_
  refine lv_aload_n hx hb dL_law_1330 rfl (lv_at hl 1 rfl) ?_
  refine lv_iload hx hb dL_law_1331 (lv_at hl 0 rfl) ?_
  refine lv_iconst (v := iZ 1) hx hb dL_law_1333 rfl ?_
  refine lv_iadd hx hb dL_law_1334 ?_
  refine lv_topi (fun x9 ex9 => ?_)
  obtain rfl : x9 = iZ (i + 1) := ex9.trans (iZ_add _ _)
  refine va_sld hx hb hX hbl hbA hS (iZ_in (by omega) (by omega) (by omega)) dL_law_1335 ?_
  refine lv_topi (fun x9 ex9 => ?_)
  obtain rfl : x9 = iZ a1 := ex9.trans e1
  refine lv_aload_n hx hb dL_law_1336 rfl (lv_at hl 1 rfl) ?_
  refine lv_iload hx hb dL_law_1337 (lv_at hl 0 rfl) ?_
  refine lv_iconst (v := iZ 2) hx hb dL_law_1339 rfl ?_
  refine lv_iadd hx hb dL_law_1340 ?_
  refine lv_topi (fun x9 ex9 => ?_)
  obtain rfl : x9 = iZ (i + 2) := ex9.trans (iZ_add _ _)
  refine va_sld hx hb hX hbl hbA hS (iZ_in (by omega) (by omega) (by omega)) dL_law_1341 ?_
  refine lv_topi (fun x9 ex9 => ?_)
  obtain rfl : x9 = iZ a2 := ex9.trans e2
  refine lv_aload_n hx hb dL_law_1342 rfl (lv_at hl 1 rfl) ?_
  refine lv_iload hx hb dL_law_1343 (lv_at hl 0 rfl) ?_
  refine lv_iconst (v := iZ 3) hx hb dL_law_1345 rfl ?_
  refine lv_iadd hx hb dL_law_1346 ?_
  refine lv_topi (fun x9 ex9 => ?_)
  obtain rfl : x9 = iZ (i + 3) := ex9.trans (iZ_add _ _)
  refine va_sld hx hb hX hbl hbA hS (iZ_in (by omega) (by omega) (by omega)) dL_law_1347 ?_
  refine lv_topi (fun x9 ex9 => ?_)
  obtain rfl : x9 = iZ a3 := ex9.trans e3
  refine lv_aload_n hx hb dL_law_1348 rfl (lv_at hl 4 rfl) ?_
  refine va_calli (vx_runSW (hh := [(0, 12, 15, 20), (0, 12, 19, 13)]) (As := [.ref h0, .int (iZ a1), .int (iZ a2), .int (iZ a3), .ref (h0 + 6558)]) (rest := []) ⟨hx, hb, hml, hown, hts⟩ (w_step l hfl dC dI cI cL cII cR cO h0 (h0 + 6558) H.size μ f a1 a2 a3 T (hT.1.1.1) ha1 ha2 ha3 (by omega)) (vx_cwSW 5 hts (gW_G k1135 k1136 k0 k1137) rfl rfl rfl (by decide +kernel) ⟨Nat.le_of_ble_eq_true rfl, Nat.le_of_ble_eq_true rfl⟩) ⟨fun a U g mk q => by obtain ⟨q0, q1, qP, qO, qK, qKo, qM, qE, qN⟩ := q; exact ⟨q0, q1, qP, qO, va_K.moved (u := U) (U := U.calling g mk a) (Vm.Alike.refl U.vm) qK, va_K.moved (u := U) (U := U.calling g mk a) (Vm.Alike.refl U.vm) qKo, qM, xX_call qE, qN⟩, fun U hU hW9 => ⟨rfl, by rw [hU], by rw [hU]; exact hW.1, by rw [hU]; exact hW.2.2, va_K.moved hW9.alike hK, va_K.moved hW9.alike hKo, xM_warm hW9 hM, xX_at hEx hS (fun q h => lA_w hS hsz0 (by omega) q h) hU hW9, xNC_warm hW9 hNc⟩⟩ rfl rfl hl.1 rfl (lv_room (Nat.le_of_ble_eq_true rfl)) dL_law_1349 ⟨by show cells + 1 ≤ 601024; omega, by show slots + 6 ≤ 7293034; omega⟩) hS (fun q _ h => lA_w hS hsz0 (by omega) q h) (lA_w hS hsz0 (by omega)) (fun r1 u9 t9 H1 locs ht9 hvm9 hw9 hB9 hz9 hk9 hS => ?_)
  obtain ⟨hP9, hO9⟩ := hB9
  rw [ht9] at hP9 hO9
  have hW := LW_w hW hk9 hP9 hO9
  have hT := LRt_c hT hw9
  obtain ⟨u1, f1⟩ := u9
  try dsimp only at hW hT
  clear hk9 hP9 hO9
  generalize H1 = H at hW hS ⊢
  refine lv_istore (lv' := [(5, .int r1), (4, .int (iZ i)), (0, .ref b), (1, .ref h0), (2, .ref (h0 + 233)), (3, .ref (h0 + 6558))]) hx hb dL_law_1352 hl (by decide) rfl (fun ls hl => ?_)
  refine lv_aload_n hx hb dL_law_1354 rfl (lv_at hl 4 rfl) ?_
  refine lv_aload_n hx hb dL_law_1355 rfl (lv_at hl 2 rfl) ?_
  refine lv_iload hx hb dL_law_1356 (lv_at hl 1 rfl) ?_
  refine lv_iconst (v := iZ 1) hx hb dL_law_1358 rfl ?_
  refine lv_iadd hx hb dL_law_1359 ?_
  refine lv_topi (fun x9 ex9 => ?_)
  obtain rfl : x9 = iZ (i + 1) := ex9.trans (iZ_add _ _)
  refine va_sld hx hb hX hbl hbA hS (iZ_in (by omega) (by omega) (by omega)) dL_law_1360 ?_
  refine lv_topi (fun x9 ex9 => ?_)
  obtain rfl : x9 = iZ a1 := ex9.trans e1
  refine lv_aload_n hx hb dL_law_1361 rfl (lv_at hl 2 rfl) ?_
  refine lv_iload hx hb dL_law_1362 (lv_at hl 1 rfl) ?_
  refine lv_iconst (v := iZ 2) hx hb dL_law_1364 rfl ?_
  refine lv_iadd hx hb dL_law_1365 ?_
  refine lv_topi (fun x9 ex9 => ?_)
  obtain rfl : x9 = iZ (i + 2) := ex9.trans (iZ_add _ _)
  refine va_sld hx hb hX hbl hbA hS (iZ_in (by omega) (by omega) (by omega)) dL_law_1366 ?_
  refine lv_topi (fun x9 ex9 => ?_)
  obtain rfl : x9 = iZ a2 := ex9.trans e2
  refine lv_aload_n hx hb dL_law_1367 rfl (lv_at hl 2 rfl) ?_
  refine lv_iload hx hb dL_law_1368 (lv_at hl 1 rfl) ?_
  refine lv_iconst (v := iZ 3) hx hb dL_law_1370 rfl ?_
  refine lv_iadd hx hb dL_law_1371 ?_
  refine lv_topi (fun x9 ex9 => ?_)
  obtain rfl : x9 = iZ (i + 3) := ex9.trans (iZ_add _ _)
  refine va_sld hx hb hX hbl hbA hS (iZ_in (by omega) (by omega) (by omega)) dL_law_1372 ?_
  refine lv_topi (fun x9 ex9 => ?_)
  obtain rfl : x9 = iZ a3 := ex9.trans e3
  refine va_calli (va_runV (As := [.int (iZ a1), .int (iZ a2), .int (iZ a3)]) (rest := []) ⟨hx, hb, hml, hown, hts⟩ (m_step l dC dI cI cZ cII cIII (h0 + 233) H.size ν a1 a2 a3 hT.1.1.2.1.1 ha1 ha2 ha3) (cwV 3 hts (gV_G k1759 k1760 k1761 k13 k1762) rfl rfl rfl (by decide +kernel) ⟨Nat.le_of_ble_eq_true rfl, Nat.le_of_ble_eq_true rfl⟩) ⟨fun a U g mk q => by obtain ⟨q0, q1, qP, qK⟩ := q; exact ⟨q0, q1, qP, va_K.moved (u := U) (U := U.calling g mk a) (Vm.Alike.refl U.vm) qK⟩, va_recv hKm hW.2.1 (ci := 10) (q0 := 0) rfl ((fw_get (by decide)).trans (by rw [mE_obj])), fun U hU hW9 => ⟨rfl, by rw [hU], by rw [hU]; exact hW.2.1, va_K.moved hW9.alike hKm⟩⟩ rfl rfl hl.1 rfl (lv_room (Nat.le_of_ble_eq_true rfl)) dL_law_1373 ⟨by show cells + 1 + 0 ≤ 601024; omega, by show slots + 6 + 0 ≤ 7293034; omega⟩) hS (fun q _ h => lA_f hS hsz0 (by omega) q h) (lA_f hS hsz0 (by omega)) (fun r2 u9 t9 H1 locs ht9 hvm9 hw9 hB9 hz9 hk9 hS => ?_)
  obtain ⟨hP9, -⟩ := hB9
  rw [ht9] at hP9
  have hW := LW_m hW hk9 hP9
  obtain ⟨v1, q2⟩ := u9
  obtain ⟨er9, hw9⟩ := hw9
  have er2 : r2 = iZ q2 := er9
  subst er2
  have hT := LRt_ps hT hw9
  try dsimp only at hW hT
  clear hk9 hP9
  generalize H1 = H at hW hS ⊢
  refine lv_istore (lv' := [(6, .int (iZ q2)), (5, .int r1), (4, .int (iZ i)), (0, .ref b), (1, .ref h0), (2, .ref (h0 + 233)), (3, .ref (h0 + 6558))]) hx hb dL_law_1376 hl (by decide) rfl (fun ls hl => ?_)
  refine lv_goto (tgt := 1475) hx hb dL_law_1378 (by decide) ?_
  have hV9 : LR9 u1 v1 := ⟨T, Ss, hT⟩
  refine W.widen (k := cells + 1) (n := slots + 6) (by omega) (by omega) ?_
  exact hend _ _ _ H locs ls hV9 hW hS (lv_sub hl [2, 3, 4, 5, 6] rfl)
set_option maxHeartbeats 4000000 in
set_option maxRecDepth 100000 in
theorem lc_users {p : Program} {l : Launch} {e : Env} {s : State} {m : MethodId} {below : List Frame} {meth : Method} {c : Code} {dC : Nat → ClassId} {dI : Nat → Nat → Nat} {cI cL cII cR cZ cIII cO : ClassId} {h0 b L : Nat} {xs : Nat → Int32} (C0 : lx_C p l s m c b L xs dC dI cI cL cII cR cZ cIII cO h0) {i : Int} (hi : 0 ≤ i ∧ i + 6 ≤ L) {μ ν : va_M} {f : Nat → Int64} (hV : LR9 μ ν) {cells slots : Nat} (hroom : cells + 1 ≤ 601024 ∧ slots + 6 ≤ 7293034)
    (hend : ∀ (μ ν : va_M) (f : Nat → Int64) (H : Heap) (locs : List Loc) (ls : Array Slot), LR9 μ ν → LW dC dI cI cL cII cR cZ cIII cO h0 μ ν f H → va_S (lA h0) s.heap H locs → lv_has ls 7 [(4, .int (iZ i)), (0, .ref b), (1, .ref h0), (2, .ref (h0 + 233)), (3, .ref (h0 + 6558))] → W p l e room_1 s m #[Value.ref b] below meth c H locs (cells + 1) (slots + 6) (lw_Z below #[Value.ref b] s) (F0 m 1475 ls []))
    {H : Heap} {locs : List Loc} {ls : Array Slot} (hW : LW dC dI cI cL cII cR cZ cIII cO h0 μ ν f H) (hS : va_S (lA h0) s.heap H locs) (hl : lv_has ls 7 [(4, .int (iZ i)), (0, .ref b), (1, .ref h0), (2, .ref (h0 + 233)), (3, .ref (h0 + 6558))]) : W p l e room_1 s m #[Value.ref b] below meth c H locs cells slots (lw_Z below #[Value.ref b] s) (F0 m 1381 ls []) := by
  obtain ⟨hfl, hx, hb, hml, hown, hts, hX, hbl, hsz0, hL9, hK, hKm, hKo, hM, hEx, hNc⟩ := C0
  obtain ⟨T, Ss, hT⟩ := hV
  have hT : LRt T Ss μ ν := hT
  have hT0 := hT
  have hbA : ¬ lA h0 b := Nat.not_le.mpr (by omega)
  obtain ⟨a1, e1, ha1⟩ := iZ_ex (xs (iZ (i + 1)).toNatClampNeg)
  refine lv_aload_n hx hb dL_law_1381 rfl (lv_at hl 2 rfl) ?_
  refine lv_aload_n hx hb dL_law_1382 rfl (lv_at hl 1 rfl) ?_
  refine lv_iload hx hb dL_law_1383 (lv_at hl 0 rfl) ?_
  refine lv_iconst (v := iZ 1) hx hb dL_law_1385 rfl ?_
  refine lv_iadd hx hb dL_law_1386 ?_
  refine lv_topi (fun x9 ex9 => ?_)
  obtain rfl : x9 = iZ (i + 1) := ex9.trans (iZ_add _ _)
  refine va_sld hx hb hX hbl hbA hS (iZ_in (by omega) (by omega) (by omega)) dL_law_1387 ?_
  refine lv_topi (fun x9 ex9 => ?_)
  obtain rfl : x9 = iZ a1 := ex9.trans e1
  refine lv_aload_n hx hb dL_law_1388 rfl (lv_at hl 4 rfl) ?_
  refine va_calli (vx_runSW (hh := [(0, 9, 12, 20)]) (As := [.ref h0, .int (iZ a1), .ref (h0 + 6558)]) (rest := []) ⟨hx, hb, hml, hown, hts⟩ (w_users l hfl dC dI cI cL cII cR cO h0 (h0 + 6558) H.size μ f a1 T (hT.1.1.1) ha1 (by omega)) (vx_cwSW 3 hts (gW_G k1142 k1143 k0 k1144) rfl rfl rfl (by decide +kernel) ⟨Nat.le_of_ble_eq_true rfl, Nat.le_of_ble_eq_true rfl⟩) ⟨fun a U g mk q => by obtain ⟨q0, q1, qP, qO, qK, qKo, qM, qE, qN⟩ := q; exact ⟨q0, q1, qP, qO, va_K.moved (u := U) (U := U.calling g mk a) (Vm.Alike.refl U.vm) qK, va_K.moved (u := U) (U := U.calling g mk a) (Vm.Alike.refl U.vm) qKo, qM, xX_call qE, qN⟩, fun U hU hW9 => ⟨rfl, by rw [hU], by rw [hU]; exact hW.1, by rw [hU]; exact hW.2.2, va_K.moved hW9.alike hK, va_K.moved hW9.alike hKo, xM_warm hW9 hM, xX_at hEx hS (fun q h => lA_w hS hsz0 (by omega) q h) hU hW9, xNC_warm hW9 hNc⟩⟩ rfl rfl hl.1 rfl (lv_room (Nat.le_of_ble_eq_true rfl)) dL_law_1389 ⟨by show cells + 1 ≤ 601024; omega, by show slots + 6 ≤ 7293034; omega⟩) hS (fun q _ h => lA_w hS hsz0 (by omega) q h) (lA_w hS hsz0 (by omega)) (fun r1 u9 t9 H1 locs ht9 hvm9 hw9 hB9 hz9 hk9 hS => ?_)
  obtain ⟨hP9, hO9⟩ := hB9
  rw [ht9] at hP9 hO9
  have hW := LW_w hW hk9 hP9 hO9
  have hT := LRt_c hT hw9
  obtain ⟨u1, f1⟩ := u9
  try dsimp only at hW hT
  clear hk9 hP9 hO9
  generalize H1 = H at hW hS ⊢
  refine lv_istore (lv' := [(5, .int r1), (4, .int (iZ i)), (0, .ref b), (1, .ref h0), (2, .ref (h0 + 233)), (3, .ref (h0 + 6558))]) hx hb dL_law_1392 hl (by decide) rfl (fun ls hl => ?_)
  refine lv_aload_n hx hb dL_law_1394 rfl (lv_at hl 4 rfl) ?_
  refine lv_aload_n hx hb dL_law_1395 rfl (lv_at hl 2 rfl) ?_
  refine lv_iload hx hb dL_law_1396 (lv_at hl 1 rfl) ?_
  refine lv_iconst (v := iZ 1) hx hb dL_law_1398 rfl ?_
  refine lv_iadd hx hb dL_law_1399 ?_
  refine lv_topi (fun x9 ex9 => ?_)
  obtain rfl : x9 = iZ (i + 1) := ex9.trans (iZ_add _ _)
  refine va_sld hx hb hX hbl hbA hS (iZ_in (by omega) (by omega) (by omega)) dL_law_1400 ?_
  refine lv_topi (fun x9 ex9 => ?_)
  obtain rfl : x9 = iZ a1 := ex9.trans e1
  refine va_calli (va_runV (As := [.int (iZ a1)]) (rest := []) ⟨hx, hb, hml, hown, hts⟩ (m_users l dC dI cI cZ cII cIII (h0 + 233) H.size ν a1 hT.1.1.2.1.1 ha1) (cwV 1 hts (gV_G k1687 k1688 k1689 k13 k1690) rfl rfl rfl (by decide +kernel) ⟨Nat.le_of_ble_eq_true rfl, Nat.le_of_ble_eq_true rfl⟩) ⟨fun a U g mk q => by obtain ⟨q0, q1, qP, qK⟩ := q; exact ⟨q0, q1, qP, va_K.moved (u := U) (U := U.calling g mk a) (Vm.Alike.refl U.vm) qK⟩, va_recv hKm hW.2.1 (ci := 10) (q0 := 0) rfl ((fw_get (by decide)).trans (by rw [mE_obj])), fun U hU hW9 => ⟨rfl, by rw [hU], by rw [hU]; exact hW.2.1, va_K.moved hW9.alike hKm⟩⟩ rfl rfl hl.1 rfl (lv_room (Nat.le_of_ble_eq_true rfl)) dL_law_1401 ⟨by show cells + 1 + 0 ≤ 601024; omega, by show slots + 6 + 0 ≤ 7293034; omega⟩) hS (fun q _ h => lA_f hS hsz0 (by omega) q h) (lA_f hS hsz0 (by omega)) (fun r2 u9 t9 H1 locs ht9 hvm9 hw9 hB9 hz9 hk9 hS => ?_)
  obtain ⟨hP9, -⟩ := hB9
  rw [ht9] at hP9
  have hW := LW_m hW hk9 hP9
  obtain ⟨v1, q2⟩ := u9
  obtain ⟨er9, hw9⟩ := hw9
  have er2 : r2 = iZ q2 := er9
  subst er2
  have hT := LRt_ps hT hw9
  try dsimp only at hW hT
  clear hk9 hP9
  generalize H1 = H at hW hS ⊢
  refine lv_istore (lv' := [(6, .int (iZ q2)), (5, .int r1), (4, .int (iZ i)), (0, .ref b), (1, .ref h0), (2, .ref (h0 + 233)), (3, .ref (h0 + 6558))]) hx hb dL_law_1404 hl (by decide) rfl (fun ls hl => ?_)
  refine lv_goto (tgt := 1475) hx hb dL_law_1406 (by decide) ?_
  have hV9 : LR9 u1 v1 := ⟨T, Ss, hT⟩
  refine W.widen (k := cells + 1) (n := slots + 6) (by omega) (by omega) ?_
  exact hend _ _ _ H locs ls hV9 hW hS (lv_sub hl [2, 3, 4, 5, 6] rfl)
set_option maxHeartbeats 4000000 in
set_option maxRecDepth 100000 in
theorem lc_greatest {p : Program} {l : Launch} {e : Env} {s : State} {m : MethodId} {below : List Frame} {meth : Method} {c : Code} {dC : Nat → ClassId} {dI : Nat → Nat → Nat} {cI cL cII cR cZ cIII cO : ClassId} {h0 b L : Nat} {xs : Nat → Int32} (C0 : lx_C p l s m c b L xs dC dI cI cL cII cR cZ cIII cO h0) {i : Int} (hi : 0 ≤ i ∧ i + 6 ≤ L) {μ ν : va_M} {f : Nat → Int64} (hV : LR9 μ ν) {cells slots : Nat} (hroom : cells + 1 ≤ 601024 ∧ slots + 6 ≤ 7293034)
    (hend : ∀ (μ ν : va_M) (f : Nat → Int64) (H : Heap) (locs : List Loc) (ls : Array Slot), LR9 μ ν → LW dC dI cI cL cII cR cZ cIII cO h0 μ ν f H → va_S (lA h0) s.heap H locs → lv_has ls 7 [(4, .int (iZ i)), (0, .ref b), (1, .ref h0), (2, .ref (h0 + 233)), (3, .ref (h0 + 6558))] → W p l e room_1 s m #[Value.ref b] below meth c H locs (cells + 1) (slots + 6) (lw_Z below #[Value.ref b] s) (F0 m 1475 ls []))
    {H : Heap} {locs : List Loc} {ls : Array Slot} (hW : LW dC dI cI cL cII cR cZ cIII cO h0 μ ν f H) (hS : va_S (lA h0) s.heap H locs) (hl : lv_has ls 7 [(4, .int (iZ i)), (0, .ref b), (1, .ref h0), (2, .ref (h0 + 233)), (3, .ref (h0 + 6558))]) : W p l e room_1 s m #[Value.ref b] below meth c H locs cells slots (lw_Z below #[Value.ref b] s) (F0 m 1409 ls []) := by
  obtain ⟨hfl, hx, hb, hml, hown, hts, hX, hbl, hsz0, hL9, hK, hKm, hKo, hM, hEx, hNc⟩ := C0
  obtain ⟨T, Ss, hT⟩ := hV
  have hT : LRt T Ss μ ν := hT
  have hT0 := hT
  have hbA : ¬ lA h0 b := Nat.not_le.mpr (by omega)
  obtain ⟨a1, e1, ha1⟩ := iZ_ex (xs (iZ (i + 1)).toNatClampNeg)
  refine lv_aload_n hx hb dL_law_1409 rfl (lv_at hl 2 rfl) ?_
  refine lv_aload_n hx hb dL_law_1410 rfl (lv_at hl 1 rfl) ?_
  refine lv_iload hx hb dL_law_1411 (lv_at hl 0 rfl) ?_
  refine lv_iconst (v := iZ 1) hx hb dL_law_1413 rfl ?_
  refine lv_iadd hx hb dL_law_1414 ?_
  refine lv_topi (fun x9 ex9 => ?_)
  obtain rfl : x9 = iZ (i + 1) := ex9.trans (iZ_add _ _)
  refine va_sld hx hb hX hbl hbA hS (iZ_in (by omega) (by omega) (by omega)) dL_law_1415 ?_
  refine lv_topi (fun x9 ex9 => ?_)
  obtain rfl : x9 = iZ a1 := ex9.trans e1
  refine lv_aload_n hx hb dL_law_1416 rfl (lv_at hl 4 rfl) ?_
  refine va_calli (vx_runSW (hh := [(0, 9, 12, 20)]) (As := [.ref h0, .int (iZ a1), .ref (h0 + 6558)]) (rest := []) ⟨hx, hb, hml, hown, hts⟩ (w_greatest l hfl dC dI cI cL cII cR cO h0 (h0 + 6558) H.size μ f a1 T (hT.1.1.1) ha1 (by omega)) (vx_cwSW 3 hts (gW_G k1149 k1150 k0 k1151) rfl rfl rfl (by decide +kernel) ⟨Nat.le_of_ble_eq_true rfl, Nat.le_of_ble_eq_true rfl⟩) ⟨fun a U g mk q => by obtain ⟨q0, q1, qP, qO, qK, qKo, qM, qE, qN⟩ := q; exact ⟨q0, q1, qP, qO, va_K.moved (u := U) (U := U.calling g mk a) (Vm.Alike.refl U.vm) qK, va_K.moved (u := U) (U := U.calling g mk a) (Vm.Alike.refl U.vm) qKo, qM, xX_call qE, qN⟩, fun U hU hW9 => ⟨rfl, by rw [hU], by rw [hU]; exact hW.1, by rw [hU]; exact hW.2.2, va_K.moved hW9.alike hK, va_K.moved hW9.alike hKo, xM_warm hW9 hM, xX_at hEx hS (fun q h => lA_w hS hsz0 (by omega) q h) hU hW9, xNC_warm hW9 hNc⟩⟩ rfl rfl hl.1 rfl (lv_room (Nat.le_of_ble_eq_true rfl)) dL_law_1417 ⟨by show cells + 1 ≤ 601024; omega, by show slots + 6 ≤ 7293034; omega⟩) hS (fun q _ h => lA_w hS hsz0 (by omega) q h) (lA_w hS hsz0 (by omega)) (fun r1 u9 t9 H1 locs ht9 hvm9 hw9 hB9 hz9 hk9 hS => ?_)
  obtain ⟨hP9, hO9⟩ := hB9
  rw [ht9] at hP9 hO9
  have hW := LW_w hW hk9 hP9 hO9
  have hT := LRt_c hT hw9
  obtain ⟨u1, f1⟩ := u9
  try dsimp only at hW hT
  clear hk9 hP9 hO9
  generalize H1 = H at hW hS ⊢
  refine lv_istore (lv' := [(5, .int r1), (4, .int (iZ i)), (0, .ref b), (1, .ref h0), (2, .ref (h0 + 233)), (3, .ref (h0 + 6558))]) hx hb dL_law_1420 hl (by decide) rfl (fun ls hl => ?_)
  refine lv_aload_n hx hb dL_law_1422 rfl (lv_at hl 4 rfl) ?_
  refine lv_aload_n hx hb dL_law_1423 rfl (lv_at hl 2 rfl) ?_
  refine lv_iload hx hb dL_law_1424 (lv_at hl 1 rfl) ?_
  refine lv_iconst (v := iZ 1) hx hb dL_law_1426 rfl ?_
  refine lv_iadd hx hb dL_law_1427 ?_
  refine lv_topi (fun x9 ex9 => ?_)
  obtain rfl : x9 = iZ (i + 1) := ex9.trans (iZ_add _ _)
  refine va_sld hx hb hX hbl hbA hS (iZ_in (by omega) (by omega) (by omega)) dL_law_1428 ?_
  refine lv_topi (fun x9 ex9 => ?_)
  obtain rfl : x9 = iZ a1 := ex9.trans e1
  refine va_calli (va_runV (As := [.int (iZ a1)]) (rest := []) ⟨hx, hb, hml, hown, hts⟩ (m_greatest l dC dI cI cZ cII cIII (h0 + 233) H.size ν a1 hT.1.1.2.1.1 ha1) (cwV 1 hts (gV_G k1691 k1692 k1693 k13 k1694) rfl rfl rfl (by decide +kernel) ⟨Nat.le_of_ble_eq_true rfl, Nat.le_of_ble_eq_true rfl⟩) ⟨fun a U g mk q => by obtain ⟨q0, q1, qP, qK⟩ := q; exact ⟨q0, q1, qP, va_K.moved (u := U) (U := U.calling g mk a) (Vm.Alike.refl U.vm) qK⟩, va_recv hKm hW.2.1 (ci := 10) (q0 := 0) rfl ((fw_get (by decide)).trans (by rw [mE_obj])), fun U hU hW9 => ⟨rfl, by rw [hU], by rw [hU]; exact hW.2.1, va_K.moved hW9.alike hKm⟩⟩ rfl rfl hl.1 rfl (lv_room (Nat.le_of_ble_eq_true rfl)) dL_law_1429 ⟨by show cells + 1 + 0 ≤ 601024; omega, by show slots + 6 + 0 ≤ 7293034; omega⟩) hS (fun q _ h => lA_f hS hsz0 (by omega) q h) (lA_f hS hsz0 (by omega)) (fun r2 u9 t9 H1 locs ht9 hvm9 hw9 hB9 hz9 hk9 hS => ?_)
  obtain ⟨hP9, -⟩ := hB9
  rw [ht9] at hP9
  have hW := LW_m hW hk9 hP9
  obtain ⟨v1, q2⟩ := u9
  obtain ⟨er9, hw9⟩ := hw9
  have er2 : r2 = iZ q2 := er9
  subst er2
  have hT := LRt_ps hT hw9
  try dsimp only at hW hT
  clear hk9 hP9
  generalize H1 = H at hW hS ⊢
  refine lv_istore (lv' := [(6, .int (iZ q2)), (5, .int r1), (4, .int (iZ i)), (0, .ref b), (1, .ref h0), (2, .ref (h0 + 233)), (3, .ref (h0 + 6558))]) hx hb dL_law_1432 hl (by decide) rfl (fun ls hl => ?_)
  refine lv_goto (tgt := 1475) hx hb dL_law_1434 (by decide) ?_
  have hV9 : LR9 u1 v1 := ⟨T, Ss, hT⟩
  refine W.widen (k := cells + 1) (n := slots + 6) (by omega) (by omega) ?_
  exact hend _ _ _ H locs ls hV9 hW hS (lv_sub hl [2, 3, 4, 5, 6] rfl)
set_option maxHeartbeats 4000000 in
set_option maxRecDepth 100000 in
theorem lc_fitting {p : Program} {l : Launch} {e : Env} {s : State} {m : MethodId} {below : List Frame} {meth : Method} {c : Code} {dC : Nat → ClassId} {dI : Nat → Nat → Nat} {cI cL cII cR cZ cIII cO : ClassId} {h0 b L : Nat} {xs : Nat → Int32} (C0 : lx_C p l s m c b L xs dC dI cI cL cII cR cZ cIII cO h0) {i : Int} (hi : 0 ≤ i ∧ i + 6 ≤ L) {μ ν : va_M} {f : Nat → Int64} (hV : LR9 μ ν) {cells slots : Nat} (hroom : cells + 1 ≤ 601024 ∧ slots + 6 ≤ 7293034)
    (hend : ∀ (μ ν : va_M) (f : Nat → Int64) (H : Heap) (locs : List Loc) (ls : Array Slot), LR9 μ ν → LW dC dI cI cL cII cR cZ cIII cO h0 μ ν f H → va_S (lA h0) s.heap H locs → lv_has ls 7 [(4, .int (iZ i)), (0, .ref b), (1, .ref h0), (2, .ref (h0 + 233)), (3, .ref (h0 + 6558))] → W p l e room_1 s m #[Value.ref b] below meth c H locs (cells + 1) (slots + 6) (lw_Z below #[Value.ref b] s) (F0 m 1475 ls []))
    {H : Heap} {locs : List Loc} {ls : Array Slot} (hW : LW dC dI cI cL cII cR cZ cIII cO h0 μ ν f H) (hS : va_S (lA h0) s.heap H locs) (hl : lv_has ls 7 [(4, .int (iZ i)), (0, .ref b), (1, .ref h0), (2, .ref (h0 + 233)), (3, .ref (h0 + 6558))]) : W p l e room_1 s m #[Value.ref b] below meth c H locs cells slots (lw_Z below #[Value.ref b] s) (F0 m 1437 ls []) := by
  obtain ⟨hfl, hx, hb, hml, hown, hts, hX, hbl, hsz0, hL9, hK, hKm, hKo, hM, hEx, hNc⟩ := C0
  obtain ⟨T, Ss, hT⟩ := hV
  have hT : LRt T Ss μ ν := hT
  have hT0 := hT
  have hbA : ¬ lA h0 b := Nat.not_le.mpr (by omega)
  refine lv_aload_n hx hb dL_law_1437 rfl (lv_at hl 2 rfl) ?_
  refine va_calli (va_runV (As := []) (rest := []) ⟨hx, hb, hml, hown, hts⟩ (q_fitting l dC dI cI cL cII cR h0 H.size μ  T (hT.1.1.1) ) (cwV 0 hts (gV_G k531 k532 k533 k1 k534) rfl rfl rfl (by decide +kernel) ⟨Nat.le_of_ble_eq_true rfl, Nat.le_of_ble_eq_true rfl⟩) ⟨fun a U g mk q => by obtain ⟨q0, q1, qP, qK, qM⟩ := q; exact ⟨q0, q1, qP, va_K.moved (u := U) (U := U.calling g mk a) (Vm.Alike.refl U.vm) qK, qM⟩, va_recv hK hW.1 (ci := 9) (q0 := 0) rfl ((fw_get (by decide)).trans (by rw [sE_0]; rfl)), fun U hU hW9 => ⟨rfl, by rw [hU], by rw [hU]; exact hW.1, va_K.moved hW9.alike hK, xM_warm hW9 hM⟩⟩ rfl rfl hl.1 rfl (lv_room (Nat.le_of_ble_eq_true rfl)) dL_law_1438 ⟨by show cells + 0 ≤ 601024; omega, by show slots + 0 ≤ 7293034; omega⟩) hS (fun q _ h => lA_f hS hsz0 (Nat.le_refl _) q h) (lA_f hS hsz0 (Nat.le_refl _)) (fun r1 u9 t9 H1 locs ht9 hvm9 hw9 hB9 hz9 hk9 hS => ?_)
  obtain ⟨hP9, -⟩ := hB9
  rw [ht9] at hP9
  have hW := LW_c hW hk9 hP9
  obtain ⟨u1, q1⟩ := u9
  obtain ⟨er9, hw9⟩ := hw9
  have er1 : r1 = iZ q1 := er9
  subst er1
  have hT := LRt_c hT hw9
  try dsimp only at hW hT
  clear hk9 hP9
  generalize H1 = H at hW hS ⊢
  refine lv_pop hx hb dL_law_1441 rfl ?_
  refine lv_aload_n hx hb dL_law_1442 rfl (lv_at hl 3 rfl) ?_
  refine va_calli (va_runV (As := []) (rest := []) ⟨hx, hb, hml, hown, hts⟩ (m_fitting l dC dI cI cZ cII cIII (h0 + 233) H.size ν hT.1.1.2.1.1) (cwV 0 hts (gV_G k1647 k1648 k1649 k13 k1650) rfl rfl rfl (by decide +kernel) ⟨Nat.le_of_ble_eq_true rfl, Nat.le_of_ble_eq_true rfl⟩) ⟨fun a U g mk q => by obtain ⟨q0, q1, qP, qK⟩ := q; exact ⟨q0, q1, qP, va_K.moved (u := U) (U := U.calling g mk a) (Vm.Alike.refl U.vm) qK⟩, va_recv hKm hW.2.1 (ci := 10) (q0 := 0) rfl ((fw_get (by decide)).trans (by rw [mE_obj])), fun U hU hW9 => ⟨rfl, by rw [hU], by rw [hU]; exact hW.2.1, va_K.moved hW9.alike hKm⟩⟩ rfl rfl hl.1 rfl (lv_room (Nat.le_of_ble_eq_true rfl)) dL_law_1443 ⟨by show cells + 0 ≤ 601024; omega, by show slots + 0 ≤ 7293034; omega⟩) hS (fun q _ h => lA_f hS hsz0 (by omega) q h) (lA_f hS hsz0 (by omega)) (fun r2 u9 t9 H1 locs ht9 hvm9 hw9 hB9 hz9 hk9 hS => ?_)
  obtain ⟨hP9, -⟩ := hB9
  rw [ht9] at hP9
  have hW := LW_m hW hk9 hP9
  obtain ⟨v1, q2⟩ := u9
  obtain ⟨er9, hw9⟩ := hw9
  have er2 : r2 = iZ q2 := er9
  subst er2
  have hT := LRt_ps hT hw9
  try dsimp only at hW hT
  clear hk9 hP9
  generalize H1 = H at hW hS ⊢
  refine lv_pop hx hb dL_law_1446 rfl ?_
  refine lv_goto (tgt := 1475) hx hb dL_law_1447 (by decide) ?_
  have hV9 : LR9 u1 v1 := ⟨T, Ss, hT⟩
  refine W.widen (k := cells + 1) (n := slots + 6) (by omega) (by omega) ?_
  exact hend _ _ _ H locs ls hV9 hW hS (lv_sub hl [0, 1, 2, 3, 4] rfl)
set_option maxHeartbeats 4000000 in
set_option maxRecDepth 100000 in
theorem lc_status {p : Program} {l : Launch} {e : Env} {s : State} {m : MethodId} {below : List Frame} {meth : Method} {c : Code} {dC : Nat → ClassId} {dI : Nat → Nat → Nat} {cI cL cII cR cZ cIII cO : ClassId} {h0 b L : Nat} {xs : Nat → Int32} (C0 : lx_C p l s m c b L xs dC dI cI cL cII cR cZ cIII cO h0) {i : Int} (hi : 0 ≤ i ∧ i + 6 ≤ L) {μ ν : va_M} {f : Nat → Int64} (hV : LR9 μ ν) {cells slots : Nat} (hroom : cells + 1 ≤ 601024 ∧ slots + 6 ≤ 7293034)
    (hend : ∀ (μ ν : va_M) (f : Nat → Int64) (H : Heap) (locs : List Loc) (ls : Array Slot), LR9 μ ν → LW dC dI cI cL cII cR cZ cIII cO h0 μ ν f H → va_S (lA h0) s.heap H locs → lv_has ls 7 [(4, .int (iZ i)), (0, .ref b), (1, .ref h0), (2, .ref (h0 + 233)), (3, .ref (h0 + 6558))] → W p l e room_1 s m #[Value.ref b] below meth c H locs (cells + 1) (slots + 6) (lw_Z below #[Value.ref b] s) (F0 m 1475 ls []))
    {H : Heap} {locs : List Loc} {ls : Array Slot} (hW : LW dC dI cI cL cII cR cZ cIII cO h0 μ ν f H) (hS : va_S (lA h0) s.heap H locs) (hl : lv_has ls 7 [(4, .int (iZ i)), (0, .ref b), (1, .ref h0), (2, .ref (h0 + 233)), (3, .ref (h0 + 6558))]) : W p l e room_1 s m #[Value.ref b] below meth c H locs cells slots (lw_Z below #[Value.ref b] s) (F0 m 1450 ls []) := by
  obtain ⟨hfl, hx, hb, hml, hown, hts, hX, hbl, hsz0, hL9, hK, hKm, hKo, hM, hEx, hNc⟩ := C0
  obtain ⟨T, Ss, hT⟩ := hV
  have hT : LRt T Ss μ ν := hT
  have hT0 := hT
  have hbA : ¬ lA h0 b := Nat.not_le.mpr (by omega)
  obtain ⟨a1, e1, ha1⟩ := iZ_ex (xs (iZ (i + 1)).toNatClampNeg)
  refine lv_aload_n hx hb dL_law_1450 rfl (lv_at hl 2 rfl) ?_
  refine lv_aload_n hx hb dL_law_1451 rfl (lv_at hl 1 rfl) ?_
  refine lv_iload hx hb dL_law_1452 (lv_at hl 0 rfl) ?_
  refine lv_iconst (v := iZ 1) hx hb dL_law_1454 rfl ?_
  refine lv_iadd hx hb dL_law_1455 ?_
  refine lv_topi (fun x9 ex9 => ?_)
  obtain rfl : x9 = iZ (i + 1) := ex9.trans (iZ_add _ _)
  refine va_sld hx hb hX hbl hbA hS (iZ_in (by omega) (by omega) (by omega)) dL_law_1456 ?_
  refine lv_topi (fun x9 ex9 => ?_)
  obtain rfl : x9 = iZ a1 := ex9.trans e1
  refine va_calli (va_runV (As := [.int (iZ a1)]) (rest := []) ⟨hx, hb, hml, hown, hts⟩ (q_status l dC dI cI cL cII cR h0 H.size μ a1 T (hT.1.1.1) ha1) (cwV 1 hts (gV_G k583 k584 k585 k1 k586) rfl rfl rfl (by decide +kernel) ⟨Nat.le_of_ble_eq_true rfl, Nat.le_of_ble_eq_true rfl⟩) ⟨fun a U g mk q => by obtain ⟨q0, q1, qP, qK, qM⟩ := q; exact ⟨q0, q1, qP, va_K.moved (u := U) (U := U.calling g mk a) (Vm.Alike.refl U.vm) qK, qM⟩, va_recv hK hW.1 (ci := 9) (q0 := 0) rfl ((fw_get (by decide)).trans (by rw [sE_0]; rfl)), fun U hU hW9 => ⟨rfl, by rw [hU], by rw [hU]; exact hW.1, va_K.moved hW9.alike hK, xM_warm hW9 hM⟩⟩ rfl rfl hl.1 rfl (lv_room (Nat.le_of_ble_eq_true rfl)) dL_law_1457 ⟨by show cells + 0 ≤ 601024; omega, by show slots + 0 ≤ 7293034; omega⟩) hS (fun q _ h => lA_f hS hsz0 (Nat.le_refl _) q h) (lA_f hS hsz0 (Nat.le_refl _)) (fun r1 u9 t9 H1 locs ht9 hvm9 hw9 hB9 hz9 hk9 hS => ?_)
  obtain ⟨hP9, -⟩ := hB9
  rw [ht9] at hP9
  have hW := LW_c hW hk9 hP9
  obtain ⟨u1, q1⟩ := u9
  obtain ⟨er9, hw9⟩ := hw9
  have er1 : r1 = iZ q1 := er9
  subst er1
  have hT := LRt_c hT hw9
  try dsimp only at hW hT
  clear hk9 hP9
  generalize H1 = H at hW hS ⊢
  refine lv_pop hx hb dL_law_1460 rfl ?_
  refine lv_aload_n hx hb dL_law_1461 rfl (lv_at hl 3 rfl) ?_
  refine lv_aload_n hx hb dL_law_1462 rfl (lv_at hl 1 rfl) ?_
  refine lv_iload hx hb dL_law_1463 (lv_at hl 0 rfl) ?_
  refine lv_iconst (v := iZ 1) hx hb dL_law_1465 rfl ?_
  refine lv_iadd hx hb dL_law_1466 ?_
  refine lv_topi (fun x9 ex9 => ?_)
  obtain rfl : x9 = iZ (i + 1) := ex9.trans (iZ_add _ _)
  refine va_sld hx hb hX hbl hbA hS (iZ_in (by omega) (by omega) (by omega)) dL_law_1467 ?_
  refine lv_topi (fun x9 ex9 => ?_)
  obtain rfl : x9 = iZ a1 := ex9.trans e1
  refine va_calli (va_runV (As := [.int (iZ a1)]) (rest := []) ⟨hx, hb, hml, hown, hts⟩ (m_status l dC dI cI cZ cII cIII (h0 + 233) H.size ν a1 ha1) (cwV 1 hts (gV_G k1763 k1764 k1765 k13 k1766) rfl rfl rfl (by decide +kernel) ⟨Nat.le_of_ble_eq_true rfl, Nat.le_of_ble_eq_true rfl⟩) ⟨fun a U g mk q => by obtain ⟨q0, q1, qP, qK⟩ := q; exact ⟨q0, q1, qP, va_K.moved (u := U) (U := U.calling g mk a) (Vm.Alike.refl U.vm) qK⟩, va_recv hKm hW.2.1 (ci := 10) (q0 := 0) rfl ((fw_get (by decide)).trans (by rw [mE_obj])), fun U hU hW9 => ⟨rfl, by rw [hU], by rw [hU]; exact hW.2.1, va_K.moved hW9.alike hKm⟩⟩ rfl rfl hl.1 rfl (lv_room (Nat.le_of_ble_eq_true rfl)) dL_law_1468 ⟨by show cells + 0 ≤ 601024; omega, by show slots + 0 ≤ 7293034; omega⟩) hS (fun q _ h => lA_f hS hsz0 (by omega) q h) (lA_f hS hsz0 (by omega)) (fun r2 u9 t9 H1 locs ht9 hvm9 hw9 hB9 hz9 hk9 hS => ?_)
  obtain ⟨hP9, -⟩ := hB9
  rw [ht9] at hP9
  have hW := LW_m hW hk9 hP9
  obtain ⟨v1, q2⟩ := u9
  obtain ⟨er9, hw9⟩ := hw9
  have er2 : r2 = iZ q2 := er9
  subst er2
  have hT := LRt_uz (r := 0) hT hw9
  try dsimp only at hW hT
  clear hk9 hP9
  generalize H1 = H at hW hS ⊢
  refine lv_pop hx hb dL_law_1471 rfl ?_
  refine lv_goto (tgt := 1475) hx hb dL_law_1472 (by decide) ?_
  have hV9 : LR9 u1 v1 := ⟨T, Ss, hT⟩
  refine W.widen (k := cells + 1) (n := slots + 6) (by omega) (by omega) ?_
  exact hend _ _ _ H locs ls hV9 hW hS (lv_sub hl [0, 1, 2, 3, 4] rfl)

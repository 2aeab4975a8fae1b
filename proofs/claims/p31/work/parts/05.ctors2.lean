set_option maxRecDepth 100000 in
theorem k2 : (Cond.initialized "PageSkeleton$Texts") ∈ wsG := wsG_a1 2 rfl rfl
set_option maxRecDepth 100000 in
theorem k5 : (Cond.initialized "PageSkeleton$Past") ∈ wsG := wsG_a1 5 rfl rfl
set_option maxRecDepth 100000 in
theorem k6 : (Cond.initialized "PageSkeleton$Tidier") ∈ wsG := wsG_a1 6 rfl rfl
set_option maxRecDepth 100000 in
theorem k7 : (Cond.initialized "PageSkeleton$Layer") ∈ wsG := wsG_a1 7 rfl rfl
set_option maxRecDepth 100000 in
theorem k8 : (Cond.initialized "PageSkeleton$Walker") ∈ wsG := wsG_a1 8 rfl rfl
set_option maxRecDepth 100000 in
theorem k9 : (Cond.initialized "PageSkeleton$Orders") ∈ wsG := wsG_a1 9 rfl rfl
set_option maxRecDepth 100000 in
theorem k10 : (Cond.initialized "PageSkeleton$Leaf") ∈ wsG := wsG_a1 10 rfl rfl
set_option maxRecDepth 100000 in
theorem k12 : (Cond.initialized "java/util/Arrays") ∈ wsG := wsG_a1 12 rfl rfl
set_option maxRecDepth 100000 in
theorem k26 : (Cond.methodLink "PageSkeleton" (1 : Nat) ({ cls := "java/lang/Object", name := "<init>", desc := "()V" } : MethodName)) ∈ wsG := wsG_a1 26 rfl rfl
set_option maxRecDepth 100000 in
theorem k29 : (Cond.classLink "PageSkeleton" (7 : Nat) "PageSkeleton$Texts") ∈ wsG := wsG_a1 29 rfl rfl
set_option maxRecDepth 100000 in
theorem k30 : (Cond.instantiable "PageSkeleton$Texts" (8 : Nat)) ∈ wsG := wsG_a1 30 rfl rfl
set_option maxRecDepth 100000 in
theorem k32 : (Cond.instanceMethod ({ cls := "PageSkeleton$Texts", name := "<init>", desc := "()V" } : MethodName)) ∈ wsG := wsG_a1 32 rfl rfl
set_option maxRecDepth 100000 in
theorem k33 : (Cond.code ({ cls := "PageSkeleton$Texts", name := "<init>", desc := "()V" } : MethodName) prog_7_method_1_code (1 : Nat) (Option.none : Option Jvm.ClassFile.FieldType)) ∈ wsG := wsG_a1 33 rfl rfl
set_option maxRecDepth 100000 in
theorem k66 : (Cond.classLink "PageSkeleton" (16 : Nat) "PageSkeleton$Leaf") ∈ wsG := wsG_a1 66 rfl rfl
set_option maxRecDepth 100000 in
theorem k68 : (Cond.classLink "PageSkeleton" (26 : Nat) "PageSkeleton$Row") ∈ wsG := wsG_a1 68 rfl rfl
set_option maxRecDepth 100000 in
theorem k70 : (Cond.methodLink "PageSkeleton" (28 : Nat) ({ cls := "PageSkeleton$Row", name := "<init>", desc := "(I)V" } : MethodName)) ∈ wsG := wsG_a1 70 rfl rfl
set_option maxRecDepth 100000 in
theorem k122 : (Cond.classLink "PageSkeleton" (44 : Nat) "PageSkeleton$Past") ∈ wsG := wsG_a1 122 rfl rfl
set_option maxRecDepth 100000 in
theorem k123 : (Cond.instantiable "PageSkeleton$Past" (5 : Nat)) ∈ wsG := wsG_a1 123 rfl rfl
set_option maxRecDepth 100000 in
theorem k125 : (Cond.instanceMethod ({ cls := "PageSkeleton$Past", name := "<init>", desc := "()V" } : MethodName)) ∈ wsG := wsG_a1 125 rfl rfl
set_option maxRecDepth 100000 in
theorem k126 : (Cond.code ({ cls := "PageSkeleton$Past", name := "<init>", desc := "()V" } : MethodName) prog_5_method_1_code (1 : Nat) (Option.none : Option Jvm.ClassFile.FieldType)) ∈ wsG := wsG_a1 126 rfl rfl
set_option maxRecDepth 100000 in
theorem k147 : (Cond.classLink "PageSkeleton" (51 : Nat) "PageSkeleton$Tidier") ∈ wsG := wsG_a1 147 rfl rfl
set_option maxRecDepth 100000 in
theorem k148 : (Cond.instantiable "PageSkeleton$Tidier" (6 : Nat)) ∈ wsG := wsG_a1 148 rfl rfl
set_option maxRecDepth 100000 in
theorem k150 : (Cond.instanceMethod ({ cls := "PageSkeleton$Tidier", name := "<init>", desc := "()V" } : MethodName)) ∈ wsG := wsG_a1 150 rfl rfl
set_option maxRecDepth 100000 in
theorem k151 : (Cond.code ({ cls := "PageSkeleton$Tidier", name := "<init>", desc := "()V" } : MethodName) prog_8_method_1_code (1 : Nat) (Option.none : Option Jvm.ClassFile.FieldType)) ∈ wsG := wsG_a1 151 rfl rfl
set_option maxRecDepth 100000 in
theorem k175 : (Cond.classLink "PageSkeleton" (58 : Nat) "PageSkeleton$Layer") ∈ wsG := wsG_a1 175 rfl rfl
set_option maxRecDepth 100000 in
theorem k176 : (Cond.instantiable "PageSkeleton$Layer" (7 : Nat)) ∈ wsG := wsG_a1 176 rfl rfl
set_option maxRecDepth 100000 in
theorem k178 : (Cond.instanceMethod ({ cls := "PageSkeleton$Layer", name := "<init>", desc := "()V" } : MethodName)) ∈ wsG := wsG_a1 178 rfl rfl
set_option maxRecDepth 100000 in
theorem k179 : (Cond.code ({ cls := "PageSkeleton$Layer", name := "<init>", desc := "()V" } : MethodName) prog_2_method_1_code (1 : Nat) (Option.none : Option Jvm.ClassFile.FieldType)) ∈ wsG := wsG_a1 179 rfl rfl
set_option maxRecDepth 100000 in
theorem k204 : (Cond.classLink "PageSkeleton" (65 : Nat) "PageSkeleton$Walker") ∈ wsG := wsG_a1 204 rfl rfl
set_option maxRecDepth 100000 in
theorem k205 : (Cond.instantiable "PageSkeleton$Walker" (2 : Nat)) ∈ wsG := wsG_a1 205 rfl rfl
set_option maxRecDepth 100000 in
theorem k207 : (Cond.instanceMethod ({ cls := "PageSkeleton$Walker", name := "<init>", desc := "()V" } : MethodName)) ∈ wsG := wsG_a1 207 rfl rfl
set_option maxRecDepth 100000 in
theorem k208 : (Cond.code ({ cls := "PageSkeleton$Walker", name := "<init>", desc := "()V" } : MethodName) prog_10_method_1_code (1 : Nat) (Option.none : Option Jvm.ClassFile.FieldType)) ∈ wsG := wsG_a1 208 rfl rfl
set_option maxRecDepth 100000 in
theorem k218 : (Cond.classLink "PageSkeleton" (72 : Nat) "PageSkeleton$Orders") ∈ wsG := wsG_a1 218 rfl rfl
set_option maxRecDepth 100000 in
theorem k219 : (Cond.instantiable "PageSkeleton$Orders" (9 : Nat)) ∈ wsG := wsG_a1 219 rfl rfl
set_option maxRecDepth 100000 in
theorem k220 : (Cond.methodLink "PageSkeleton" (74 : Nat) ({ cls := "PageSkeleton$Orders", name := "<init>", desc := "()V" } : MethodName)) ∈ wsG := wsG_a1 220 rfl rfl
set_option maxRecDepth 100000 in
theorem k221 : (Cond.instanceMethod ({ cls := "PageSkeleton$Orders", name := "<init>", desc := "()V" } : MethodName)) ∈ wsG := wsG_a1 221 rfl rfl
set_option maxRecDepth 100000 in
theorem k222 : (Cond.code ({ cls := "PageSkeleton$Orders", name := "<init>", desc := "()V" } : MethodName) prog_4_method_1_code (2 : Nat) (Option.none : Option Jvm.ClassFile.FieldType)) ∈ wsG := wsG_a1 222 rfl rfl
set_option maxRecDepth 100000 in
theorem k258 : (Cond.instantiable "PageSkeleton$Leaf" (8 : Nat)) ∈ wsG := wsG_a2 18 rfl rfl
set_option maxRecDepth 100000 in
theorem k260 : (Cond.instanceMethod ({ cls := "PageSkeleton$Leaf", name := "<init>", desc := "()V" } : MethodName)) ∈ wsG := wsG_a2 20 rfl rfl
set_option maxRecDepth 100000 in
theorem k261 : (Cond.code ({ cls := "PageSkeleton$Leaf", name := "<init>", desc := "()V" } : MethodName) prog_3_method_1_code (1 : Nat) (Option.none : Option Jvm.ClassFile.FieldType)) ∈ wsG := wsG_a2 21 rfl rfl
set_option maxRecDepth 100000 in
theorem k329 : (Cond.methodLink "PageSkeleton" (90 : Nat) ({ cls := "java/util/Arrays", name := "fill", desc := "([II)V" } : MethodName)) ∈ wsG := wsG_a2 89 rfl rfl
set_option maxRecDepth 100000 in
theorem k330 : (Cond.static ({ cls := "java/util/Arrays", name := "fill", desc := "([II)V" } : MethodName)) ∈ wsG := wsG_a2 90 rfl rfl
set_option maxRecDepth 100000 in
theorem k331 : (Cond.code ({ cls := "java/util/Arrays", name := "fill", desc := "([II)V" } : MethodName) prog_21_method_103_code (4 : Nat) (Option.none : Option Jvm.ClassFile.FieldType)) ∈ wsG := wsG_a2 91 rfl rfl
set_option maxRecDepth 100000 in
theorem k332 : (Cond.fieldLink "PageSkeleton" (10 : Nat) "PageSkeleton" "texts" "LPageSkeleton$Texts;") ∈ wsG := wsG_a2 92 rfl rfl
set_option maxRecDepth 100000 in
theorem k333 : (Cond.fieldLink "PageSkeleton" (18 : Nat) "PageSkeleton" "leaves" "[LPageSkeleton$Leaf;") ∈ wsG := wsG_a2 93 rfl rfl
set_option maxRecDepth 100000 in
theorem k334 : (Cond.fieldLink "PageSkeleton" (22 : Nat) "PageSkeleton" "leafCount" "I") ∈ wsG := wsG_a2 94 rfl rfl
set_option maxRecDepth 100000 in
theorem k335 : (Cond.fieldLink "PageSkeleton" (31 : Nat) "PageSkeleton" "skeleton" "LPageSkeleton$Row;") ∈ wsG := wsG_a2 95 rfl rfl
set_option maxRecDepth 100000 in
theorem k336 : (Cond.fieldLink "PageSkeleton" (35 : Nat) "PageSkeleton" "trial" "LPageSkeleton$Row;") ∈ wsG := wsG_a2 96 rfl rfl
set_option maxRecDepth 100000 in
theorem k337 : (Cond.fieldLink "PageSkeleton" (38 : Nat) "PageSkeleton" "costs" "I") ∈ wsG := wsG_a2 97 rfl rfl
set_option maxRecDepth 100000 in
theorem k338 : (Cond.fieldLink "PageSkeleton" (41 : Nat) "PageSkeleton" "stamp" "I") ∈ wsG := wsG_a2 98 rfl rfl
set_option maxRecDepth 100000 in
theorem k339 : (Cond.fieldLink "PageSkeleton" (47 : Nat) "PageSkeleton" "past" "LPageSkeleton$Past;") ∈ wsG := wsG_a2 99 rfl rfl
set_option maxRecDepth 100000 in
theorem k340 : (Cond.fieldLink "PageSkeleton" (54 : Nat) "PageSkeleton" "tidier" "LPageSkeleton$Tidier;") ∈ wsG := wsG_a2 100 rfl rfl
set_option maxRecDepth 100000 in
theorem k341 : (Cond.fieldLink "PageSkeleton" (61 : Nat) "PageSkeleton" "layer" "LPageSkeleton$Layer;") ∈ wsG := wsG_a2 101 rfl rfl
set_option maxRecDepth 100000 in
theorem k342 : (Cond.fieldLink "PageSkeleton" (68 : Nat) "PageSkeleton" "walker" "LPageSkeleton$Walker;") ∈ wsG := wsG_a2 102 rfl rfl
set_option maxRecDepth 100000 in
theorem k343 : (Cond.fieldLink "PageSkeleton" (75 : Nat) "PageSkeleton" "sorted" "LPageSkeleton$Orders;") ∈ wsG := wsG_a2 103 rfl rfl
set_option maxRecDepth 100000 in
theorem k344 : (Cond.fieldLink "PageSkeleton" (79 : Nat) "PageSkeleton" "whatever" "[I") ∈ wsG := wsG_a2 104 rfl rfl
set_option maxRecDepth 100000 in
theorem k345 : (Cond.fieldLink "PageSkeleton" (83 : Nat) "PageSkeleton" "seen" "[I") ∈ wsG := wsG_a2 105 rfl rfl
set_option maxRecDepth 100000 in
theorem k346 : (Cond.fieldLink "PageSkeleton" (86 : Nat) "PageSkeleton" "refused" "[I") ∈ wsG := wsG_a2 106 rfl rfl
set_option maxRecDepth 100000 in
theorem k1162 : (Cond.methodLink "PageSkeletonModel" (1 : Nat) ({ cls := "java/lang/Object", name := "<init>", desc := "()V" } : MethodName)) ∈ wsG := wsG_a5 202 rfl rfl
set_option maxRecDepth 100000 in
theorem k1163 : (Cond.classLink "PageSkeletonModel" (29 : Nat) "[[I") ∈ wsG := wsG_a5 203 rfl rfl
set_option maxRecDepth 100000 in
theorem k1164 : (Cond.classLink "PageSkeletonModel" (37 : Nat) "[[[I") ∈ wsG := wsG_a5 204 rfl rfl
set_option maxRecDepth 100000 in
theorem k1167 : (Cond.fieldLink "PageSkeletonModel" (7 : Nat) "PageSkeletonModel" "refused" "[I") ∈ wsG := wsG_a5 207 rfl rfl
set_option maxRecDepth 100000 in
theorem k1171 : (Cond.fieldLink "PageSkeletonModel" (13 : Nat) "PageSkeletonModel" "place" "I") ∈ wsG := wsG_a5 211 rfl rfl
set_option maxRecDepth 100000 in
theorem k1174 : (Cond.fieldLink "PageSkeletonModel" (17 : Nat) "PageSkeletonModel" "fed" "[I") ∈ wsG := wsG_a5 214 rfl rfl
set_option maxRecDepth 100000 in
theorem k1177 : (Cond.fieldLink "PageSkeletonModel" (20 : Nat) "PageSkeletonModel" "tokenSort" "[I") ∈ wsG := wsG_a5 217 rfl rfl
set_option maxRecDepth 100000 in
theorem k1178 : (Cond.fieldLink "PageSkeletonModel" (23 : Nat) "PageSkeletonModel" "tokenLetters" "[I") ∈ wsG := wsG_a5 218 rfl rfl
set_option maxRecDepth 100000 in
theorem k1179 : (Cond.fieldLink "PageSkeletonModel" (26 : Nat) "PageSkeletonModel" "tokenLong" "[I") ∈ wsG := wsG_a5 219 rfl rfl
set_option maxRecDepth 100000 in
theorem k1180 : (Cond.fieldLink "PageSkeletonModel" (31 : Nat) "PageSkeletonModel" "page" "[[I") ∈ wsG := wsG_a5 220 rfl rfl
set_option maxRecDepth 100000 in
theorem k1181 : (Cond.fieldLink "PageSkeletonModel" (34 : Nat) "PageSkeletonModel" "pageLong" "[I") ∈ wsG := wsG_a5 221 rfl rfl
set_option maxRecDepth 100000 in
theorem k1182 : (Cond.fieldLink "PageSkeletonModel" (39 : Nat) "PageSkeletonModel" "fold" "[[[I") ∈ wsG := wsG_a5 222 rfl rfl
set_option maxRecDepth 100000 in
theorem k1183 : (Cond.fieldLink "PageSkeletonModel" (42 : Nat) "PageSkeletonModel" "folds" "[I") ∈ wsG := wsG_a5 223 rfl rfl
set_option maxRecDepth 100000 in
theorem k1184 : (Cond.fieldLink "PageSkeletonModel" (45 : Nat) "PageSkeletonModel" "sort" "[[I") ∈ wsG := wsG_a5 224 rfl rfl
set_option maxRecDepth 100000 in
theorem k1185 : (Cond.fieldLink "PageSkeletonModel" (48 : Nat) "PageSkeletonModel" "token" "[[I") ∈ wsG := wsG_a5 225 rfl rfl
set_option maxRecDepth 100000 in
theorem k1186 : (Cond.fieldLink "PageSkeletonModel" (51 : Nat) "PageSkeletonModel" "span" "[[I") ∈ wsG := wsG_a5 226 rfl rfl
set_option maxRecDepth 100000 in
theorem k1187 : (Cond.fieldLink "PageSkeletonModel" (54 : Nat) "PageSkeletonModel" "nodes" "[I") ∈ wsG := wsG_a5 227 rfl rfl
set_option maxRecDepth 100000 in
theorem k1191 : (Cond.fieldLink "PageSkeletonModel" (57 : Nat) "PageSkeletonModel" "backCost" "[I") ∈ wsG := wsG_a5 231 rfl rfl
set_option maxRecDepth 100000 in
theorem k1192 : (Cond.fieldLink "PageSkeletonModel" (60 : Nat) "PageSkeletonModel" "backHad" "[Z") ∈ wsG := wsG_a5 232 rfl rfl
set_option maxRecDepth 100000 in
theorem k1195 : (Cond.fieldLink "PageSkeletonModel" (64 : Nat) "PageSkeletonModel" "rowS" "[[I") ∈ wsG := wsG_a5 235 rfl rfl
set_option maxRecDepth 100000 in
theorem k1196 : (Cond.fieldLink "PageSkeletonModel" (67 : Nat) "PageSkeletonModel" "rowP" "[[I") ∈ wsG := wsG_a5 236 rfl rfl
set_option maxRecDepth 100000 in
theorem k1197 : (Cond.fieldLink "PageSkeletonModel" (70 : Nat) "PageSkeletonModel" "found" "[I") ∈ wsG := wsG_a5 237 rfl rfl
set_option maxRecDepth 100000 in
theorem k1198 : (Cond.fieldLink "PageSkeletonModel" (73 : Nat) "PageSkeletonModel" "least" "[[[I") ∈ wsG := wsG_a5 238 rfl rfl
set_option maxRecDepth 100000 in
theorem k1200 : (Cond.fieldLink "PageSkeletonModel" (76 : Nat) "PageSkeletonModel" "treeS" "[I") ∈ wsG := wsG_a6 0 rfl rfl
set_option maxRecDepth 100000 in
theorem k1201 : (Cond.fieldLink "PageSkeletonModel" (79 : Nat) "PageSkeletonModel" "treeP" "[I") ∈ wsG := wsG_a6 1 rfl rfl
set_option maxRecDepth 100000 in
theorem k1202 : (Cond.fieldLink "PageSkeletonModel" (82 : Nat) "PageSkeletonModel" "manyS" "[I") ∈ wsG := wsG_a6 2 rfl rfl
set_option maxRecDepth 100000 in
theorem k1203 : (Cond.fieldLink "PageSkeletonModel" (85 : Nat) "PageSkeletonModel" "manyP" "[I") ∈ wsG := wsG_a6 3 rfl rfl
set_option maxRecDepth 100000 in
theorem k1206 : (Cond.fieldLink "PageSkeletonModel" (88 : Nat) "PageSkeletonModel" "stateNode" "[I") ∈ wsG := wsG_a6 6 rfl rfl
set_option maxRecDepth 100000 in
theorem k1207 : (Cond.fieldLink "PageSkeletonModel" (91 : Nat) "PageSkeletonModel" "other" "[I") ∈ wsG := wsG_a6 7 rfl rfl
set_option maxRecDepth 100000 in
theorem k1208 : (Cond.fieldLink "PageSkeletonModel" (94 : Nat) "PageSkeletonModel" "isEnd" "[Z") ∈ wsG := wsG_a6 8 rfl rfl
set_option maxRecDepth 100000 in
theorem k1209 : (Cond.fieldLink "PageSkeletonModel" (97 : Nat) "PageSkeletonModel" "can" "[[I") ∈ wsG := wsG_a6 9 rfl rfl
set_option maxRecDepth 100000 in
theorem k1210 : (Cond.fieldLink "PageSkeletonModel" (100 : Nat) "PageSkeletonModel" "opened" "[I") ∈ wsG := wsG_a6 10 rfl rfl
set_option maxRecDepth 100000 in
theorem k1211 : (Cond.fieldLink "PageSkeletonModel" (103 : Nat) "PageSkeletonModel" "isOn" "[Z") ∈ wsG := wsG_a6 11 rfl rfl
set_option maxRecDepth 100000 in
theorem k1212 : (Cond.fieldLink "PageSkeletonModel" (106 : Nat) "PageSkeletonModel" "isNext" "[Z") ∈ wsG := wsG_a6 12 rfl rfl
set_option maxRecDepth 100000 in
theorem k1213 : (Cond.fieldLink "PageSkeletonModel" (109 : Nat) "PageSkeletonModel" "often" "[I") ∈ wsG := wsG_a6 13 rfl rfl
set_option maxRecDepth 100000 in
theorem k1214 : (Cond.fieldLink "PageSkeletonModel" (112 : Nat) "PageSkeletonModel" "passed" "[I") ∈ wsG := wsG_a6 14 rfl rfl
set_option maxRecDepth 100000 in
theorem k1215 : (Cond.fieldLink "PageSkeletonModel" (115 : Nat) "PageSkeletonModel" "takerOf" "[I") ∈ wsG := wsG_a6 15 rfl rfl
set_option maxRecDepth 100000 in
theorem k1216 : (Cond.fieldLink "PageSkeletonModel" (118 : Nat) "PageSkeletonModel" "isTaken" "[Z") ∈ wsG := wsG_a6 16 rfl rfl
set_option maxRecDepth 100000 in
theorem k1217 : (Cond.fieldLink "PageSkeletonModel" (121 : Nat) "PageSkeletonModel" "order" "[I") ∈ wsG := wsG_a6 17 rfl rfl
set_option maxRecDepth 100000 in
theorem k1218 : (Cond.fieldLink "PageSkeletonModel" (124 : Nat) "PageSkeletonModel" "orderCost" "[I") ∈ wsG := wsG_a6 18 rfl rfl
set_option maxRecDepth 100000 in
theorem k1326 : (Cond.arrayClass FieldType.boolean) ∈ wsG := wsG_a6 126 rfl rfl
theorem dJ7_fill_53178_0 : decode cJ7_fill_53178 0 = .ok (.iconst 0, 1) := by decide +kernel
theorem dJ7_fill_53178_1 : decode cJ7_fill_53178 1 = .ok (.istore_n 2, 1) := by decide +kernel
theorem dJ7_fill_53178_2 : decode cJ7_fill_53178 2 = .ok (.aload_n 0, 1) := by decide +kernel
theorem dJ7_fill_53178_3 : decode cJ7_fill_53178 3 = .ok (.arraylength, 1) := by decide +kernel
theorem dJ7_fill_53178_4 : decode cJ7_fill_53178 4 = .ok (.istore_n 3, 1) := by decide +kernel
theorem dJ7_fill_53178_5 : decode cJ7_fill_53178 5 = .ok (.iload_n 2, 1) := by decide +kernel
theorem dJ7_fill_53178_6 : decode cJ7_fill_53178 6 = .ok (.iload_n 3, 1) := by decide +kernel
theorem dJ7_fill_53178_7 : decode cJ7_fill_53178 7 = .ok (.if_icmp .ge 13, 3) := by decide +kernel
theorem dJ7_fill_53178_10 : decode cJ7_fill_53178 10 = .ok (.aload_n 0, 1) := by decide +kernel
theorem dJ7_fill_53178_11 : decode cJ7_fill_53178 11 = .ok (.iload_n 2, 1) := by decide +kernel
theorem dJ7_fill_53178_12 : decode cJ7_fill_53178 12 = .ok (.iload_n 1, 1) := by decide +kernel
theorem dJ7_fill_53178_13 : decode cJ7_fill_53178 13 = .ok (.iastore, 1) := by decide +kernel
theorem dJ7_fill_53178_14 : decode cJ7_fill_53178 14 = .ok (.iinc 2 1, 3) := by decide +kernel
theorem dJ7_fill_53178_17 : decode cJ7_fill_53178 17 = .ok (.goto (-12), 3) := by decide +kernel
theorem dJ7_fill_53178_20 : decode cJ7_fill_53178 20 = .ok (.return_, 1) := by decide +kernel
theorem dX9_init_0 : decode cX9_init 0 = .ok (.aload_n 0, 1) := by decide +kernel
theorem dX9_init_1 : decode cX9_init 1 = .ok (.invokespecial 1, 3) := by decide +kernel
theorem dX9_init_4 : decode cX9_init 4 = .ok (.aload_n 0, 1) := by decide +kernel
theorem dX9_init_5 : decode cX9_init 5 = .ok (.new 7, 3) := by decide +kernel
theorem dX9_init_8 : decode cX9_init 8 = .ok (.dup, 1) := by decide +kernel
theorem dX9_init_9 : decode cX9_init 9 = .ok (.invokespecial 9, 3) := by decide +kernel
theorem dX9_init_12 : decode cX9_init 12 = .ok (.putfield 10, 3) := by decide +kernel
theorem dX9_init_15 : decode cX9_init 15 = .ok (.aload_n 0, 1) := by decide +kernel
theorem dX9_init_16 : decode cX9_init 16 = .ok (.bipush 8, 2) := by decide +kernel
theorem dX9_init_18 : decode cX9_init 18 = .ok (.anewarray 16, 3) := by decide +kernel
theorem dX9_init_21 : decode cX9_init 21 = .ok (.putfield 18, 3) := by decide +kernel
theorem dX9_init_24 : decode cX9_init 24 = .ok (.aload_n 0, 1) := by decide +kernel
theorem dX9_init_25 : decode cX9_init 25 = .ok (.iconst 0, 1) := by decide +kernel
theorem dX9_init_26 : decode cX9_init 26 = .ok (.putfield 22, 3) := by decide +kernel
theorem dX9_init_29 : decode cX9_init 29 = .ok (.aload_n 0, 1) := by decide +kernel
theorem dX9_init_30 : decode cX9_init 30 = .ok (.new 26, 3) := by decide +kernel
theorem dX9_init_33 : decode cX9_init 33 = .ok (.dup, 1) := by decide +kernel
theorem dX9_init_34 : decode cX9_init 34 = .ok (.sipush 1100, 3) := by decide +kernel
theorem dX9_init_37 : decode cX9_init 37 = .ok (.invokespecial 28, 3) := by decide +kernel
theorem dX9_init_40 : decode cX9_init 40 = .ok (.putfield 31, 3) := by decide +kernel
theorem dX9_init_43 : decode cX9_init 43 = .ok (.aload_n 0, 1) := by decide +kernel
theorem dX9_init_44 : decode cX9_init 44 = .ok (.new 26, 3) := by decide +kernel
theorem dX9_init_47 : decode cX9_init 47 = .ok (.dup, 1) := by decide +kernel
theorem dX9_init_48 : decode cX9_init 48 = .ok (.sipush 1100, 3) := by decide +kernel
theorem dX9_init_51 : decode cX9_init 51 = .ok (.invokespecial 28, 3) := by decide +kernel
theorem dX9_init_54 : decode cX9_init 54 = .ok (.putfield 35, 3) := by decide +kernel
theorem dX9_init_57 : decode cX9_init 57 = .ok (.aload_n 0, 1) := by decide +kernel
theorem dX9_init_58 : decode cX9_init 58 = .ok (.iconst 0, 1) := by decide +kernel
theorem dX9_init_59 : decode cX9_init 59 = .ok (.putfield 38, 3) := by decide +kernel
theorem dX9_init_62 : decode cX9_init 62 = .ok (.aload_n 0, 1) := by decide +kernel
theorem dX9_init_63 : decode cX9_init 63 = .ok (.iconst 0, 1) := by decide +kernel
theorem dX9_init_64 : decode cX9_init 64 = .ok (.putfield 41, 3) := by decide +kernel
theorem dX9_init_67 : decode cX9_init 67 = .ok (.aload_n 0, 1) := by decide +kernel
theorem dX9_init_68 : decode cX9_init 68 = .ok (.new 44, 3) := by decide +kernel
theorem dX9_init_71 : decode cX9_init 71 = .ok (.dup, 1) := by decide +kernel
theorem dX9_init_72 : decode cX9_init 72 = .ok (.invokespecial 46, 3) := by decide +kernel
theorem dX9_init_75 : decode cX9_init 75 = .ok (.putfield 47, 3) := by decide +kernel
theorem dX9_init_78 : decode cX9_init 78 = .ok (.aload_n 0, 1) := by decide +kernel
theorem dX9_init_79 : decode cX9_init 79 = .ok (.new 51, 3) := by decide +kernel
theorem dX9_init_82 : decode cX9_init 82 = .ok (.dup, 1) := by decide +kernel
theorem dX9_init_83 : decode cX9_init 83 = .ok (.invokespecial 53, 3) := by decide +kernel
theorem dX9_init_86 : decode cX9_init 86 = .ok (.putfield 54, 3) := by decide +kernel
theorem dX9_init_89 : decode cX9_init 89 = .ok (.aload_n 0, 1) := by decide +kernel
theorem dX9_init_90 : decode cX9_init 90 = .ok (.new 58, 3) := by decide +kernel
theorem dX9_init_93 : decode cX9_init 93 = .ok (.dup, 1) := by decide +kernel
theorem dX9_init_94 : decode cX9_init 94 = .ok (.invokespecial 60, 3) := by decide +kernel
theorem dX9_init_97 : decode cX9_init 97 = .ok (.putfield 61, 3) := by decide +kernel
theorem dX9_init_100 : decode cX9_init 100 = .ok (.aload_n 0, 1) := by decide +kernel
theorem dX9_init_101 : decode cX9_init 101 = .ok (.new 65, 3) := by decide +kernel
theorem dX9_init_104 : decode cX9_init 104 = .ok (.dup, 1) := by decide +kernel
theorem dX9_init_105 : decode cX9_init 105 = .ok (.invokespecial 67, 3) := by decide +kernel
theorem dX9_init_108 : decode cX9_init 108 = .ok (.putfield 68, 3) := by decide +kernel
theorem dX9_init_111 : decode cX9_init 111 = .ok (.aload_n 0, 1) := by decide +kernel
theorem dX9_init_112 : decode cX9_init 112 = .ok (.new 72, 3) := by decide +kernel
theorem dX9_init_115 : decode cX9_init 115 = .ok (.dup, 1) := by decide +kernel
theorem dX9_init_116 : decode cX9_init 116 = .ok (.invokespecial 74, 3) := by decide +kernel
theorem dX9_init_119 : decode cX9_init 119 = .ok (.putfield 75, 3) := by decide +kernel
theorem dX9_init_122 : decode cX9_init 122 = .ok (.aload_n 0, 1) := by decide +kernel
theorem dX9_init_123 : decode cX9_init 123 = .ok (.bipush 60, 2) := by decide +kernel
theorem dX9_init_125 : decode cX9_init 125 = .ok (.newarray .int, 2) := by decide +kernel
theorem dX9_init_127 : decode cX9_init 127 = .ok (.putfield 79, 3) := by decide +kernel
theorem dX9_init_130 : decode cX9_init 130 = .ok (.aload_n 0, 1) := by decide +kernel
theorem dX9_init_131 : decode cX9_init 131 = .ok (.sipush 200, 3) := by decide +kernel
theorem dX9_init_134 : decode cX9_init 134 = .ok (.newarray .int, 2) := by decide +kernel
theorem dX9_init_136 : decode cX9_init 136 = .ok (.putfield 83, 3) := by decide +kernel
theorem dX9_init_139 : decode cX9_init 139 = .ok (.aload_n 0, 1) := by decide +kernel
theorem dX9_init_140 : decode cX9_init 140 = .ok (.iconst 3, 1) := by decide +kernel
theorem dX9_init_141 : decode cX9_init 141 = .ok (.newarray .int, 2) := by decide +kernel
theorem dX9_init_143 : decode cX9_init 143 = .ok (.putfield 86, 3) := by decide +kernel
theorem dX9_init_146 : decode cX9_init 146 = .ok (.iconst 0, 1) := by decide +kernel
theorem dX9_init_147 : decode cX9_init 147 = .ok (.istore_n 1, 1) := by decide +kernel
theorem dX9_init_148 : decode cX9_init 148 = .ok (.iload_n 1, 1) := by decide +kernel
theorem dX9_init_149 : decode cX9_init 149 = .ok (.bipush 8, 2) := by decide +kernel
theorem dX9_init_151 : decode cX9_init 151 = .ok (.if_icmp .ge 22, 3) := by decide +kernel
theorem dX9_init_154 : decode cX9_init 154 = .ok (.aload_n 0, 1) := by decide +kernel
theorem dX9_init_155 : decode cX9_init 155 = .ok (.getfield 18, 3) := by decide +kernel
theorem dX9_init_158 : decode cX9_init 158 = .ok (.iload_n 1, 1) := by decide +kernel
theorem dX9_init_159 : decode cX9_init 159 = .ok (.new 16, 3) := by decide +kernel
theorem dX9_init_162 : decode cX9_init 162 = .ok (.dup, 1) := by decide +kernel
theorem dX9_init_163 : decode cX9_init 163 = .ok (.invokespecial 89, 3) := by decide +kernel
theorem dX9_init_166 : decode cX9_init 166 = .ok (.aastore, 1) := by decide +kernel
theorem dX9_init_167 : decode cX9_init 167 = .ok (.iinc 1 1, 3) := by decide +kernel
theorem dX9_init_170 : decode cX9_init 170 = .ok (.goto (-22), 3) := by decide +kernel
theorem dX9_init_173 : decode cX9_init 173 = .ok (.aload_n 0, 1) := by decide +kernel
theorem dX9_init_174 : decode cX9_init 174 = .ok (.getfield 79, 3) := by decide +kernel
theorem dX9_init_177 : decode cX9_init 177 = .ok (.sipush 516, 3) := by decide +kernel
theorem dX9_init_180 : decode cX9_init 180 = .ok (.invokestatic 90, 3) := by decide +kernel
theorem dX9_init_183 : decode cX9_init 183 = .ok (.return_, 1) := by decide +kernel
theorem dX10_init_0 : decode cX10_init 0 = .ok (.aload_n 0, 1) := by decide +kernel
theorem dX10_init_1 : decode cX10_init 1 = .ok (.invokespecial 1, 3) := by decide +kernel
theorem dX10_init_4 : decode cX10_init 4 = .ok (.aload_n 0, 1) := by decide +kernel
theorem dX10_init_5 : decode cX10_init 5 = .ok (.iconst 3, 1) := by decide +kernel
theorem dX10_init_6 : decode cX10_init 6 = .ok (.newarray .int, 2) := by decide +kernel
theorem dX10_init_8 : decode cX10_init 8 = .ok (.putfield 7, 3) := by decide +kernel
theorem dX10_init_11 : decode cX10_init 11 = .ok (.aload_n 0, 1) := by decide +kernel
theorem dX10_init_12 : decode cX10_init 12 = .ok (.iconst (-1), 1) := by decide +kernel
theorem dX10_init_13 : decode cX10_init 13 = .ok (.putfield 13, 3) := by decide +kernel
theorem dX10_init_16 : decode cX10_init 16 = .ok (.aload_n 0, 1) := by decide +kernel
theorem dX10_init_17 : decode cX10_init 17 = .ok (.sipush 400, 3) := by decide +kernel
theorem dX10_init_20 : decode cX10_init 20 = .ok (.newarray .int, 2) := by decide +kernel
theorem dX10_init_22 : decode cX10_init 22 = .ok (.putfield 17, 3) := by decide +kernel
theorem dX10_init_25 : decode cX10_init 25 = .ok (.aload_n 0, 1) := by decide +kernel
theorem dX10_init_26 : decode cX10_init 26 = .ok (.sipush 201, 3) := by decide +kernel
theorem dX10_init_29 : decode cX10_init 29 = .ok (.newarray .int, 2) := by decide +kernel
theorem dX10_init_31 : decode cX10_init 31 = .ok (.putfield 20, 3) := by decide +kernel
theorem dX10_init_34 : decode cX10_init 34 = .ok (.aload_n 0, 1) := by decide +kernel
theorem dX10_init_35 : decode cX10_init 35 = .ok (.sipush 201, 3) := by decide +kernel
theorem dX10_init_38 : decode cX10_init 38 = .ok (.newarray .int, 2) := by decide +kernel
theorem dX10_init_40 : decode cX10_init 40 = .ok (.putfield 23, 3) := by decide +kernel
theorem dX10_init_43 : decode cX10_init 43 = .ok (.aload_n 0, 1) := by decide +kernel
theorem dX10_init_44 : decode cX10_init 44 = .ok (.sipush 201, 3) := by decide +kernel
theorem dX10_init_47 : decode cX10_init 47 = .ok (.newarray .int, 2) := by decide +kernel
theorem dX10_init_49 : decode cX10_init 49 = .ok (.putfield 26, 3) := by decide +kernel
theorem dX10_init_52 : decode cX10_init 52 = .ok (.aload_n 0, 1) := by decide +kernel
theorem dX10_init_53 : decode cX10_init 53 = .ok (.bipush 8, 2) := by decide +kernel
theorem dX10_init_55 : decode cX10_init 55 = .ok (.bipush 60, 2) := by decide +kernel
theorem dX10_init_57 : decode cX10_init 57 = .ok (.multianewarray 29 2, 4) := by decide +kernel
theorem dX10_init_61 : decode cX10_init 61 = .ok (.putfield 31, 3) := by decide +kernel
theorem dX10_init_64 : decode cX10_init 64 = .ok (.aload_n 0, 1) := by decide +kernel
theorem dX10_init_65 : decode cX10_init 65 = .ok (.bipush 8, 2) := by decide +kernel
theorem dX10_init_67 : decode cX10_init 67 = .ok (.newarray .int, 2) := by decide +kernel
theorem dX10_init_69 : decode cX10_init 69 = .ok (.putfield 34, 3) := by decide +kernel
theorem dX10_init_72 : decode cX10_init 72 = .ok (.aload_n 0, 1) := by decide +kernel
theorem dX10_init_73 : decode cX10_init 73 = .ok (.bipush 8, 2) := by decide +kernel
theorem dX10_init_75 : decode cX10_init 75 = .ok (.bipush 60, 2) := by decide +kernel
theorem dX10_init_77 : decode cX10_init 77 = .ok (.iconst 3, 1) := by decide +kernel
theorem dX10_init_78 : decode cX10_init 78 = .ok (.multianewarray 37 3, 4) := by decide +kernel
theorem dX10_init_82 : decode cX10_init 82 = .ok (.putfield 39, 3) := by decide +kernel
theorem dX10_init_85 : decode cX10_init 85 = .ok (.aload_n 0, 1) := by decide +kernel
theorem dX10_init_86 : decode cX10_init 86 = .ok (.bipush 8, 2) := by decide +kernel
theorem dX10_init_88 : decode cX10_init 88 = .ok (.newarray .int, 2) := by decide +kernel
theorem dX10_init_90 : decode cX10_init 90 = .ok (.putfield 42, 3) := by decide +kernel
theorem dX10_init_93 : decode cX10_init 93 = .ok (.aload_n 0, 1) := by decide +kernel
theorem dX10_init_94 : decode cX10_init 94 = .ok (.bipush 70, 2) := by decide +kernel
theorem dX10_init_96 : decode cX10_init 96 = .ok (.sipush 900, 3) := by decide +kernel
theorem dX10_init_99 : decode cX10_init 99 = .ok (.multianewarray 29 2, 4) := by decide +kernel
theorem dX10_init_103 : decode cX10_init 103 = .ok (.putfield 45, 3) := by decide +kernel
theorem dX10_init_106 : decode cX10_init 106 = .ok (.aload_n 0, 1) := by decide +kernel
theorem dX10_init_107 : decode cX10_init 107 = .ok (.bipush 70, 2) := by decide +kernel
theorem dX10_init_109 : decode cX10_init 109 = .ok (.sipush 900, 3) := by decide +kernel
theorem dX10_init_112 : decode cX10_init 112 = .ok (.multianewarray 29 2, 4) := by decide +kernel
theorem dX10_init_116 : decode cX10_init 116 = .ok (.putfield 48, 3) := by decide +kernel
theorem dX10_init_119 : decode cX10_init 119 = .ok (.aload_n 0, 1) := by decide +kernel
theorem dX10_init_120 : decode cX10_init 120 = .ok (.bipush 70, 2) := by decide +kernel
theorem dX10_init_122 : decode cX10_init 122 = .ok (.sipush 900, 3) := by decide +kernel
theorem dX10_init_125 : decode cX10_init 125 = .ok (.multianewarray 29 2, 4) := by decide +kernel
theorem dX10_init_129 : decode cX10_init 129 = .ok (.putfield 51, 3) := by decide +kernel
theorem dX10_init_132 : decode cX10_init 132 = .ok (.aload_n 0, 1) := by decide +kernel
theorem dX10_init_133 : decode cX10_init 133 = .ok (.bipush 70, 2) := by decide +kernel
theorem dX10_init_135 : decode cX10_init 135 = .ok (.newarray .int, 2) := by decide +kernel
theorem dX10_init_137 : decode cX10_init 137 = .ok (.putfield 54, 3) := by decide +kernel
theorem dX10_init_140 : decode cX10_init 140 = .ok (.aload_n 0, 1) := by decide +kernel
theorem dX10_init_141 : decode cX10_init 141 = .ok (.bipush 16, 2) := by decide +kernel
theorem dX10_init_143 : decode cX10_init 143 = .ok (.newarray .int, 2) := by decide +kernel
theorem dX10_init_145 : decode cX10_init 145 = .ok (.putfield 57, 3) := by decide +kernel
theorem dX10_init_148 : decode cX10_init 148 = .ok (.aload_n 0, 1) := by decide +kernel
theorem dX10_init_149 : decode cX10_init 149 = .ok (.bipush 16, 2) := by decide +kernel
theorem dX10_init_151 : decode cX10_init 151 = .ok (.newarray .boolean, 2) := by decide +kernel
theorem dX10_init_153 : decode cX10_init 153 = .ok (.putfield 60, 3) := by decide +kernel
theorem dX10_init_156 : decode cX10_init 156 = .ok (.aload_n 0, 1) := by decide +kernel
theorem dX10_init_157 : decode cX10_init 157 = .ok (.bipush 14, 2) := by decide +kernel
theorem dX10_init_159 : decode cX10_init 159 = .ok (.sipush 260, 3) := by decide +kernel
theorem dX10_init_162 : decode cX10_init 162 = .ok (.multianewarray 29 2, 4) := by decide +kernel
theorem dX10_init_166 : decode cX10_init 166 = .ok (.putfield 64, 3) := by decide +kernel
theorem dX10_init_169 : decode cX10_init 169 = .ok (.aload_n 0, 1) := by decide +kernel
theorem dX10_init_170 : decode cX10_init 170 = .ok (.bipush 14, 2) := by decide +kernel
theorem dX10_init_172 : decode cX10_init 172 = .ok (.sipush 260, 3) := by decide +kernel
theorem dX10_init_175 : decode cX10_init 175 = .ok (.multianewarray 29 2, 4) := by decide +kernel
theorem dX10_init_179 : decode cX10_init 179 = .ok (.putfield 67, 3) := by decide +kernel
theorem dX10_init_182 : decode cX10_init 182 = .ok (.aload_n 0, 1) := by decide +kernel
theorem dX10_init_183 : decode cX10_init 183 = .ok (.iconst 3, 1) := by decide +kernel
theorem dX10_init_184 : decode cX10_init 184 = .ok (.newarray .int, 2) := by decide +kernel
theorem dX10_init_186 : decode cX10_init 186 = .ok (.putfield 70, 3) := by decide +kernel
theorem dX10_init_189 : decode cX10_init 189 = .ok (.aload_n 0, 1) := by decide +kernel
theorem dX10_init_190 : decode cX10_init 190 = .ok (.bipush 14, 2) := by decide +kernel
theorem dX10_init_192 : decode cX10_init 192 = .ok (.sipush 260, 3) := by decide +kernel
theorem dX10_init_195 : decode cX10_init 195 = .ok (.bipush 62, 2) := by decide +kernel
theorem dX10_init_197 : decode cX10_init 197 = .ok (.multianewarray 37 3, 4) := by decide +kernel
theorem dX10_init_201 : decode cX10_init 201 = .ok (.putfield 73, 3) := by decide +kernel
theorem dX10_init_204 : decode cX10_init 204 = .ok (.aload_n 0, 1) := by decide +kernel
theorem dX10_init_205 : decode cX10_init 205 = .ok (.bipush 14, 2) := by decide +kernel
theorem dX10_init_207 : decode cX10_init 207 = .ok (.newarray .int, 2) := by decide +kernel
theorem dX10_init_209 : decode cX10_init 209 = .ok (.putfield 76, 3) := by decide +kernel
theorem dX10_init_212 : decode cX10_init 212 = .ok (.aload_n 0, 1) := by decide +kernel
theorem dX10_init_213 : decode cX10_init 213 = .ok (.bipush 14, 2) := by decide +kernel
theorem dX10_init_215 : decode cX10_init 215 = .ok (.newarray .int, 2) := by decide +kernel
theorem dX10_init_217 : decode cX10_init 217 = .ok (.putfield 79, 3) := by decide +kernel
theorem dX10_init_220 : decode cX10_init 220 = .ok (.aload_n 0, 1) := by decide +kernel
theorem dX10_init_221 : decode cX10_init 221 = .ok (.bipush 14, 2) := by decide +kernel
theorem dX10_init_223 : decode cX10_init 223 = .ok (.newarray .int, 2) := by decide +kernel
theorem dX10_init_225 : decode cX10_init 225 = .ok (.putfield 82, 3) := by decide +kernel
theorem dX10_init_228 : decode cX10_init 228 = .ok (.aload_n 0, 1) := by decide +kernel
theorem dX10_init_229 : decode cX10_init 229 = .ok (.bipush 14, 2) := by decide +kernel
theorem dX10_init_231 : decode cX10_init 231 = .ok (.newarray .int, 2) := by decide +kernel
theorem dX10_init_233 : decode cX10_init 233 = .ok (.putfield 85, 3) := by decide +kernel
theorem dX10_init_236 : decode cX10_init 236 = .ok (.aload_n 0, 1) := by decide +kernel
theorem dX10_init_237 : decode cX10_init 237 = .ok (.sipush 1900, 3) := by decide +kernel
theorem dX10_init_240 : decode cX10_init 240 = .ok (.newarray .int, 2) := by decide +kernel
theorem dX10_init_242 : decode cX10_init 242 = .ok (.putfield 88, 3) := by decide +kernel
theorem dX10_init_245 : decode cX10_init 245 = .ok (.aload_n 0, 1) := by decide +kernel
theorem dX10_init_246 : decode cX10_init 246 = .ok (.sipush 1900, 3) := by decide +kernel
theorem dX10_init_249 : decode cX10_init 249 = .ok (.newarray .int, 2) := by decide +kernel
theorem dX10_init_251 : decode cX10_init 251 = .ok (.putfield 91, 3) := by decide +kernel
theorem dX10_init_254 : decode cX10_init 254 = .ok (.aload_n 0, 1) := by decide +kernel
theorem dX10_init_255 : decode cX10_init 255 = .ok (.sipush 1900, 3) := by decide +kernel
theorem dX10_init_258 : decode cX10_init 258 = .ok (.newarray .boolean, 2) := by decide +kernel
theorem dX10_init_260 : decode cX10_init 260 = .ok (.putfield 94, 3) := by decide +kernel
theorem dX10_init_263 : decode cX10_init 263 = .ok (.aload_n 0, 1) := by decide +kernel
theorem dX10_init_264 : decode cX10_init 264 = .ok (.sipush 1900, 3) := by decide +kernel
theorem dX10_init_267 : decode cX10_init 267 = .ok (.bipush 62, 2) := by decide +kernel
theorem dX10_init_269 : decode cX10_init 269 = .ok (.multianewarray 29 2, 4) := by decide +kernel
theorem dX10_init_273 : decode cX10_init 273 = .ok (.putfield 97, 3) := by decide +kernel
theorem dX10_init_276 : decode cX10_init 276 = .ok (.aload_n 0, 1) := by decide +kernel
theorem dX10_init_277 : decode cX10_init 277 = .ok (.sipush 1900, 3) := by decide +kernel
theorem dX10_init_280 : decode cX10_init 280 = .ok (.newarray .int, 2) := by decide +kernel
theorem dX10_init_282 : decode cX10_init 282 = .ok (.putfield 100, 3) := by decide +kernel
theorem dX10_init_285 : decode cX10_init 285 = .ok (.aload_n 0, 1) := by decide +kernel
theorem dX10_init_286 : decode cX10_init 286 = .ok (.sipush 1900, 3) := by decide +kernel
theorem dX10_init_289 : decode cX10_init 289 = .ok (.newarray .boolean, 2) := by decide +kernel
theorem dX10_init_291 : decode cX10_init 291 = .ok (.putfield 103, 3) := by decide +kernel
theorem dX10_init_294 : decode cX10_init 294 = .ok (.aload_n 0, 1) := by decide +kernel
theorem dX10_init_295 : decode cX10_init 295 = .ok (.sipush 1900, 3) := by decide +kernel
theorem dX10_init_298 : decode cX10_init 298 = .ok (.newarray .boolean, 2) := by decide +kernel
theorem dX10_init_300 : decode cX10_init 300 = .ok (.putfield 106, 3) := by decide +kernel
theorem dX10_init_303 : decode cX10_init 303 = .ok (.aload_n 0, 1) := by decide +kernel
theorem dX10_init_304 : decode cX10_init 304 = .ok (.sipush 900, 3) := by decide +kernel
theorem dX10_init_307 : decode cX10_init 307 = .ok (.newarray .int, 2) := by decide +kernel
theorem dX10_init_309 : decode cX10_init 309 = .ok (.putfield 109, 3) := by decide +kernel
theorem dX10_init_312 : decode cX10_init 312 = .ok (.aload_n 0, 1) := by decide +kernel
theorem dX10_init_313 : decode cX10_init 313 = .ok (.sipush 900, 3) := by decide +kernel
theorem dX10_init_316 : decode cX10_init 316 = .ok (.newarray .int, 2) := by decide +kernel
theorem dX10_init_318 : decode cX10_init 318 = .ok (.putfield 112, 3) := by decide +kernel
theorem dX10_init_321 : decode cX10_init 321 = .ok (.aload_n 0, 1) := by decide +kernel
theorem dX10_init_322 : decode cX10_init 322 = .ok (.bipush 60, 2) := by decide +kernel
theorem dX10_init_324 : decode cX10_init 324 = .ok (.newarray .int, 2) := by decide +kernel
theorem dX10_init_326 : decode cX10_init 326 = .ok (.putfield 115, 3) := by decide +kernel
theorem dX10_init_329 : decode cX10_init 329 = .ok (.aload_n 0, 1) := by decide +kernel
theorem dX10_init_330 : decode cX10_init 330 = .ok (.sipush 200, 3) := by decide +kernel
theorem dX10_init_333 : decode cX10_init 333 = .ok (.newarray .boolean, 2) := by decide +kernel
theorem dX10_init_335 : decode cX10_init 335 = .ok (.putfield 118, 3) := by decide +kernel
theorem dX10_init_338 : decode cX10_init 338 = .ok (.aload_n 0, 1) := by decide +kernel
theorem dX10_init_339 : decode cX10_init 339 = .ok (.iconst 4, 1) := by decide +kernel
theorem dX10_init_340 : decode cX10_init 340 = .ok (.newarray .int, 2) := by decide +kernel
theorem dX10_init_342 : decode cX10_init 342 = .ok (.putfield 121, 3) := by decide +kernel
theorem dX10_init_345 : decode cX10_init 345 = .ok (.aload_n 0, 1) := by decide +kernel
theorem dX10_init_346 : decode cX10_init 346 = .ok (.bipush 24, 2) := by decide +kernel
theorem dX10_init_348 : decode cX10_init 348 = .ok (.newarray .int, 2) := by decide +kernel
theorem dX10_init_350 : decode cX10_init 350 = .ok (.putfield 124, 3) := by decide +kernel
theorem dX10_init_353 : decode cX10_init 353 = .ok (.return_, 1) := by decide +kernel

set_option maxRecDepth 100000 in
theorem k3 : (Cond.initialized "PageSkeleton$Row") ∈ wsG := wsG_a1 3 rfl rfl
set_option maxRecDepth 100000 in
theorem k4 : (Cond.initialized "java/lang/Math") ∈ wsG := wsG_a1 4 rfl rfl
set_option maxRecDepth 100000 in
theorem k11 : (Cond.initialized "PageSkeleton$Walk") ∈ wsG := wsG_a1 11 rfl rfl
set_option maxRecDepth 100000 in
theorem k27 : (Cond.instanceMethod ({ cls := "java/lang/Object", name := "<init>", desc := "()V" } : MethodName)) ∈ wsG := wsG_a1 27 rfl rfl
set_option maxRecDepth 100000 in
theorem k28 : (Cond.code ({ cls := "java/lang/Object", name := "<init>", desc := "()V" } : MethodName) object_method_1_code (1 : Nat) (Option.none : Option Jvm.ClassFile.FieldType)) ∈ wsG := wsG_a1 28 rfl rfl
set_option maxRecDepth 100000 in
theorem k34 : (Cond.methodLink "PageSkeleton$Texts" (3 : Nat) ({ cls := "java/lang/Object", name := "<init>", desc := "()V" } : MethodName)) ∈ wsG := wsG_a1 34 rfl rfl
set_option maxRecDepth 100000 in
theorem k35 : (Cond.fieldLink "PageSkeleton$Texts" (9 : Nat) "PageSkeleton$Texts" "tape" "[I") ∈ wsG := wsG_a1 35 rfl rfl
set_option maxRecDepth 100000 in
theorem k36 : (Cond.fieldLink "PageSkeleton$Texts" (15 : Nat) "PageSkeleton$Texts" "bytes" "I") ∈ wsG := wsG_a1 36 rfl rfl
set_option maxRecDepth 100000 in
theorem k38 : (Cond.fieldLink "PageSkeleton$Texts" (19 : Nat) "PageSkeleton$Texts" "keys" "[I") ∈ wsG := wsG_a1 38 rfl rfl
set_option maxRecDepth 100000 in
theorem k39 : (Cond.fieldLink "PageSkeleton$Texts" (22 : Nat) "PageSkeleton$Texts" "tokens" "I") ∈ wsG := wsG_a1 39 rfl rfl
set_option maxRecDepth 100000 in
theorem k41 : (Cond.fieldLink "PageSkeleton$Texts" (25 : Nat) "PageSkeleton$Texts" "found" "[I") ∈ wsG := wsG_a1 41 rfl rfl
set_option maxRecDepth 100000 in
theorem k43 : (Cond.fieldLink "PageSkeleton$Texts" (28 : Nat) "PageSkeleton$Texts" "foundCount" "I") ∈ wsG := wsG_a1 43 rfl rfl
set_option maxRecDepth 100000 in
theorem k45 : (Cond.fieldLink "PageSkeleton$Texts" (31 : Nat) "PageSkeleton$Texts" "faultPlace" "I") ∈ wsG := wsG_a1 45 rfl rfl
set_option maxRecDepth 100000 in
theorem k47 : (Cond.fieldLink "PageSkeleton$Texts" (34 : Nat) "PageSkeleton$Texts" "at" "I") ∈ wsG := wsG_a1 47 rfl rfl
set_option maxRecDepth 100000 in
theorem k65 : (Cond.arrayClass FieldType.int) ∈ wsG := wsG_a1 65 rfl rfl
set_option maxRecDepth 100000 in
theorem k69 : (Cond.instantiable "PageSkeleton$Row" (8 : Nat)) ∈ wsG := wsG_a1 69 rfl rfl
set_option maxRecDepth 100000 in
theorem k71 : (Cond.instanceMethod ({ cls := "PageSkeleton$Row", name := "<init>", desc := "(I)V" } : MethodName)) ∈ wsG := wsG_a1 71 rfl rfl
set_option maxRecDepth 100000 in
theorem k72 : (Cond.code ({ cls := "PageSkeleton$Row", name := "<init>", desc := "(I)V" } : MethodName) prog_6_method_1_code (3 : Nat) (Option.none : Option Jvm.ClassFile.FieldType)) ∈ wsG := wsG_a1 72 rfl rfl
set_option maxRecDepth 100000 in
theorem k73 : (Cond.methodLink "PageSkeleton$Row" (3 : Nat) ({ cls := "java/lang/Object", name := "<init>", desc := "()V" } : MethodName)) ∈ wsG := wsG_a1 73 rfl rfl
set_option maxRecDepth 100000 in
theorem k74 : (Cond.methodLink "PageSkeleton$Row" (22 : Nat) ({ cls := "java/lang/Math", name := "max", desc := "(II)I" } : MethodName)) ∈ wsG := wsG_a1 74 rfl rfl
set_option maxRecDepth 100000 in
theorem k75 : (Cond.static ({ cls := "java/lang/Math", name := "max", desc := "(II)I" } : MethodName)) ∈ wsG := wsG_a1 75 rfl rfl
set_option maxRecDepth 100000 in
theorem k76 : (Cond.code ({ cls := "java/lang/Math", name := "max", desc := "(II)I" } : MethodName) prog_17_method_65_code (2 : Nat) (Option.some FieldType.int)) ∈ wsG := wsG_a1 76 rfl rfl
set_option maxRecDepth 100000 in
theorem k77 : (Cond.fieldLink "PageSkeleton$Row" (28 : Nat) "PageSkeleton$Row" "code" "[I") ∈ wsG := wsG_a1 77 rfl rfl
set_option maxRecDepth 100000 in
theorem k83 : (Cond.fieldLink "PageSkeleton$Row" (32 : Nat) "PageSkeleton$Row" "mate" "[I") ∈ wsG := wsG_a1 83 rfl rfl
set_option maxRecDepth 100000 in
theorem k87 : (Cond.fieldLink "PageSkeleton$Row" (35 : Nat) "PageSkeleton$Row" "ahead" "[I") ∈ wsG := wsG_a1 87 rfl rfl
set_option maxRecDepth 100000 in
theorem k88 : (Cond.fieldLink "PageSkeleton$Row" (38 : Nat) "PageSkeleton$Row" "number" "[I") ∈ wsG := wsG_a1 88 rfl rfl
set_option maxRecDepth 100000 in
theorem k90 : (Cond.fieldLink "PageSkeleton$Row" (41 : Nat) "PageSkeleton$Row" "place" "[I") ∈ wsG := wsG_a1 90 rfl rfl
set_option maxRecDepth 100000 in
theorem k92 : (Cond.fieldLink "PageSkeleton$Row" (9 : Nat) "PageSkeleton$Row" "length" "I") ∈ wsG := wsG_a1 92 rfl rfl
set_option maxRecDepth 100000 in
theorem k100 : (Cond.fieldLink "PageSkeleton$Row" (15 : Nat) "PageSkeleton$Row" "nodes" "I") ∈ wsG := wsG_a1 100 rfl rfl
set_option maxRecDepth 100000 in
theorem k103 : (Cond.fieldLink "PageSkeleton$Row" (18 : Nat) "PageSkeleton$Row" "overfull" "Z") ∈ wsG := wsG_a1 103 rfl rfl
set_option maxRecDepth 100000 in
theorem k127 : (Cond.methodLink "PageSkeleton$Past" (3 : Nat) ({ cls := "java/lang/Object", name := "<init>", desc := "()V" } : MethodName)) ∈ wsG := wsG_a1 127 rfl rfl
set_option maxRecDepth 100000 in
theorem k128 : (Cond.classLink "PageSkeleton$Past" (9 : Nat) "[[I") ∈ wsG := wsG_a1 128 rfl rfl
set_option maxRecDepth 100000 in
theorem k130 : (Cond.fieldLink "PageSkeleton$Past" (11 : Nat) "PageSkeleton$Past" "codes" "[[I") ∈ wsG := wsG_a1 130 rfl rfl
set_option maxRecDepth 100000 in
theorem k131 : (Cond.fieldLink "PageSkeleton$Past" (16 : Nat) "PageSkeleton$Past" "lengths" "[I") ∈ wsG := wsG_a1 131 rfl rfl
set_option maxRecDepth 100000 in
theorem k132 : (Cond.fieldLink "PageSkeleton$Past" (20 : Nat) "PageSkeleton$Past" "costs" "[I") ∈ wsG := wsG_a1 132 rfl rfl
set_option maxRecDepth 100000 in
theorem k133 : (Cond.fieldLink "PageSkeleton$Past" (23 : Nat) "PageSkeleton$Past" "next" "I") ∈ wsG := wsG_a1 133 rfl rfl
set_option maxRecDepth 100000 in
theorem k134 : (Cond.fieldLink "PageSkeleton$Past" (27 : Nat) "PageSkeleton$Past" "count" "I") ∈ wsG := wsG_a1 134 rfl rfl
set_option maxRecDepth 100000 in
theorem k152 : (Cond.methodLink "PageSkeleton$Tidier" (3 : Nat) ({ cls := "java/lang/Object", name := "<init>", desc := "()V" } : MethodName)) ∈ wsG := wsG_a1 152 rfl rfl
set_option maxRecDepth 100000 in
theorem k153 : (Cond.fieldLink "PageSkeleton$Tidier" (9 : Nat) "PageSkeleton$Tidier" "begin" "[I") ∈ wsG := wsG_a1 153 rfl rfl
set_option maxRecDepth 100000 in
theorem k154 : (Cond.fieldLink "PageSkeleton$Tidier" (15 : Nat) "PageSkeleton$Tidier" "firmAhead" "[I") ∈ wsG := wsG_a1 154 rfl rfl
set_option maxRecDepth 100000 in
theorem k155 : (Cond.fieldLink "PageSkeleton$Tidier" (18 : Nat) "PageSkeleton$Tidier" "items" "I") ∈ wsG := wsG_a1 155 rfl rfl
set_option maxRecDepth 100000 in
theorem k156 : (Cond.fieldLink "PageSkeleton$Tidier" (22 : Nat) "PageSkeleton$Tidier" "foldedLength" "I") ∈ wsG := wsG_a1 156 rfl rfl
set_option maxRecDepth 100000 in
theorem k158 : (Cond.fieldLink "PageSkeleton$Tidier" (25 : Nat) "PageSkeleton$Tidier" "foldedPlace" "I") ∈ wsG := wsG_a1 158 rfl rfl
set_option maxRecDepth 100000 in
theorem k160 : (Cond.fieldLink "PageSkeleton$Tidier" (28 : Nat) "PageSkeleton$Tidier" "foldedTimes" "I") ∈ wsG := wsG_a1 160 rfl rfl
set_option maxRecDepth 100000 in
theorem k180 : (Cond.methodLink "PageSkeleton$Layer" (3 : Nat) ({ cls := "java/lang/Object", name := "<init>", desc := "()V" } : MethodName)) ∈ wsG := wsG_a1 180 rfl rfl
set_option maxRecDepth 100000 in
theorem k181 : (Cond.constant "PageSkeleton$Layer" (9 : Nat) (106797 : Int32)) ∈ wsG := wsG_a1 181 rfl rfl
set_option maxRecDepth 100000 in
theorem k182 : (Cond.fieldLink "PageSkeleton$Layer" (10 : Nat) "PageSkeleton$Layer" "cell" "[I") ∈ wsG := wsG_a1 182 rfl rfl
set_option maxRecDepth 100000 in
theorem k183 : (Cond.fieldLink "PageSkeleton$Layer" (16 : Nat) "PageSkeleton$Layer" "levelOfRow" "[I") ∈ wsG := wsG_a1 183 rfl rfl
set_option maxRecDepth 100000 in
theorem k184 : (Cond.fieldLink "PageSkeleton$Layer" (19 : Nat) "PageSkeleton$Layer" "levelOfPage" "[I") ∈ wsG := wsG_a1 184 rfl rfl
set_option maxRecDepth 100000 in
theorem k185 : (Cond.fieldLink "PageSkeleton$Layer" (22 : Nat) "PageSkeleton$Layer" "stride" "I") ∈ wsG := wsG_a1 185 rfl rfl
set_option maxRecDepth 100000 in
theorem k186 : (Cond.fieldLink "PageSkeleton$Layer" (26 : Nat) "PageSkeleton$Layer" "atRow" "I") ∈ wsG := wsG_a1 186 rfl rfl
set_option maxRecDepth 100000 in
theorem k187 : (Cond.fieldLink "PageSkeleton$Layer" (29 : Nat) "PageSkeleton$Layer" "atPage" "I") ∈ wsG := wsG_a1 187 rfl rfl
set_option maxRecDepth 100000 in
theorem k188 : (Cond.fieldLink "PageSkeleton$Layer" (32 : Nat) "PageSkeleton$Layer" "group" "I") ∈ wsG := wsG_a1 188 rfl rfl
set_option maxRecDepth 100000 in
theorem k209 : (Cond.methodLink "PageSkeleton$Walker" (3 : Nat) ({ cls := "java/lang/Object", name := "<init>", desc := "()V" } : MethodName)) ∈ wsG := wsG_a1 209 rfl rfl
set_option maxRecDepth 100000 in
theorem k210 : (Cond.constant "PageSkeleton$Walker" (9 : Nat) (67161 : Int32)) ∈ wsG := wsG_a1 210 rfl rfl
set_option maxRecDepth 100000 in
theorem k211 : (Cond.fieldLink "PageSkeleton$Walker" (10 : Nat) "PageSkeleton$Walker" "answer" "[I") ∈ wsG := wsG_a1 211 rfl rfl
set_option maxRecDepth 100000 in
theorem k212 : (Cond.fieldLink "PageSkeleton$Walker" (16 : Nat) "PageSkeleton$Walker" "inward" "[I") ∈ wsG := wsG_a1 212 rfl rfl
set_option maxRecDepth 100000 in
theorem k223 : (Cond.methodLink "PageSkeleton$Orders" (3 : Nat) ({ cls := "java/lang/Object", name := "<init>", desc := "()V" } : MethodName)) ∈ wsG := wsG_a1 223 rfl rfl
set_option maxRecDepth 100000 in
theorem k224 : (Cond.classLink "PageSkeleton$Orders" (15 : Nat) "PageSkeleton$Row") ∈ wsG := wsG_a1 224 rfl rfl
set_option maxRecDepth 100000 in
theorem k226 : (Cond.classLink "PageSkeleton$Orders" (24 : Nat) "[[I") ∈ wsG := wsG_a1 226 rfl rfl
set_option maxRecDepth 100000 in
theorem k227 : (Cond.methodLink "PageSkeleton$Orders" (45 : Nat) ({ cls := "PageSkeleton$Row", name := "<init>", desc := "(I)V" } : MethodName)) ∈ wsG := wsG_a1 227 rfl rfl
set_option maxRecDepth 100000 in
theorem k228 : (Cond.fieldLink "PageSkeleton$Orders" (9 : Nat) "PageSkeleton$Orders" "order" "[I") ∈ wsG := wsG_a1 228 rfl rfl
set_option maxRecDepth 100000 in
theorem k229 : (Cond.fieldLink "PageSkeleton$Orders" (17 : Nat) "PageSkeleton$Orders" "stages" "[LPageSkeleton$Row;") ∈ wsG := wsG_a1 229 rfl rfl
set_option maxRecDepth 100000 in
theorem k230 : (Cond.fieldLink "PageSkeleton$Orders" (21 : Nat) "PageSkeleton$Orders" "spent" "[I") ∈ wsG := wsG_a1 230 rfl rfl
set_option maxRecDepth 100000 in
theorem k231 : (Cond.fieldLink "PageSkeleton$Orders" (26 : Nat) "PageSkeleton$Orders" "ends" "[[I") ∈ wsG := wsG_a1 231 rfl rfl
set_option maxRecDepth 100000 in
theorem k232 : (Cond.fieldLink "PageSkeleton$Orders" (29 : Nat) "PageSkeleton$Orders" "lengths" "[I") ∈ wsG := wsG_a1 232 rfl rfl
set_option maxRecDepth 100000 in
theorem k233 : (Cond.fieldLink "PageSkeleton$Orders" (32 : Nat) "PageSkeleton$Orders" "totals" "[I") ∈ wsG := wsG_a1 233 rfl rfl
set_option maxRecDepth 100000 in
theorem k234 : (Cond.fieldLink "PageSkeleton$Orders" (35 : Nat) "PageSkeleton$Orders" "count" "I") ∈ wsG := wsG_a1 234 rfl rfl
set_option maxRecDepth 100000 in
theorem k235 : (Cond.fieldLink "PageSkeleton$Orders" (39 : Nat) "PageSkeleton$Orders" "pageCount" "I") ∈ wsG := wsG_a1 235 rfl rfl
set_option maxRecDepth 100000 in
theorem k237 : (Cond.fieldLink "PageSkeleton$Orders" (42 : Nat) "PageSkeleton$Orders" "answers" "[I") ∈ wsG := wsG_a1 237 rfl rfl
set_option maxRecDepth 100000 in
theorem k262 : (Cond.methodLink "PageSkeleton$Leaf" (3 : Nat) ({ cls := "java/lang/Object", name := "<init>", desc := "()V" } : MethodName)) ∈ wsG := wsG_a2 22 rfl rfl
set_option maxRecDepth 100000 in
theorem k263 : (Cond.classLink "PageSkeleton$Leaf" (22 : Nat) "PageSkeleton$Row") ∈ wsG := wsG_a2 23 rfl rfl
set_option maxRecDepth 100000 in
theorem k264 : (Cond.methodLink "PageSkeleton$Leaf" (24 : Nat) ({ cls := "PageSkeleton$Row", name := "<init>", desc := "(I)V" } : MethodName)) ∈ wsG := wsG_a2 24 rfl rfl
set_option maxRecDepth 100000 in
theorem k265 : (Cond.classLink "PageSkeleton$Leaf" (37 : Nat) "PageSkeleton$Walk") ∈ wsG := wsG_a2 25 rfl rfl
set_option maxRecDepth 100000 in
theorem k266 : (Cond.instantiable "PageSkeleton$Walk" (5 : Nat)) ∈ wsG := wsG_a2 26 rfl rfl
set_option maxRecDepth 100000 in
theorem k268 : (Cond.instanceMethod ({ cls := "PageSkeleton$Walk", name := "<init>", desc := "()V" } : MethodName)) ∈ wsG := wsG_a2 28 rfl rfl
set_option maxRecDepth 100000 in
theorem k269 : (Cond.code ({ cls := "PageSkeleton$Walk", name := "<init>", desc := "()V" } : MethodName) prog_9_method_1_code (1 : Nat) (Option.none : Option Jvm.ClassFile.FieldType)) ∈ wsG := wsG_a2 29 rfl rfl
set_option maxRecDepth 100000 in
theorem k270 : (Cond.methodLink "PageSkeleton$Walk" (3 : Nat) ({ cls := "java/lang/Object", name := "<init>", desc := "()V" } : MethodName)) ∈ wsG := wsG_a2 30 rfl rfl
set_option maxRecDepth 100000 in
theorem k271 : (Cond.fieldLink "PageSkeleton$Walk" (9 : Nat) "PageSkeleton$Walk" "stamp" "I") ∈ wsG := wsG_a2 31 rfl rfl
set_option maxRecDepth 100000 in
theorem k273 : (Cond.fieldLink "PageSkeleton$Walk" (15 : Nat) "PageSkeleton$Walk" "wayCount" "I") ∈ wsG := wsG_a2 33 rfl rfl
set_option maxRecDepth 100000 in
theorem k276 : (Cond.fieldLink "PageSkeleton$Walk" (18 : Nat) "PageSkeleton$Walk" "takers" "[I") ∈ wsG := wsG_a2 36 rfl rfl
set_option maxRecDepth 100000 in
theorem k279 : (Cond.fieldLink "PageSkeleton$Walk" (22 : Nat) "PageSkeleton$Walk" "there" "[I") ∈ wsG := wsG_a2 39 rfl rfl
set_option maxRecDepth 100000 in
theorem k282 : (Cond.fieldLink "PageSkeleton$Walk" (25 : Nat) "PageSkeleton$Walk" "passed" "[I") ∈ wsG := wsG_a2 42 rfl rfl
set_option maxRecDepth 100000 in
theorem k296 : (Cond.fieldLink "PageSkeleton$Leaf" (9 : Nat) "PageSkeleton$Leaf" "tokens" "[I") ∈ wsG := wsG_a2 56 rfl rfl
set_option maxRecDepth 100000 in
theorem k298 : (Cond.fieldLink "PageSkeleton$Leaf" (15 : Nat) "PageSkeleton$Leaf" "codes" "[I") ∈ wsG := wsG_a2 58 rfl rfl
set_option maxRecDepth 100000 in
theorem k300 : (Cond.fieldLink "PageSkeleton$Leaf" (18 : Nat) "PageSkeleton$Leaf" "count" "I") ∈ wsG := wsG_a2 60 rfl rfl
set_option maxRecDepth 100000 in
theorem k302 : (Cond.fieldLink "PageSkeleton$Leaf" (27 : Nat) "PageSkeleton$Leaf" "folded" "LPageSkeleton$Row;") ∈ wsG := wsG_a2 62 rfl rfl
set_option maxRecDepth 100000 in
theorem k305 : (Cond.fieldLink "PageSkeleton$Leaf" (31 : Nat) "PageSkeleton$Leaf" "steps" "[I") ∈ wsG := wsG_a2 65 rfl rfl
set_option maxRecDepth 100000 in
theorem k307 : (Cond.fieldLink "PageSkeleton$Leaf" (34 : Nat) "PageSkeleton$Leaf" "stepCount" "I") ∈ wsG := wsG_a2 67 rfl rfl
set_option maxRecDepth 100000 in
theorem k309 : (Cond.fieldLink "PageSkeleton$Leaf" (40 : Nat) "PageSkeleton$Leaf" "walk" "LPageSkeleton$Walk;") ∈ wsG := wsG_a2 69 rfl rfl
set_option maxRecDepth 100000 in
theorem k311 : (Cond.fieldLink "PageSkeleton$Leaf" (44 : Nat) "PageSkeleton$Leaf" "longest" "[I") ∈ wsG := wsG_a2 71 rfl rfl

theorem dX5_init_0 : decode cX5_init 0 = .ok (.aload_n 0, 1) := by decide +kernel
theorem dX5_init_1 : decode cX5_init 1 = .ok (.invokespecial 3, 3) := by decide +kernel
theorem dX5_init_4 : decode cX5_init 4 = .ok (.aload_n 0, 1) := by decide +kernel
theorem dX5_init_5 : decode cX5_init 5 = .ok (.sipush 400, 3) := by decide +kernel
theorem dX5_init_8 : decode cX5_init 8 = .ok (.newarray .int, 2) := by decide +kernel
theorem dX5_init_10 : decode cX5_init 10 = .ok (.putfield 9, 3) := by decide +kernel
theorem dX5_init_13 : decode cX5_init 13 = .ok (.aload_n 0, 1) := by decide +kernel
theorem dX5_init_14 : decode cX5_init 14 = .ok (.iconst 0, 1) := by decide +kernel
theorem dX5_init_15 : decode cX5_init 15 = .ok (.putfield 15, 3) := by decide +kernel
theorem dX5_init_18 : decode cX5_init 18 = .ok (.aload_n 0, 1) := by decide +kernel
theorem dX5_init_19 : decode cX5_init 19 = .ok (.sipush 200, 3) := by decide +kernel
theorem dX5_init_22 : decode cX5_init 22 = .ok (.newarray .int, 2) := by decide +kernel
theorem dX5_init_24 : decode cX5_init 24 = .ok (.putfield 19, 3) := by decide +kernel
theorem dX5_init_27 : decode cX5_init 27 = .ok (.aload_n 0, 1) := by decide +kernel
theorem dX5_init_28 : decode cX5_init 28 = .ok (.iconst 0, 1) := by decide +kernel
theorem dX5_init_29 : decode cX5_init 29 = .ok (.putfield 22, 3) := by decide +kernel
theorem dX5_init_32 : decode cX5_init 32 = .ok (.aload_n 0, 1) := by decide +kernel
theorem dX5_init_33 : decode cX5_init 33 = .ok (.bipush 60, 2) := by decide +kernel
theorem dX5_init_35 : decode cX5_init 35 = .ok (.newarray .int, 2) := by decide +kernel
theorem dX5_init_37 : decode cX5_init 37 = .ok (.putfield 25, 3) := by decide +kernel
theorem dX5_init_40 : decode cX5_init 40 = .ok (.aload_n 0, 1) := by decide +kernel
theorem dX5_init_41 : decode cX5_init 41 = .ok (.iconst 0, 1) := by decide +kernel
theorem dX5_init_42 : decode cX5_init 42 = .ok (.putfield 28, 3) := by decide +kernel
theorem dX5_init_45 : decode cX5_init 45 = .ok (.aload_n 0, 1) := by decide +kernel
theorem dX5_init_46 : decode cX5_init 46 = .ok (.iconst (-1), 1) := by decide +kernel
theorem dX5_init_47 : decode cX5_init 47 = .ok (.putfield 31, 3) := by decide +kernel
theorem dX5_init_50 : decode cX5_init 50 = .ok (.aload_n 0, 1) := by decide +kernel
theorem dX5_init_51 : decode cX5_init 51 = .ok (.iconst 0, 1) := by decide +kernel
theorem dX5_init_52 : decode cX5_init 52 = .ok (.putfield 34, 3) := by decide +kernel
theorem dX5_init_55 : decode cX5_init 55 = .ok (.return_, 1) := by decide +kernel
theorem dX4_init_0 : decode cX4_init 0 = .ok (.aload_n 0, 1) := by decide +kernel
theorem dX4_init_1 : decode cX4_init 1 = .ok (.invokespecial 3, 3) := by decide +kernel
theorem dX4_init_4 : decode cX4_init 4 = .ok (.aload_n 0, 1) := by decide +kernel
theorem dX4_init_5 : decode cX4_init 5 = .ok (.iconst 0, 1) := by decide +kernel
theorem dX4_init_6 : decode cX4_init 6 = .ok (.putfield 9, 3) := by decide +kernel
theorem dX4_init_9 : decode cX4_init 9 = .ok (.aload_n 0, 1) := by decide +kernel
theorem dX4_init_10 : decode cX4_init 10 = .ok (.iconst 0, 1) := by decide +kernel
theorem dX4_init_11 : decode cX4_init 11 = .ok (.putfield 15, 3) := by decide +kernel
theorem dX4_init_14 : decode cX4_init 14 = .ok (.aload_n 0, 1) := by decide +kernel
theorem dX4_init_15 : decode cX4_init 15 = .ok (.iconst 0, 1) := by decide +kernel
theorem dX4_init_16 : decode cX4_init 16 = .ok (.putfield 18, 3) := by decide +kernel
theorem dX4_init_19 : decode cX4_init 19 = .ok (.iload_n 1, 1) := by decide +kernel
theorem dX4_init_20 : decode cX4_init 20 = .ok (.iconst 1, 1) := by decide +kernel
theorem dX4_init_21 : decode cX4_init 21 = .ok (.invokestatic 22, 3) := by decide +kernel
theorem dX4_init_24 : decode cX4_init 24 = .ok (.istore_n 2, 1) := by decide +kernel
theorem dX4_init_25 : decode cX4_init 25 = .ok (.aload_n 0, 1) := by decide +kernel
theorem dX4_init_26 : decode cX4_init 26 = .ok (.iload_n 2, 1) := by decide +kernel
theorem dX4_init_27 : decode cX4_init 27 = .ok (.newarray .int, 2) := by decide +kernel
theorem dX4_init_29 : decode cX4_init 29 = .ok (.putfield 28, 3) := by decide +kernel
theorem dX4_init_32 : decode cX4_init 32 = .ok (.aload_n 0, 1) := by decide +kernel
theorem dX4_init_33 : decode cX4_init 33 = .ok (.iload_n 2, 1) := by decide +kernel
theorem dX4_init_34 : decode cX4_init 34 = .ok (.newarray .int, 2) := by decide +kernel
theorem dX4_init_36 : decode cX4_init 36 = .ok (.putfield 32, 3) := by decide +kernel
theorem dX4_init_39 : decode cX4_init 39 = .ok (.aload_n 0, 1) := by decide +kernel
theorem dX4_init_40 : decode cX4_init 40 = .ok (.iload_n 2, 1) := by decide +kernel
theorem dX4_init_41 : decode cX4_init 41 = .ok (.iconst 1, 1) := by decide +kernel
theorem dX4_init_42 : decode cX4_init 42 = .ok (.iadd, 1) := by decide +kernel
theorem dX4_init_43 : decode cX4_init 43 = .ok (.newarray .int, 2) := by decide +kernel
theorem dX4_init_45 : decode cX4_init 45 = .ok (.putfield 35, 3) := by decide +kernel
theorem dX4_init_48 : decode cX4_init 48 = .ok (.aload_n 0, 1) := by decide +kernel
theorem dX4_init_49 : decode cX4_init 49 = .ok (.iload_n 2, 1) := by decide +kernel
theorem dX4_init_50 : decode cX4_init 50 = .ok (.newarray .int, 2) := by decide +kernel
theorem dX4_init_52 : decode cX4_init 52 = .ok (.putfield 38, 3) := by decide +kernel
theorem dX4_init_55 : decode cX4_init 55 = .ok (.aload_n 0, 1) := by decide +kernel
theorem dX4_init_56 : decode cX4_init 56 = .ok (.iload_n 2, 1) := by decide +kernel
theorem dX4_init_57 : decode cX4_init 57 = .ok (.newarray .int, 2) := by decide +kernel
theorem dX4_init_59 : decode cX4_init 59 = .ok (.putfield 41, 3) := by decide +kernel
theorem dX4_init_62 : decode cX4_init 62 = .ok (.return_, 1) := by decide +kernel
theorem dX7_init_0 : decode cX7_init 0 = .ok (.aload_n 0, 1) := by decide +kernel
theorem dX7_init_1 : decode cX7_init 1 = .ok (.invokespecial 3, 3) := by decide +kernel
theorem dX7_init_4 : decode cX7_init 4 = .ok (.aload_n 0, 1) := by decide +kernel
theorem dX7_init_5 : decode cX7_init 5 = .ok (.iconst (-1), 1) := by decide +kernel
theorem dX7_init_6 : decode cX7_init 6 = .ok (.putfield 9, 3) := by decide +kernel
theorem dX7_init_9 : decode cX7_init 9 = .ok (.aload_n 0, 1) := by decide +kernel
theorem dX7_init_10 : decode cX7_init 10 = .ok (.iconst 0, 1) := by decide +kernel
theorem dX7_init_11 : decode cX7_init 11 = .ok (.putfield 15, 3) := by decide +kernel
theorem dX7_init_14 : decode cX7_init 14 = .ok (.aload_n 0, 1) := by decide +kernel
theorem dX7_init_15 : decode cX7_init 15 = .ok (.bipush 60, 2) := by decide +kernel
theorem dX7_init_17 : decode cX7_init 17 = .ok (.newarray .int, 2) := by decide +kernel
theorem dX7_init_19 : decode cX7_init 19 = .ok (.putfield 18, 3) := by decide +kernel
theorem dX7_init_22 : decode cX7_init 22 = .ok (.aload_n 0, 1) := by decide +kernel
theorem dX7_init_23 : decode cX7_init 23 = .ok (.sipush 1100, 3) := by decide +kernel
theorem dX7_init_26 : decode cX7_init 26 = .ok (.newarray .int, 2) := by decide +kernel
theorem dX7_init_28 : decode cX7_init 28 = .ok (.putfield 22, 3) := by decide +kernel
theorem dX7_init_31 : decode cX7_init 31 = .ok (.aload_n 0, 1) := by decide +kernel
theorem dX7_init_32 : decode cX7_init 32 = .ok (.sipush 1100, 3) := by decide +kernel
theorem dX7_init_35 : decode cX7_init 35 = .ok (.newarray .int, 2) := by decide +kernel
theorem dX7_init_37 : decode cX7_init 37 = .ok (.putfield 25, 3) := by decide +kernel
theorem dX7_init_40 : decode cX7_init 40 = .ok (.return_, 1) := by decide +kernel
theorem dX1_init_0 : decode cX1_init 0 = .ok (.aload_n 0, 1) := by decide +kernel
theorem dX1_init_1 : decode cX1_init 1 = .ok (.invokespecial 3, 3) := by decide +kernel
theorem dX1_init_4 : decode cX1_init 4 = .ok (.aload_n 0, 1) := by decide +kernel
theorem dX1_init_5 : decode cX1_init 5 = .ok (.bipush 60, 2) := by decide +kernel
theorem dX1_init_7 : decode cX1_init 7 = .ok (.newarray .int, 2) := by decide +kernel
theorem dX1_init_9 : decode cX1_init 9 = .ok (.putfield 9, 3) := by decide +kernel
theorem dX1_init_12 : decode cX1_init 12 = .ok (.aload_n 0, 1) := by decide +kernel
theorem dX1_init_13 : decode cX1_init 13 = .ok (.bipush 60, 2) := by decide +kernel
theorem dX1_init_15 : decode cX1_init 15 = .ok (.newarray .int, 2) := by decide +kernel
theorem dX1_init_17 : decode cX1_init 17 = .ok (.putfield 15, 3) := by decide +kernel
theorem dX1_init_20 : decode cX1_init 20 = .ok (.aload_n 0, 1) := by decide +kernel
theorem dX1_init_21 : decode cX1_init 21 = .ok (.iconst 0, 1) := by decide +kernel
theorem dX1_init_22 : decode cX1_init 22 = .ok (.putfield 18, 3) := by decide +kernel
theorem dX1_init_25 : decode cX1_init 25 = .ok (.aload_n 0, 1) := by decide +kernel
theorem dX1_init_26 : decode cX1_init 26 = .ok (.new 22, 3) := by decide +kernel
theorem dX1_init_29 : decode cX1_init 29 = .ok (.dup, 1) := by decide +kernel
theorem dX1_init_30 : decode cX1_init 30 = .ok (.bipush 96, 2) := by decide +kernel
theorem dX1_init_32 : decode cX1_init 32 = .ok (.invokespecial 24, 3) := by decide +kernel
theorem dX1_init_35 : decode cX1_init 35 = .ok (.putfield 27, 3) := by decide +kernel
theorem dX1_init_38 : decode cX1_init 38 = .ok (.aload_n 0, 1) := by decide +kernel
theorem dX1_init_39 : decode cX1_init 39 = .ok (.sipush 180, 3) := by decide +kernel
theorem dX1_init_42 : decode cX1_init 42 = .ok (.newarray .int, 2) := by decide +kernel
theorem dX1_init_44 : decode cX1_init 44 = .ok (.putfield 31, 3) := by decide +kernel
theorem dX1_init_47 : decode cX1_init 47 = .ok (.aload_n 0, 1) := by decide +kernel
theorem dX1_init_48 : decode cX1_init 48 = .ok (.iconst 0, 1) := by decide +kernel
theorem dX1_init_49 : decode cX1_init 49 = .ok (.putfield 34, 3) := by decide +kernel
theorem dX1_init_52 : decode cX1_init 52 = .ok (.aload_n 0, 1) := by decide +kernel
theorem dX1_init_53 : decode cX1_init 53 = .ok (.new 37, 3) := by decide +kernel
theorem dX1_init_56 : decode cX1_init 56 = .ok (.dup, 1) := by decide +kernel
theorem dX1_init_57 : decode cX1_init 57 = .ok (.invokespecial 39, 3) := by decide +kernel
theorem dX1_init_60 : decode cX1_init 60 = .ok (.putfield 40, 3) := by decide +kernel
theorem dX1_init_63 : decode cX1_init 63 = .ok (.aload_n 0, 1) := by decide +kernel
theorem dX1_init_64 : decode cX1_init 64 = .ok (.bipush 61, 2) := by decide +kernel
theorem dX1_init_66 : decode cX1_init 66 = .ok (.newarray .int, 2) := by decide +kernel
theorem dX1_init_68 : decode cX1_init 68 = .ok (.putfield 44, 3) := by decide +kernel
theorem dX1_init_71 : decode cX1_init 71 = .ok (.return_, 1) := by decide +kernel
theorem dX3_init_0 : decode cX3_init 0 = .ok (.aload_n 0, 1) := by decide +kernel
theorem dX3_init_1 : decode cX3_init 1 = .ok (.invokespecial 3, 3) := by decide +kernel
theorem dX3_init_4 : decode cX3_init 4 = .ok (.aload_n 0, 1) := by decide +kernel
theorem dX3_init_5 : decode cX3_init 5 = .ok (.bipush 16, 2) := by decide +kernel
theorem dX3_init_7 : decode cX3_init 7 = .ok (.sipush 1100, 3) := by decide +kernel
theorem dX3_init_10 : decode cX3_init 10 = .ok (.multianewarray 9 2, 4) := by decide +kernel
theorem dX3_init_14 : decode cX3_init 14 = .ok (.putfield 11, 3) := by decide +kernel
theorem dX3_init_17 : decode cX3_init 17 = .ok (.aload_n 0, 1) := by decide +kernel
theorem dX3_init_18 : decode cX3_init 18 = .ok (.bipush 16, 2) := by decide +kernel
theorem dX3_init_20 : decode cX3_init 20 = .ok (.newarray .int, 2) := by decide +kernel
theorem dX3_init_22 : decode cX3_init 22 = .ok (.putfield 16, 3) := by decide +kernel
theorem dX3_init_25 : decode cX3_init 25 = .ok (.aload_n 0, 1) := by decide +kernel
theorem dX3_init_26 : decode cX3_init 26 = .ok (.bipush 16, 2) := by decide +kernel
theorem dX3_init_28 : decode cX3_init 28 = .ok (.newarray .int, 2) := by decide +kernel
theorem dX3_init_30 : decode cX3_init 30 = .ok (.putfield 20, 3) := by decide +kernel
theorem dX3_init_33 : decode cX3_init 33 = .ok (.aload_n 0, 1) := by decide +kernel
theorem dX3_init_34 : decode cX3_init 34 = .ok (.iconst 0, 1) := by decide +kernel
theorem dX3_init_35 : decode cX3_init 35 = .ok (.putfield 23, 3) := by decide +kernel
theorem dX3_init_38 : decode cX3_init 38 = .ok (.aload_n 0, 1) := by decide +kernel
theorem dX3_init_39 : decode cX3_init 39 = .ok (.iconst 0, 1) := by decide +kernel
theorem dX3_init_40 : decode cX3_init 40 = .ok (.putfield 27, 3) := by decide +kernel
theorem dX3_init_43 : decode cX3_init 43 = .ok (.return_, 1) := by decide +kernel
theorem dX6_init_0 : decode cX6_init 0 = .ok (.aload_n 0, 1) := by decide +kernel
theorem dX6_init_1 : decode cX6_init 1 = .ok (.invokespecial 3, 3) := by decide +kernel
theorem dX6_init_4 : decode cX6_init 4 = .ok (.aload_n 0, 1) := by decide +kernel
theorem dX6_init_5 : decode cX6_init 5 = .ok (.sipush 1101, 3) := by decide +kernel
theorem dX6_init_8 : decode cX6_init 8 = .ok (.newarray .int, 2) := by decide +kernel
theorem dX6_init_10 : decode cX6_init 10 = .ok (.putfield 9, 3) := by decide +kernel
theorem dX6_init_13 : decode cX6_init 13 = .ok (.aload_n 0, 1) := by decide +kernel
theorem dX6_init_14 : decode cX6_init 14 = .ok (.sipush 1101, 3) := by decide +kernel
theorem dX6_init_17 : decode cX6_init 17 = .ok (.newarray .int, 2) := by decide +kernel
theorem dX6_init_19 : decode cX6_init 19 = .ok (.putfield 15, 3) := by decide +kernel
theorem dX6_init_22 : decode cX6_init 22 = .ok (.aload_n 0, 1) := by decide +kernel
theorem dX6_init_23 : decode cX6_init 23 = .ok (.iconst 0, 1) := by decide +kernel
theorem dX6_init_24 : decode cX6_init 24 = .ok (.putfield 18, 3) := by decide +kernel
theorem dX6_init_27 : decode cX6_init 27 = .ok (.aload_n 0, 1) := by decide +kernel
theorem dX6_init_28 : decode cX6_init 28 = .ok (.iconst 0, 1) := by decide +kernel
theorem dX6_init_29 : decode cX6_init 29 = .ok (.putfield 22, 3) := by decide +kernel
theorem dX6_init_32 : decode cX6_init 32 = .ok (.aload_n 0, 1) := by decide +kernel
theorem dX6_init_33 : decode cX6_init 33 = .ok (.iconst 0, 1) := by decide +kernel
theorem dX6_init_34 : decode cX6_init 34 = .ok (.putfield 25, 3) := by decide +kernel
theorem dX6_init_37 : decode cX6_init 37 = .ok (.aload_n 0, 1) := by decide +kernel
theorem dX6_init_38 : decode cX6_init 38 = .ok (.iconst 0, 1) := by decide +kernel
theorem dX6_init_39 : decode cX6_init 39 = .ok (.putfield 28, 3) := by decide +kernel
theorem dX6_init_42 : decode cX6_init 42 = .ok (.return_, 1) := by decide +kernel
theorem dX0_init_0 : decode cX0_init 0 = .ok (.aload_n 0, 1) := by decide +kernel
theorem dX0_init_1 : decode cX0_init 1 = .ok (.invokespecial 3, 3) := by decide +kernel
theorem dX0_init_4 : decode cX0_init 4 = .ok (.aload_n 0, 1) := by decide +kernel
theorem dX0_init_5 : decode cX0_init 5 = .ok (.ldc 9, 2) := by decide +kernel
theorem dX0_init_7 : decode cX0_init 7 = .ok (.newarray .int, 2) := by decide +kernel
theorem dX0_init_9 : decode cX0_init 9 = .ok (.putfield 10, 3) := by decide +kernel
theorem dX0_init_12 : decode cX0_init 12 = .ok (.aload_n 0, 1) := by decide +kernel
theorem dX0_init_13 : decode cX0_init 13 = .ok (.sipush 1101, 3) := by decide +kernel
theorem dX0_init_16 : decode cX0_init 16 = .ok (.newarray .int, 2) := by decide +kernel
theorem dX0_init_18 : decode cX0_init 18 = .ok (.putfield 16, 3) := by decide +kernel
theorem dX0_init_21 : decode cX0_init 21 = .ok (.aload_n 0, 1) := by decide +kernel
theorem dX0_init_22 : decode cX0_init 22 = .ok (.sipush 1101, 3) := by decide +kernel
theorem dX0_init_25 : decode cX0_init 25 = .ok (.newarray .int, 2) := by decide +kernel
theorem dX0_init_27 : decode cX0_init 27 = .ok (.putfield 19, 3) := by decide +kernel
theorem dX0_init_30 : decode cX0_init 30 = .ok (.aload_n 0, 1) := by decide +kernel
theorem dX0_init_31 : decode cX0_init 31 = .ok (.iconst 1, 1) := by decide +kernel
theorem dX0_init_32 : decode cX0_init 32 = .ok (.putfield 22, 3) := by decide +kernel
theorem dX0_init_35 : decode cX0_init 35 = .ok (.aload_n 0, 1) := by decide +kernel
theorem dX0_init_36 : decode cX0_init 36 = .ok (.iconst 0, 1) := by decide +kernel
theorem dX0_init_37 : decode cX0_init 37 = .ok (.putfield 26, 3) := by decide +kernel
theorem dX0_init_40 : decode cX0_init 40 = .ok (.aload_n 0, 1) := by decide +kernel
theorem dX0_init_41 : decode cX0_init 41 = .ok (.iconst 0, 1) := by decide +kernel
theorem dX0_init_42 : decode cX0_init 42 = .ok (.putfield 29, 3) := by decide +kernel
theorem dX0_init_45 : decode cX0_init 45 = .ok (.aload_n 0, 1) := by decide +kernel
theorem dX0_init_46 : decode cX0_init 46 = .ok (.iconst 0, 1) := by decide +kernel
theorem dX0_init_47 : decode cX0_init 47 = .ok (.putfield 32, 3) := by decide +kernel
theorem dX0_init_50 : decode cX0_init 50 = .ok (.return_, 1) := by decide +kernel
theorem dX8_init_0 : decode cX8_init 0 = .ok (.aload_n 0, 1) := by decide +kernel
theorem dX8_init_1 : decode cX8_init 1 = .ok (.invokespecial 3, 3) := by decide +kernel
theorem dX8_init_4 : decode cX8_init 4 = .ok (.aload_n 0, 1) := by decide +kernel
theorem dX8_init_5 : decode cX8_init 5 = .ok (.ldc 9, 2) := by decide +kernel
theorem dX8_init_7 : decode cX8_init 7 = .ok (.newarray .int, 2) := by decide +kernel
theorem dX8_init_9 : decode cX8_init 9 = .ok (.putfield 10, 3) := by decide +kernel
theorem dX8_init_12 : decode cX8_init 12 = .ok (.aload_n 0, 1) := by decide +kernel
theorem dX8_init_13 : decode cX8_init 13 = .ok (.sipush 1101, 3) := by decide +kernel
theorem dX8_init_16 : decode cX8_init 16 = .ok (.newarray .int, 2) := by decide +kernel
theorem dX8_init_18 : decode cX8_init 18 = .ok (.putfield 16, 3) := by decide +kernel
theorem dX8_init_21 : decode cX8_init 21 = .ok (.return_, 1) := by decide +kernel
theorem dX2_init_0 : decode cX2_init 0 = .ok (.aload_n 0, 1) := by decide +kernel
theorem dX2_init_1 : decode cX2_init 1 = .ok (.invokespecial 3, 3) := by decide +kernel
theorem dX2_init_4 : decode cX2_init 4 = .ok (.aload_n 0, 1) := by decide +kernel
theorem dX2_init_5 : decode cX2_init 5 = .ok (.iconst 4, 1) := by decide +kernel
theorem dX2_init_6 : decode cX2_init 6 = .ok (.newarray .int, 2) := by decide +kernel
theorem dX2_init_8 : decode cX2_init 8 = .ok (.putfield 9, 3) := by decide +kernel
theorem dX2_init_11 : decode cX2_init 11 = .ok (.aload_n 0, 1) := by decide +kernel
theorem dX2_init_12 : decode cX2_init 12 = .ok (.iconst 5, 1) := by decide +kernel
theorem dX2_init_13 : decode cX2_init 13 = .ok (.anewarray 15, 3) := by decide +kernel
theorem dX2_init_16 : decode cX2_init 16 = .ok (.putfield 17, 3) := by decide +kernel
theorem dX2_init_19 : decode cX2_init 19 = .ok (.aload_n 0, 1) := by decide +kernel
theorem dX2_init_20 : decode cX2_init 20 = .ok (.iconst 5, 1) := by decide +kernel
theorem dX2_init_21 : decode cX2_init 21 = .ok (.newarray .int, 2) := by decide +kernel
theorem dX2_init_23 : decode cX2_init 23 = .ok (.putfield 21, 3) := by decide +kernel
theorem dX2_init_26 : decode cX2_init 26 = .ok (.aload_n 0, 1) := by decide +kernel
theorem dX2_init_27 : decode cX2_init 27 = .ok (.bipush 24, 2) := by decide +kernel
theorem dX2_init_29 : decode cX2_init 29 = .ok (.sipush 1100, 3) := by decide +kernel
theorem dX2_init_32 : decode cX2_init 32 = .ok (.multianewarray 24 2, 4) := by decide +kernel
theorem dX2_init_36 : decode cX2_init 36 = .ok (.putfield 26, 3) := by decide +kernel
theorem dX2_init_39 : decode cX2_init 39 = .ok (.aload_n 0, 1) := by decide +kernel
theorem dX2_init_40 : decode cX2_init 40 = .ok (.bipush 24, 2) := by decide +kernel
theorem dX2_init_42 : decode cX2_init 42 = .ok (.newarray .int, 2) := by decide +kernel
theorem dX2_init_44 : decode cX2_init 44 = .ok (.putfield 29, 3) := by decide +kernel
theorem dX2_init_47 : decode cX2_init 47 = .ok (.aload_n 0, 1) := by decide +kernel
theorem dX2_init_48 : decode cX2_init 48 = .ok (.bipush 24, 2) := by decide +kernel
theorem dX2_init_50 : decode cX2_init 50 = .ok (.newarray .int, 2) := by decide +kernel
theorem dX2_init_52 : decode cX2_init 52 = .ok (.putfield 32, 3) := by decide +kernel
theorem dX2_init_55 : decode cX2_init 55 = .ok (.aload_n 0, 1) := by decide +kernel
theorem dX2_init_56 : decode cX2_init 56 = .ok (.iconst 0, 1) := by decide +kernel
theorem dX2_init_57 : decode cX2_init 57 = .ok (.putfield 35, 3) := by decide +kernel
theorem dX2_init_60 : decode cX2_init 60 = .ok (.aload_n 0, 1) := by decide +kernel
theorem dX2_init_61 : decode cX2_init 61 = .ok (.iconst 0, 1) := by decide +kernel
theorem dX2_init_62 : decode cX2_init 62 = .ok (.putfield 39, 3) := by decide +kernel
theorem dX2_init_65 : decode cX2_init 65 = .ok (.aload_n 0, 1) := by decide +kernel
theorem dX2_init_66 : decode cX2_init 66 = .ok (.iconst 4, 1) := by decide +kernel
theorem dX2_init_67 : decode cX2_init 67 = .ok (.newarray .int, 2) := by decide +kernel
theorem dX2_init_69 : decode cX2_init 69 = .ok (.putfield 42, 3) := by decide +kernel
theorem dX2_init_72 : decode cX2_init 72 = .ok (.iconst 0, 1) := by decide +kernel
theorem dX2_init_73 : decode cX2_init 73 = .ok (.istore_n 1, 1) := by decide +kernel
theorem dX2_init_74 : decode cX2_init 74 = .ok (.iload_n 1, 1) := by decide +kernel
theorem dX2_init_75 : decode cX2_init 75 = .ok (.iconst 4, 1) := by decide +kernel
theorem dX2_init_76 : decode cX2_init 76 = .ok (.if_icmp .gt 25, 3) := by decide +kernel
theorem dX2_init_79 : decode cX2_init 79 = .ok (.aload_n 0, 1) := by decide +kernel
theorem dX2_init_80 : decode cX2_init 80 = .ok (.getfield 17, 3) := by decide +kernel
theorem dX2_init_83 : decode cX2_init 83 = .ok (.iload_n 1, 1) := by decide +kernel
theorem dX2_init_84 : decode cX2_init 84 = .ok (.new 15, 3) := by decide +kernel
theorem dX2_init_87 : decode cX2_init 87 = .ok (.dup, 1) := by decide +kernel
theorem dX2_init_88 : decode cX2_init 88 = .ok (.sipush 1100, 3) := by decide +kernel
theorem dX2_init_91 : decode cX2_init 91 = .ok (.invokespecial 45, 3) := by decide +kernel
theorem dX2_init_94 : decode cX2_init 94 = .ok (.aastore, 1) := by decide +kernel
theorem dX2_init_95 : decode cX2_init 95 = .ok (.iinc 1 1, 3) := by decide +kernel
theorem dX2_init_98 : decode cX2_init 98 = .ok (.goto (-24), 3) := by decide +kernel
theorem dX2_init_101 : decode cX2_init 101 = .ok (.return_, 1) := by decide +kernel

theorem k3 : (Cond.initialized "PageSkeleton$Row") ∈ wsG := wsG_at 3 (by decide +kernel) (by decide +kernel)
theorem k4 : (Cond.initialized "java/lang/Math") ∈ wsG := wsG_at 4 (by decide +kernel) (by decide +kernel)
theorem k11 : (Cond.initialized "PageSkeleton$Walk") ∈ wsG := wsG_at 11 (by decide +kernel) (by decide +kernel)
theorem k27 : (Cond.instanceMethod ({ cls := "java/lang/Object", name := "<init>", desc := "()V" } : MethodName)) ∈ wsG := wsG_at 27 (by decide +kernel) (by decide +kernel)
theorem k28 : (Cond.code ({ cls := "java/lang/Object", name := "<init>", desc := "()V" } : MethodName) object_method_1_code (1 : Nat) (Option.none : Option Jvm.ClassFile.FieldType)) ∈ wsG := wsG_at 28 (by decide +kernel) (by decide +kernel)
theorem k34 : (Cond.methodLink "PageSkeleton$Texts" (3 : Nat) ({ cls := "java/lang/Object", name := "<init>", desc := "()V" } : MethodName)) ∈ wsG := wsG_at 34 (by decide +kernel) (by decide +kernel)
theorem k35 : (Cond.fieldLink "PageSkeleton$Texts" (9 : Nat) "PageSkeleton$Texts" "tape" "[I") ∈ wsG := wsG_at 35 (by decide +kernel) (by decide +kernel)
theorem k36 : (Cond.fieldLink "PageSkeleton$Texts" (15 : Nat) "PageSkeleton$Texts" "bytes" "I") ∈ wsG := wsG_at 36 (by decide +kernel) (by decide +kernel)
theorem k38 : (Cond.fieldLink "PageSkeleton$Texts" (19 : Nat) "PageSkeleton$Texts" "keys" "[I") ∈ wsG := wsG_at 38 (by decide +kernel) (by decide +kernel)
theorem k39 : (Cond.fieldLink "PageSkeleton$Texts" (22 : Nat) "PageSkeleton$Texts" "tokens" "I") ∈ wsG := wsG_at 39 (by decide +kernel) (by decide +kernel)
theorem k41 : (Cond.fieldLink "PageSkeleton$Texts" (25 : Nat) "PageSkeleton$Texts" "found" "[I") ∈ wsG := wsG_at 41 (by decide +kernel) (by decide +kernel)
theorem k43 : (Cond.fieldLink "PageSkeleton$Texts" (28 : Nat) "PageSkeleton$Texts" "foundCount" "I") ∈ wsG := wsG_at 43 (by decide +kernel) (by decide +kernel)
theorem k45 : (Cond.fieldLink "PageSkeleton$Texts" (31 : Nat) "PageSkeleton$Texts" "faultPlace" "I") ∈ wsG := wsG_at 45 (by decide +kernel) (by decide +kernel)
theorem k47 : (Cond.fieldLink "PageSkeleton$Texts" (34 : Nat) "PageSkeleton$Texts" "at" "I") ∈ wsG := wsG_at 47 (by decide +kernel) (by decide +kernel)
theorem k65 : (Cond.arrayClass FieldType.int) ∈ wsG := wsG_at 65 (by decide +kernel) (by decide +kernel)
theorem k69 : (Cond.instantiable "PageSkeleton$Row" (8 : Nat)) ∈ wsG := wsG_at 69 (by decide +kernel) (by decide +kernel)
theorem k71 : (Cond.instanceMethod ({ cls := "PageSkeleton$Row", name := "<init>", desc := "(I)V" } : MethodName)) ∈ wsG := wsG_at 71 (by decide +kernel) (by decide +kernel)
theorem k72 : (Cond.code ({ cls := "PageSkeleton$Row", name := "<init>", desc := "(I)V" } : MethodName) prog_6_method_1_code (3 : Nat) (Option.none : Option Jvm.ClassFile.FieldType)) ∈ wsG := wsG_at 72 (by decide +kernel) (by decide +kernel)
theorem k73 : (Cond.methodLink "PageSkeleton$Row" (3 : Nat) ({ cls := "java/lang/Object", name := "<init>", desc := "()V" } : MethodName)) ∈ wsG := wsG_at 73 (by decide +kernel) (by decide +kernel)
theorem k74 : (Cond.methodLink "PageSkeleton$Row" (22 : Nat) ({ cls := "java/lang/Math", name := "max", desc := "(II)I" } : MethodName)) ∈ wsG := wsG_at 74 (by decide +kernel) (by decide +kernel)
theorem k75 : (Cond.static ({ cls := "java/lang/Math", name := "max", desc := "(II)I" } : MethodName)) ∈ wsG := wsG_at 75 (by decide +kernel) (by decide +kernel)
theorem k76 : (Cond.code ({ cls := "java/lang/Math", name := "max", desc := "(II)I" } : MethodName) prog_17_method_65_code (2 : Nat) (Option.some FieldType.int)) ∈ wsG := wsG_at 76 (by decide +kernel) (by decide +kernel)
theorem k77 : (Cond.fieldLink "PageSkeleton$Row" (28 : Nat) "PageSkeleton$Row" "code" "[I") ∈ wsG := wsG_at 77 (by decide +kernel) (by decide +kernel)
theorem k83 : (Cond.fieldLink "PageSkeleton$Row" (32 : Nat) "PageSkeleton$Row" "mate" "[I") ∈ wsG := wsG_at 83 (by decide +kernel) (by decide +kernel)
theorem k87 : (Cond.fieldLink "PageSkeleton$Row" (35 : Nat) "PageSkeleton$Row" "ahead" "[I") ∈ wsG := wsG_at 87 (by decide +kernel) (by decide +kernel)
theorem k88 : (Cond.fieldLink "PageSkeleton$Row" (38 : Nat) "PageSkeleton$Row" "number" "[I") ∈ wsG := wsG_at 88 (by decide +kernel) (by decide +kernel)
theorem k90 : (Cond.fieldLink "PageSkeleton$Row" (41 : Nat) "PageSkeleton$Row" "place" "[I") ∈ wsG := wsG_at 90 (by decide +kernel) (by decide +kernel)
theorem k92 : (Cond.fieldLink "PageSkeleton$Row" (9 : Nat) "PageSkeleton$Row" "length" "I") ∈ wsG := wsG_at 92 (by decide +kernel) (by decide +kernel)
theorem k100 : (Cond.fieldLink "PageSkeleton$Row" (15 : Nat) "PageSkeleton$Row" "nodes" "I") ∈ wsG := wsG_at 100 (by decide +kernel) (by decide +kernel)
theorem k103 : (Cond.fieldLink "PageSkeleton$Row" (18 : Nat) "PageSkeleton$Row" "overfull" "Z") ∈ wsG := wsG_at 103 (by decide +kernel) (by decide +kernel)
theorem k127 : (Cond.methodLink "PageSkeleton$Past" (3 : Nat) ({ cls := "java/lang/Object", name := "<init>", desc := "()V" } : MethodName)) ∈ wsG := wsG_at 127 (by decide +kernel) (by decide +kernel)
theorem k128 : (Cond.classLink "PageSkeleton$Past" (9 : Nat) "[[I") ∈ wsG := wsG_at 128 (by decide +kernel) (by decide +kernel)
theorem k130 : (Cond.fieldLink "PageSkeleton$Past" (11 : Nat) "PageSkeleton$Past" "codes" "[[I") ∈ wsG := wsG_at 130 (by decide +kernel) (by decide +kernel)
theorem k131 : (Cond.fieldLink "PageSkeleton$Past" (16 : Nat) "PageSkeleton$Past" "lengths" "[I") ∈ wsG := wsG_at 131 (by decide +kernel) (by decide +kernel)
theorem k132 : (Cond.fieldLink "PageSkeleton$Past" (20 : Nat) "PageSkeleton$Past" "costs" "[I") ∈ wsG := wsG_at 132 (by decide +kernel) (by decide +kernel)
theorem k133 : (Cond.fieldLink "PageSkeleton$Past" (23 : Nat) "PageSkeleton$Past" "next" "I") ∈ wsG := wsG_at 133 (by decide +kernel) (by decide +kernel)
theorem k134 : (Cond.fieldLink "PageSkeleton$Past" (27 : Nat) "PageSkeleton$Past" "count" "I") ∈ wsG := wsG_at 134 (by decide +kernel) (by decide +kernel)
theorem k152 : (Cond.methodLink "PageSkeleton$Tidier" (3 : Nat) ({ cls := "java/lang/Object", name := "<init>", desc := "()V" } : MethodName)) ∈ wsG := wsG_at 152 (by decide +kernel) (by decide +kernel)
theorem k153 : (Cond.fieldLink "PageSkeleton$Tidier" (9 : Nat) "PageSkeleton$Tidier" "begin" "[I") ∈ wsG := wsG_at 153 (by decide +kernel) (by decide +kernel)
theorem k154 : (Cond.fieldLink "PageSkeleton$Tidier" (15 : Nat) "PageSkeleton$Tidier" "firmAhead" "[I") ∈ wsG := wsG_at 154 (by decide +kernel) (by decide +kernel)
theorem k155 : (Cond.fieldLink "PageSkeleton$Tidier" (18 : Nat) "PageSkeleton$Tidier" "items" "I") ∈ wsG := wsG_at 155 (by decide +kernel) (by decide +kernel)
theorem k156 : (Cond.fieldLink "PageSkeleton$Tidier" (22 : Nat) "PageSkeleton$Tidier" "foldedLength" "I") ∈ wsG := wsG_at 156 (by decide +kernel) (by decide +kernel)
theorem k158 : (Cond.fieldLink "PageSkeleton$Tidier" (25 : Nat) "PageSkeleton$Tidier" "foldedPlace" "I") ∈ wsG := wsG_at 158 (by decide +kernel) (by decide +kernel)
theorem k160 : (Cond.fieldLink "PageSkeleton$Tidier" (28 : Nat) "PageSkeleton$Tidier" "foldedTimes" "I") ∈ wsG := wsG_at 160 (by decide +kernel) (by decide +kernel)
theorem k180 : (Cond.methodLink "PageSkeleton$Layer" (3 : Nat) ({ cls := "java/lang/Object", name := "<init>", desc := "()V" } : MethodName)) ∈ wsG := wsG_at 180 (by decide +kernel) (by decide +kernel)
theorem k181 : (Cond.constant "PageSkeleton$Layer" (9 : Nat) (106797 : Int32)) ∈ wsG := wsG_at 181 (by decide +kernel) (by decide +kernel)
theorem k182 : (Cond.fieldLink "PageSkeleton$Layer" (10 : Nat) "PageSkeleton$Layer" "cell" "[I") ∈ wsG := wsG_at 182 (by decide +kernel) (by decide +kernel)
theorem k183 : (Cond.fieldLink "PageSkeleton$Layer" (16 : Nat) "PageSkeleton$Layer" "levelOfRow" "[I") ∈ wsG := wsG_at 183 (by decide +kernel) (by decide +kernel)
theorem k184 : (Cond.fieldLink "PageSkeleton$Layer" (19 : Nat) "PageSkeleton$Layer" "levelOfPage" "[I") ∈ wsG := wsG_at 184 (by decide +kernel) (by decide +kernel)
theorem k185 : (Cond.fieldLink "PageSkeleton$Layer" (22 : Nat) "PageSkeleton$Layer" "stride" "I") ∈ wsG := wsG_at 185 (by decide +kernel) (by decide +kernel)
theorem k186 : (Cond.fieldLink "PageSkeleton$Layer" (26 : Nat) "PageSkeleton$Layer" "atRow" "I") ∈ wsG := wsG_at 186 (by decide +kernel) (by decide +kernel)
theorem k187 : (Cond.fieldLink "PageSkeleton$Layer" (29 : Nat) "PageSkeleton$Layer" "atPage" "I") ∈ wsG := wsG_at 187 (by decide +kernel) (by decide +kernel)
theorem k188 : (Cond.fieldLink "PageSkeleton$Layer" (32 : Nat) "PageSkeleton$Layer" "group" "I") ∈ wsG := wsG_at 188 (by decide +kernel) (by decide +kernel)
theorem k209 : (Cond.methodLink "PageSkeleton$Walker" (3 : Nat) ({ cls := "java/lang/Object", name := "<init>", desc := "()V" } : MethodName)) ∈ wsG := wsG_at 209 (by decide +kernel) (by decide +kernel)
theorem k210 : (Cond.constant "PageSkeleton$Walker" (9 : Nat) (67161 : Int32)) ∈ wsG := wsG_at 210 (by decide +kernel) (by decide +kernel)
theorem k211 : (Cond.fieldLink "PageSkeleton$Walker" (10 : Nat) "PageSkeleton$Walker" "answer" "[I") ∈ wsG := wsG_at 211 (by decide +kernel) (by decide +kernel)
theorem k212 : (Cond.fieldLink "PageSkeleton$Walker" (16 : Nat) "PageSkeleton$Walker" "inward" "[I") ∈ wsG := wsG_at 212 (by decide +kernel) (by decide +kernel)
theorem k223 : (Cond.methodLink "PageSkeleton$Orders" (3 : Nat) ({ cls := "java/lang/Object", name := "<init>", desc := "()V" } : MethodName)) ∈ wsG := wsG_at 223 (by decide +kernel) (by decide +kernel)
theorem k224 : (Cond.classLink "PageSkeleton$Orders" (15 : Nat) "PageSkeleton$Row") ∈ wsG := wsG_at 224 (by decide +kernel) (by decide +kernel)
theorem k226 : (Cond.classLink "PageSkeleton$Orders" (24 : Nat) "[[I") ∈ wsG := wsG_at 226 (by decide +kernel) (by decide +kernel)
theorem k227 : (Cond.methodLink "PageSkeleton$Orders" (45 : Nat) ({ cls := "PageSkeleton$Row", name := "<init>", desc := "(I)V" } : MethodName)) ∈ wsG := wsG_at 227 (by decide +kernel) (by decide +kernel)
theorem k228 : (Cond.fieldLink "PageSkeleton$Orders" (9 : Nat) "PageSkeleton$Orders" "order" "[I") ∈ wsG := wsG_at 228 (by decide +kernel) (by decide +kernel)
theorem k229 : (Cond.fieldLink "PageSkeleton$Orders" (17 : Nat) "PageSkeleton$Orders" "stages" "[LPageSkeleton$Row;") ∈ wsG := wsG_at 229 (by decide +kernel) (by decide +kernel)
theorem k230 : (Cond.fieldLink "PageSkeleton$Orders" (21 : Nat) "PageSkeleton$Orders" "spent" "[I") ∈ wsG := wsG_at 230 (by decide +kernel) (by decide +kernel)
theorem k231 : (Cond.fieldLink "PageSkeleton$Orders" (26 : Nat) "PageSkeleton$Orders" "ends" "[[I") ∈ wsG := wsG_at 231 (by decide +kernel) (by decide +kernel)
theorem k232 : (Cond.fieldLink "PageSkeleton$Orders" (29 : Nat) "PageSkeleton$Orders" "lengths" "[I") ∈ wsG := wsG_at 232 (by decide +kernel) (by decide +kernel)
theorem k233 : (Cond.fieldLink "PageSkeleton$Orders" (32 : Nat) "PageSkeleton$Orders" "totals" "[I") ∈ wsG := wsG_at 233 (by decide +kernel) (by decide +kernel)
theorem k234 : (Cond.fieldLink "PageSkeleton$Orders" (35 : Nat) "PageSkeleton$Orders" "count" "I") ∈ wsG := wsG_at 234 (by decide +kernel) (by decide +kernel)
theorem k235 : (Cond.fieldLink "PageSkeleton$Orders" (39 : Nat) "PageSkeleton$Orders" "pageCount" "I") ∈ wsG := wsG_at 235 (by decide +kernel) (by decide +kernel)
theorem k237 : (Cond.fieldLink "PageSkeleton$Orders" (42 : Nat) "PageSkeleton$Orders" "answers" "[I") ∈ wsG := wsG_at 237 (by decide +kernel) (by decide +kernel)
theorem k262 : (Cond.methodLink "PageSkeleton$Leaf" (3 : Nat) ({ cls := "java/lang/Object", name := "<init>", desc := "()V" } : MethodName)) ∈ wsG := wsG_at 262 (by decide +kernel) (by decide +kernel)
theorem k263 : (Cond.classLink "PageSkeleton$Leaf" (22 : Nat) "PageSkeleton$Row") ∈ wsG := wsG_at 263 (by decide +kernel) (by decide +kernel)
theorem k264 : (Cond.methodLink "PageSkeleton$Leaf" (24 : Nat) ({ cls := "PageSkeleton$Row", name := "<init>", desc := "(I)V" } : MethodName)) ∈ wsG := wsG_at 264 (by decide +kernel) (by decide +kernel)
theorem k265 : (Cond.classLink "PageSkeleton$Leaf" (37 : Nat) "PageSkeleton$Walk") ∈ wsG := wsG_at 265 (by decide +kernel) (by decide +kernel)
theorem k266 : (Cond.instantiable "PageSkeleton$Walk" (5 : Nat)) ∈ wsG := wsG_at 266 (by decide +kernel) (by decide +kernel)
theorem k268 : (Cond.instanceMethod ({ cls := "PageSkeleton$Walk", name := "<init>", desc := "()V" } : MethodName)) ∈ wsG := wsG_at 268 (by decide +kernel) (by decide +kernel)
theorem k269 : (Cond.code ({ cls := "PageSkeleton$Walk", name := "<init>", desc := "()V" } : MethodName) prog_9_method_1_code (1 : Nat) (Option.none : Option Jvm.ClassFile.FieldType)) ∈ wsG := wsG_at 269 (by decide +kernel) (by decide +kernel)
theorem k270 : (Cond.methodLink "PageSkeleton$Walk" (3 : Nat) ({ cls := "java/lang/Object", name := "<init>", desc := "()V" } : MethodName)) ∈ wsG := wsG_at 270 (by decide +kernel) (by decide +kernel)
theorem k271 : (Cond.fieldLink "PageSkeleton$Walk" (9 : Nat) "PageSkeleton$Walk" "stamp" "I") ∈ wsG := wsG_at 271 (by decide +kernel) (by decide +kernel)
theorem k273 : (Cond.fieldLink "PageSkeleton$Walk" (15 : Nat) "PageSkeleton$Walk" "wayCount" "I") ∈ wsG := wsG_at 273 (by decide +kernel) (by decide +kernel)
theorem k276 : (Cond.fieldLink "PageSkeleton$Walk" (18 : Nat) "PageSkeleton$Walk" "takers" "[I") ∈ wsG := wsG_at 276 (by decide +kernel) (by decide +kernel)
theorem k279 : (Cond.fieldLink "PageSkeleton$Walk" (22 : Nat) "PageSkeleton$Walk" "there" "[I") ∈ wsG := wsG_at 279 (by decide +kernel) (by decide +kernel)
theorem k282 : (Cond.fieldLink "PageSkeleton$Walk" (25 : Nat) "PageSkeleton$Walk" "passed" "[I") ∈ wsG := wsG_at 282 (by decide +kernel) (by decide +kernel)
theorem k296 : (Cond.fieldLink "PageSkeleton$Leaf" (9 : Nat) "PageSkeleton$Leaf" "tokens" "[I") ∈ wsG := wsG_at 296 (by decide +kernel) (by decide +kernel)
theorem k298 : (Cond.fieldLink "PageSkeleton$Leaf" (15 : Nat) "PageSkeleton$Leaf" "codes" "[I") ∈ wsG := wsG_at 298 (by decide +kernel) (by decide +kernel)
theorem k300 : (Cond.fieldLink "PageSkeleton$Leaf" (18 : Nat) "PageSkeleton$Leaf" "count" "I") ∈ wsG := wsG_at 300 (by decide +kernel) (by decide +kernel)
theorem k302 : (Cond.fieldLink "PageSkeleton$Leaf" (27 : Nat) "PageSkeleton$Leaf" "folded" "LPageSkeleton$Row;") ∈ wsG := wsG_at 302 (by decide +kernel) (by decide +kernel)
theorem k305 : (Cond.fieldLink "PageSkeleton$Leaf" (31 : Nat) "PageSkeleton$Leaf" "steps" "[I") ∈ wsG := wsG_at 305 (by decide +kernel) (by decide +kernel)
theorem k307 : (Cond.fieldLink "PageSkeleton$Leaf" (34 : Nat) "PageSkeleton$Leaf" "stepCount" "I") ∈ wsG := wsG_at 307 (by decide +kernel) (by decide +kernel)
theorem k309 : (Cond.fieldLink "PageSkeleton$Leaf" (40 : Nat) "PageSkeleton$Leaf" "walk" "LPageSkeleton$Walk;") ∈ wsG := wsG_at 309 (by decide +kernel) (by decide +kernel)
theorem k311 : (Cond.fieldLink "PageSkeleton$Leaf" (44 : Nat) "PageSkeleton$Leaf" "longest" "[I") ∈ wsG := wsG_at 311 (by decide +kernel) (by decide +kernel)

theorem dX5_init_0 : decode cX5_init 0 = .ok (.aload_n 0, 1) := by decide +kernel
theorem dX5_init_1 : decode cX5_init 1 = .ok (.invokespecial 3, 3) := by decide +kernel
theorem dX5_init_4 : decode cX5_init 4 = .ok (.aload_n 0, 1) := by decide +kernel
theorem dX5_init_5 : decode cX5_init 5 = .ok (.sipush 400, 3) := by decide +kernel
theorem dX5_init_8 : decode cX5_init 8 = .ok (.newarray .int, 2) := by decide +kernel
theorem dX5_init_10 : decode cX5_init 10 = .ok (.putfield 9, 3) := by decide +kernel
theorem dX5_init_13 : decode cX5_init 13 = .ok (.aload_n 0, 1) := by decide +kernel
theorem dX5_init_14 : decode cX5_init 14 = .ok (.iconst 0, 1) := by decide +kernel
theorem dX5_init_15 : decode cX5_init 15 = .ok (.putfield 15, 3) := by decide +kernel
theorem dX5_init_18 : decode cX5_init 18 = .ok (.aload_n 0, 1) := by decide +kernel
theorem dX5_init_19 : decode cX5_init 19 = .ok (.sipush 200, 3) := by decide +kernel
theorem dX5_init_22 : decode cX5_init 22 = .ok (.newarray .int, 2) := by decide +kernel
theorem dX5_init_24 : decode cX5_init 24 = .ok (.putfield 19, 3) := by decide +kernel
theorem dX5_init_27 : decode cX5_init 27 = .ok (.aload_n 0, 1) := by decide +kernel
theorem dX5_init_28 : decode cX5_init 28 = .ok (.iconst 0, 1) := by decide +kernel
theorem dX5_init_29 : decode cX5_init 29 = .ok (.putfield 22, 3) := by decide +kernel
theorem dX5_init_32 : decode cX5_init 32 = .ok (.aload_n 0, 1) := by decide +kernel
theorem dX5_init_33 : decode cX5_init 33 = .ok (.bipush 60, 2) := by decide +kernel
theorem dX5_init_35 : decode cX5_init 35 = .ok (.newarray .int, 2) := by decide +kernel
theorem dX5_init_37 : decode cX5_init 37 = .ok (.putfield 25, 3) := by decide +kernel
theorem dX5_init_40 : decode cX5_init 40 = .ok (.aload_n 0, 1) := by decide +kernel
theorem dX5_init_41 : decode cX5_init 41 = .ok (.iconst 0, 1) := by decide +kernel
theorem dX5_init_42 : decode cX5_init 42 = .ok (.putfield 28, 3) := by decide +kernel
theorem dX5_init_45 : decode cX5_init 45 = .ok (.aload_n 0, 1) := by decide +kernel
theorem dX5_init_46 : decode cX5_init 46 = .ok (.iconst (-1), 1) := by decide +kernel
theorem dX5_init_47 : decode cX5_init 47 = .ok (.putfield 31, 3) := by decide +kernel
theorem dX5_init_50 : decode cX5_init 50 = .ok (.aload_n 0, 1) := by decide +kernel
theorem dX5_init_51 : decode cX5_init 51 = .ok (.iconst 0, 1) := by decide +kernel
theorem dX5_init_52 : decode cX5_init 52 = .ok (.putfield 34, 3) := by decide +kernel
theorem dX5_init_55 : decode cX5_init 55 = .ok (.return_, 1) := by decide +kernel
theorem dX4_init_0 : decode cX4_init 0 = .ok (.aload_n 0, 1) := by decide +kernel
theorem dX4_init_1 : decode cX4_init 1 = .ok (.invokespecial 3, 3) := by decide +kernel
theorem dX4_init_4 : decode cX4_init 4 = .ok (.aload_n 0, 1) := by decide +kernel
theorem dX4_init_5 : decode cX4_init 5 = .ok (.iconst 0, 1) := by decide +kernel
theorem dX4_init_6 : decode cX4_init 6 = .ok (.putfield 9, 3) := by decide +kernel
theorem dX4_init_9 : decode cX4_init 9 = .ok (.aload_n 0, 1) := by decide +kernel
theorem dX4_init_10 : decode cX4_init 10 = .ok (.iconst 0, 1) := by decide +kernel
theorem dX4_init_11 : decode cX4_init 11 = .ok (.putfield 15, 3) := by decide +kernel
theorem dX4_init_14 : decode cX4_init 14 = .ok (.aload_n 0, 1) := by decide +kernel
theorem dX4_init_15 : decode cX4_init 15 = .ok (.iconst 0, 1) := by decide +kernel
theorem dX4_init_16 : decode cX4_init 16 = .ok (.putfield 18, 3) := by decide +kernel
theorem dX4_init_19 : decode cX4_init 19 = .ok (.iload_n 1, 1) := by decide +kernel
theorem dX4_init_20 : decode cX4_init 20 = .ok (.iconst 1, 1) := by decide +kernel
theorem dX4_init_21 : decode cX4_init 21 = .ok (.invokestatic 22, 3) := by decide +kernel
theorem dX4_init_24 : decode cX4_init 24 = .ok (.istore_n 2, 1) := by decide +kernel
theorem dX4_init_25 : decode cX4_init 25 = .ok (.aload_n 0, 1) := by decide +kernel
theorem dX4_init_26 : decode cX4_init 26 = .ok (.iload_n 2, 1) := by decide +kernel
theorem dX4_init_27 : decode cX4_init 27 = .ok (.newarray .int, 2) := by decide +kernel
theorem dX4_init_29 : decode cX4_init 29 = .ok (.putfield 28, 3) := by decide +kernel
theorem dX4_init_32 : decode cX4_init 32 = .ok (.aload_n 0, 1) := by decide +kernel
theorem dX4_init_33 : decode cX4_init 33 = .ok (.iload_n 2, 1) := by decide +kernel
theorem dX4_init_34 : decode cX4_init 34 = .ok (.newarray .int, 2) := by decide +kernel
theorem dX4_init_36 : decode cX4_init 36 = .ok (.putfield 32, 3) := by decide +kernel
theorem dX4_init_39 : decode cX4_init 39 = .ok (.aload_n 0, 1) := by decide +kernel
theorem dX4_init_40 : decode cX4_init 40 = .ok (.iload_n 2, 1) := by decide +kernel
theorem dX4_init_41 : decode cX4_init 41 = .ok (.iconst 1, 1) := by decide +kernel
theorem dX4_init_42 : decode cX4_init 42 = .ok (.iadd, 1) := by decide +kernel
theorem dX4_init_43 : decode cX4_init 43 = .ok (.newarray .int, 2) := by decide +kernel
theorem dX4_init_45 : decode cX4_init 45 = .ok (.putfield 35, 3) := by decide +kernel
theorem dX4_init_48 : decode cX4_init 48 = .ok (.aload_n 0, 1) := by decide +kernel
theorem dX4_init_49 : decode cX4_init 49 = .ok (.iload_n 2, 1) := by decide +kernel
theorem dX4_init_50 : decode cX4_init 50 = .ok (.newarray .int, 2) := by decide +kernel
theorem dX4_init_52 : decode cX4_init 52 = .ok (.putfield 38, 3) := by decide +kernel
theorem dX4_init_55 : decode cX4_init 55 = .ok (.aload_n 0, 1) := by decide +kernel
theorem dX4_init_56 : decode cX4_init 56 = .ok (.iload_n 2, 1) := by decide +kernel
theorem dX4_init_57 : decode cX4_init 57 = .ok (.newarray .int, 2) := by decide +kernel
theorem dX4_init_59 : decode cX4_init 59 = .ok (.putfield 41, 3) := by decide +kernel
theorem dX4_init_62 : decode cX4_init 62 = .ok (.return_, 1) := by decide +kernel
theorem dX7_init_0 : decode cX7_init 0 = .ok (.aload_n 0, 1) := by decide +kernel
theorem dX7_init_1 : decode cX7_init 1 = .ok (.invokespecial 3, 3) := by decide +kernel
theorem dX7_init_4 : decode cX7_init 4 = .ok (.aload_n 0, 1) := by decide +kernel
theorem dX7_init_5 : decode cX7_init 5 = .ok (.iconst (-1), 1) := by decide +kernel
theorem dX7_init_6 : decode cX7_init 6 = .ok (.putfield 9, 3) := by decide +kernel
theorem dX7_init_9 : decode cX7_init 9 = .ok (.aload_n 0, 1) := by decide +kernel
theorem dX7_init_10 : decode cX7_init 10 = .ok (.iconst 0, 1) := by decide +kernel
theorem dX7_init_11 : decode cX7_init 11 = .ok (.putfield 15, 3) := by decide +kernel
theorem dX7_init_14 : decode cX7_init 14 = .ok (.aload_n 0, 1) := by decide +kernel
theorem dX7_init_15 : decode cX7_init 15 = .ok (.bipush 60, 2) := by decide +kernel
theorem dX7_init_17 : decode cX7_init 17 = .ok (.newarray .int, 2) := by decide +kernel
theorem dX7_init_19 : decode cX7_init 19 = .ok (.putfield 18, 3) := by decide +kernel
theorem dX7_init_22 : decode cX7_init 22 = .ok (.aload_n 0, 1) := by decide +kernel
theorem dX7_init_23 : decode cX7_init 23 = .ok (.sipush 1100, 3) := by decide +kernel
theorem dX7_init_26 : decode cX7_init 26 = .ok (.newarray .int, 2) := by decide +kernel
theorem dX7_init_28 : decode cX7_init 28 = .ok (.putfield 22, 3) := by decide +kernel
theorem dX7_init_31 : decode cX7_init 31 = .ok (.aload_n 0, 1) := by decide +kernel
theorem dX7_init_32 : decode cX7_init 32 = .ok (.sipush 1100, 3) := by decide +kernel
theorem dX7_init_35 : decode cX7_init 35 = .ok (.newarray .int, 2) := by decide +kernel
theorem dX7_init_37 : decode cX7_init 37 = .ok (.putfield 25, 3) := by decide +kernel
theorem dX7_init_40 : decode cX7_init 40 = .ok (.return_, 1) := by decide +kernel
theorem dX1_init_0 : decode cX1_init 0 = .ok (.aload_n 0, 1) := by decide +kernel
theorem dX1_init_1 : decode cX1_init 1 = .ok (.invokespecial 3, 3) := by decide +kernel
theorem dX1_init_4 : decode cX1_init 4 = .ok (.aload_n 0, 1) := by decide +kernel
theorem dX1_init_5 : decode cX1_init 5 = .ok (.bipush 60, 2) := by decide +kernel
theorem dX1_init_7 : decode cX1_init 7 = .ok (.newarray .int, 2) := by decide +kernel
theorem dX1_init_9 : decode cX1_init 9 = .ok (.putfield 9, 3) := by decide +kernel
theorem dX1_init_12 : decode cX1_init 12 = .ok (.aload_n 0, 1) := by decide +kernel
theorem dX1_init_13 : decode cX1_init 13 = .ok (.bipush 60, 2) := by decide +kernel
theorem dX1_init_15 : decode cX1_init 15 = .ok (.newarray .int, 2) := by decide +kernel
theorem dX1_init_17 : decode cX1_init 17 = .ok (.putfield 15, 3) := by decide +kernel
theorem dX1_init_20 : decode cX1_init 20 = .ok (.aload_n 0, 1) := by decide +kernel
theorem dX1_init_21 : decode cX1_init 21 = .ok (.iconst 0, 1) := by decide +kernel
theorem dX1_init_22 : decode cX1_init 22 = .ok (.putfield 18, 3) := by decide +kernel
theorem dX1_init_25 : decode cX1_init 25 = .ok (.aload_n 0, 1) := by decide +kernel
theorem dX1_init_26 : decode cX1_init 26 = .ok (.new 22, 3) := by decide +kernel
theorem dX1_init_29 : decode cX1_init 29 = .ok (.dup, 1) := by decide +kernel
theorem dX1_init_30 : decode cX1_init 30 = .ok (.bipush 96, 2) := by decide +kernel
theorem dX1_init_32 : decode cX1_init 32 = .ok (.invokespecial 24, 3) := by decide +kernel
theorem dX1_init_35 : decode cX1_init 35 = .ok (.putfield 27, 3) := by decide +kernel
theorem dX1_init_38 : decode cX1_init 38 = .ok (.aload_n 0, 1) := by decide +kernel
theorem dX1_init_39 : decode cX1_init 39 = .ok (.sipush 180, 3) := by decide +kernel
theorem dX1_init_42 : decode cX1_init 42 = .ok (.newarray .int, 2) := by decide +kernel
theorem dX1_init_44 : decode cX1_init 44 = .ok (.putfield 31, 3) := by decide +kernel
theorem dX1_init_47 : decode cX1_init 47 = .ok (.aload_n 0, 1) := by decide +kernel
theorem dX1_init_48 : decode cX1_init 48 = .ok (.iconst 0, 1) := by decide +kernel
theorem dX1_init_49 : decode cX1_init 49 = .ok (.putfield 34, 3) := by decide +kernel
theorem dX1_init_52 : decode cX1_init 52 = .ok (.aload_n 0, 1) := by decide +kernel
theorem dX1_init_53 : decode cX1_init 53 = .ok (.new 37, 3) := by decide +kernel
theorem dX1_init_56 : decode cX1_init 56 = .ok (.dup, 1) := by decide +kernel
theorem dX1_init_57 : decode cX1_init 57 = .ok (.invokespecial 39, 3) := by decide +kernel
theorem dX1_init_60 : decode cX1_init 60 = .ok (.putfield 40, 3) := by decide +kernel
theorem dX1_init_63 : decode cX1_init 63 = .ok (.aload_n 0, 1) := by decide +kernel
theorem dX1_init_64 : decode cX1_init 64 = .ok (.bipush 61, 2) := by decide +kernel
theorem dX1_init_66 : decode cX1_init 66 = .ok (.newarray .int, 2) := by decide +kernel
theorem dX1_init_68 : decode cX1_init 68 = .ok (.putfield 44, 3) := by decide +kernel
theorem dX1_init_71 : decode cX1_init 71 = .ok (.return_, 1) := by decide +kernel
theorem dX3_init_0 : decode cX3_init 0 = .ok (.aload_n 0, 1) := by decide +kernel
theorem dX3_init_1 : decode cX3_init 1 = .ok (.invokespecial 3, 3) := by decide +kernel
theorem dX3_init_4 : decode cX3_init 4 = .ok (.aload_n 0, 1) := by decide +kernel
theorem dX3_init_5 : decode cX3_init 5 = .ok (.bipush 16, 2) := by decide +kernel
theorem dX3_init_7 : decode cX3_init 7 = .ok (.sipush 1100, 3) := by decide +kernel
theorem dX3_init_10 : decode cX3_init 10 = .ok (.multianewarray 9 2, 4) := by decide +kernel
theorem dX3_init_14 : decode cX3_init 14 = .ok (.putfield 11, 3) := by decide +kernel
theorem dX3_init_17 : decode cX3_init 17 = .ok (.aload_n 0, 1) := by decide +kernel
theorem dX3_init_18 : decode cX3_init 18 = .ok (.bipush 16, 2) := by decide +kernel
theorem dX3_init_20 : decode cX3_init 20 = .ok (.newarray .int, 2) := by decide +kernel
theorem dX3_init_22 : decode cX3_init 22 = .ok (.putfield 16, 3) := by decide +kernel
theorem dX3_init_25 : decode cX3_init 25 = .ok (.aload_n 0, 1) := by decide +kernel
theorem dX3_init_26 : decode cX3_init 26 = .ok (.bipush 16, 2) := by decide +kernel
theorem dX3_init_28 : decode cX3_init 28 = .ok (.newarray .int, 2) := by decide +kernel
theorem dX3_init_30 : decode cX3_init 30 = .ok (.putfield 20, 3) := by decide +kernel
theorem dX3_init_33 : decode cX3_init 33 = .ok (.aload_n 0, 1) := by decide +kernel
theorem dX3_init_34 : decode cX3_init 34 = .ok (.iconst 0, 1) := by decide +kernel
theorem dX3_init_35 : decode cX3_init 35 = .ok (.putfield 23, 3) := by decide +kernel
theorem dX3_init_38 : decode cX3_init 38 = .ok (.aload_n 0, 1) := by decide +kernel
theorem dX3_init_39 : decode cX3_init 39 = .ok (.iconst 0, 1) := by decide +kernel
theorem dX3_init_40 : decode cX3_init 40 = .ok (.putfield 27, 3) := by decide +kernel
theorem dX3_init_43 : decode cX3_init 43 = .ok (.return_, 1) := by decide +kernel
theorem dX6_init_0 : decode cX6_init 0 = .ok (.aload_n 0, 1) := by decide +kernel
theorem dX6_init_1 : decode cX6_init 1 = .ok (.invokespecial 3, 3) := by decide +kernel
theorem dX6_init_4 : decode cX6_init 4 = .ok (.aload_n 0, 1) := by decide +kernel
theorem dX6_init_5 : decode cX6_init 5 = .ok (.sipush 1101, 3) := by decide +kernel
theorem dX6_init_8 : decode cX6_init 8 = .ok (.newarray .int, 2) := by decide +kernel
theorem dX6_init_10 : decode cX6_init 10 = .ok (.putfield 9, 3) := by decide +kernel
theorem dX6_init_13 : decode cX6_init 13 = .ok (.aload_n 0, 1) := by decide +kernel
theorem dX6_init_14 : decode cX6_init 14 = .ok (.sipush 1101, 3) := by decide +kernel
theorem dX6_init_17 : decode cX6_init 17 = .ok (.newarray .int, 2) := by decide +kernel
theorem dX6_init_19 : decode cX6_init 19 = .ok (.putfield 15, 3) := by decide +kernel
theorem dX6_init_22 : decode cX6_init 22 = .ok (.aload_n 0, 1) := by decide +kernel
theorem dX6_init_23 : decode cX6_init 23 = .ok (.iconst 0, 1) := by decide +kernel
theorem dX6_init_24 : decode cX6_init 24 = .ok (.putfield 18, 3) := by decide +kernel
theorem dX6_init_27 : decode cX6_init 27 = .ok (.aload_n 0, 1) := by decide +kernel
theorem dX6_init_28 : decode cX6_init 28 = .ok (.iconst 0, 1) := by decide +kernel
theorem dX6_init_29 : decode cX6_init 29 = .ok (.putfield 22, 3) := by decide +kernel
theorem dX6_init_32 : decode cX6_init 32 = .ok (.aload_n 0, 1) := by decide +kernel
theorem dX6_init_33 : decode cX6_init 33 = .ok (.iconst 0, 1) := by decide +kernel
theorem dX6_init_34 : decode cX6_init 34 = .ok (.putfield 25, 3) := by decide +kernel
theorem dX6_init_37 : decode cX6_init 37 = .ok (.aload_n 0, 1) := by decide +kernel
theorem dX6_init_38 : decode cX6_init 38 = .ok (.iconst 0, 1) := by decide +kernel
theorem dX6_init_39 : decode cX6_init 39 = .ok (.putfield 28, 3) := by decide +kernel
theorem dX6_init_42 : decode cX6_init 42 = .ok (.return_, 1) := by decide +kernel
theorem dX0_init_0 : decode cX0_init 0 = .ok (.aload_n 0, 1) := by decide +kernel
theorem dX0_init_1 : decode cX0_init 1 = .ok (.invokespecial 3, 3) := by decide +kernel
theorem dX0_init_4 : decode cX0_init 4 = .ok (.aload_n 0, 1) := by decide +kernel
theorem dX0_init_5 : decode cX0_init 5 = .ok (.ldc 9, 2) := by decide +kernel
theorem dX0_init_7 : decode cX0_init 7 = .ok (.newarray .int, 2) := by decide +kernel
theorem dX0_init_9 : decode cX0_init 9 = .ok (.putfield 10, 3) := by decide +kernel
theorem dX0_init_12 : decode cX0_init 12 = .ok (.aload_n 0, 1) := by decide +kernel
theorem dX0_init_13 : decode cX0_init 13 = .ok (.sipush 1101, 3) := by decide +kernel
theorem dX0_init_16 : decode cX0_init 16 = .ok (.newarray .int, 2) := by decide +kernel
theorem dX0_init_18 : decode cX0_init 18 = .ok (.putfield 16, 3) := by decide +kernel
theorem dX0_init_21 : decode cX0_init 21 = .ok (.aload_n 0, 1) := by decide +kernel
theorem dX0_init_22 : decode cX0_init 22 = .ok (.sipush 1101, 3) := by decide +kernel
theorem dX0_init_25 : decode cX0_init 25 = .ok (.newarray .int, 2) := by decide +kernel
theorem dX0_init_27 : decode cX0_init 27 = .ok (.putfield 19, 3) := by decide +kernel
theorem dX0_init_30 : decode cX0_init 30 = .ok (.aload_n 0, 1) := by decide +kernel
theorem dX0_init_31 : decode cX0_init 31 = .ok (.iconst 1, 1) := by decide +kernel
theorem dX0_init_32 : decode cX0_init 32 = .ok (.putfield 22, 3) := by decide +kernel
theorem dX0_init_35 : decode cX0_init 35 = .ok (.aload_n 0, 1) := by decide +kernel
theorem dX0_init_36 : decode cX0_init 36 = .ok (.iconst 0, 1) := by decide +kernel
theorem dX0_init_37 : decode cX0_init 37 = .ok (.putfield 26, 3) := by decide +kernel
theorem dX0_init_40 : decode cX0_init 40 = .ok (.aload_n 0, 1) := by decide +kernel
theorem dX0_init_41 : decode cX0_init 41 = .ok (.iconst 0, 1) := by decide +kernel
theorem dX0_init_42 : decode cX0_init 42 = .ok (.putfield 29, 3) := by decide +kernel
theorem dX0_init_45 : decode cX0_init 45 = .ok (.aload_n 0, 1) := by decide +kernel
theorem dX0_init_46 : decode cX0_init 46 = .ok (.iconst 0, 1) := by decide +kernel
theorem dX0_init_47 : decode cX0_init 47 = .ok (.putfield 32, 3) := by decide +kernel
theorem dX0_init_50 : decode cX0_init 50 = .ok (.return_, 1) := by decide +kernel
theorem dX8_init_0 : decode cX8_init 0 = .ok (.aload_n 0, 1) := by decide +kernel
theorem dX8_init_1 : decode cX8_init 1 = .ok (.invokespecial 3, 3) := by decide +kernel
theorem dX8_init_4 : decode cX8_init 4 = .ok (.aload_n 0, 1) := by decide +kernel
theorem dX8_init_5 : decode cX8_init 5 = .ok (.ldc 9, 2) := by decide +kernel
theorem dX8_init_7 : decode cX8_init 7 = .ok (.newarray .int, 2) := by decide +kernel
theorem dX8_init_9 : decode cX8_init 9 = .ok (.putfield 10, 3) := by decide +kernel
theorem dX8_init_12 : decode cX8_init 12 = .ok (.aload_n 0, 1) := by decide +kernel
theorem dX8_init_13 : decode cX8_init 13 = .ok (.sipush 1101, 3) := by decide +kernel
theorem dX8_init_16 : decode cX8_init 16 = .ok (.newarray .int, 2) := by decide +kernel
theorem dX8_init_18 : decode cX8_init 18 = .ok (.putfield 16, 3) := by decide +kernel
theorem dX8_init_21 : decode cX8_init 21 = .ok (.return_, 1) := by decide +kernel
theorem dX2_init_0 : decode cX2_init 0 = .ok (.aload_n 0, 1) := by decide +kernel
theorem dX2_init_1 : decode cX2_init 1 = .ok (.invokespecial 3, 3) := by decide +kernel
theorem dX2_init_4 : decode cX2_init 4 = .ok (.aload_n 0, 1) := by decide +kernel
theorem dX2_init_5 : decode cX2_init 5 = .ok (.iconst 4, 1) := by decide +kernel
theorem dX2_init_6 : decode cX2_init 6 = .ok (.newarray .int, 2) := by decide +kernel
theorem dX2_init_8 : decode cX2_init 8 = .ok (.putfield 9, 3) := by decide +kernel
theorem dX2_init_11 : decode cX2_init 11 = .ok (.aload_n 0, 1) := by decide +kernel
theorem dX2_init_12 : decode cX2_init 12 = .ok (.iconst 5, 1) := by decide +kernel
theorem dX2_init_13 : decode cX2_init 13 = .ok (.anewarray 15, 3) := by decide +kernel
theorem dX2_init_16 : decode cX2_init 16 = .ok (.putfield 17, 3) := by decide +kernel
theorem dX2_init_19 : decode cX2_init 19 = .ok (.aload_n 0, 1) := by decide +kernel
theorem dX2_init_20 : decode cX2_init 20 = .ok (.iconst 5, 1) := by decide +kernel
theorem dX2_init_21 : decode cX2_init 21 = .ok (.newarray .int, 2) := by decide +kernel
theorem dX2_init_23 : decode cX2_init 23 = .ok (.putfield 21, 3) := by decide +kernel
theorem dX2_init_26 : decode cX2_init 26 = .ok (.aload_n 0, 1) := by decide +kernel
theorem dX2_init_27 : decode cX2_init 27 = .ok (.bipush 24, 2) := by decide +kernel
theorem dX2_init_29 : decode cX2_init 29 = .ok (.sipush 1100, 3) := by decide +kernel
theorem dX2_init_32 : decode cX2_init 32 = .ok (.multianewarray 24 2, 4) := by decide +kernel
theorem dX2_init_36 : decode cX2_init 36 = .ok (.putfield 26, 3) := by decide +kernel
theorem dX2_init_39 : decode cX2_init 39 = .ok (.aload_n 0, 1) := by decide +kernel
theorem dX2_init_40 : decode cX2_init 40 = .ok (.bipush 24, 2) := by decide +kernel
theorem dX2_init_42 : decode cX2_init 42 = .ok (.newarray .int, 2) := by decide +kernel
theorem dX2_init_44 : decode cX2_init 44 = .ok (.putfield 29, 3) := by decide +kernel
theorem dX2_init_47 : decode cX2_init 47 = .ok (.aload_n 0, 1) := by decide +kernel
theorem dX2_init_48 : decode cX2_init 48 = .ok (.bipush 24, 2) := by decide +kernel
theorem dX2_init_50 : decode cX2_init 50 = .ok (.newarray .int, 2) := by decide +kernel
theorem dX2_init_52 : decode cX2_init 52 = .ok (.putfield 32, 3) := by decide +kernel
theorem dX2_init_55 : decode cX2_init 55 = .ok (.aload_n 0, 1) := by decide +kernel
theorem dX2_init_56 : decode cX2_init 56 = .ok (.iconst 0, 1) := by decide +kernel
theorem dX2_init_57 : decode cX2_init 57 = .ok (.putfield 35, 3) := by decide +kernel
theorem dX2_init_60 : decode cX2_init 60 = .ok (.aload_n 0, 1) := by decide +kernel
theorem dX2_init_61 : decode cX2_init 61 = .ok (.iconst 0, 1) := by decide +kernel
theorem dX2_init_62 : decode cX2_init 62 = .ok (.putfield 39, 3) := by decide +kernel
theorem dX2_init_65 : decode cX2_init 65 = .ok (.aload_n 0, 1) := by decide +kernel
theorem dX2_init_66 : decode cX2_init 66 = .ok (.iconst 4, 1) := by decide +kernel
theorem dX2_init_67 : decode cX2_init 67 = .ok (.newarray .int, 2) := by decide +kernel
theorem dX2_init_69 : decode cX2_init 69 = .ok (.putfield 42, 3) := by decide +kernel
theorem dX2_init_72 : decode cX2_init 72 = .ok (.iconst 0, 1) := by decide +kernel
theorem dX2_init_73 : decode cX2_init 73 = .ok (.istore_n 1, 1) := by decide +kernel
theorem dX2_init_74 : decode cX2_init 74 = .ok (.iload_n 1, 1) := by decide +kernel
theorem dX2_init_75 : decode cX2_init 75 = .ok (.iconst 4, 1) := by decide +kernel
theorem dX2_init_76 : decode cX2_init 76 = .ok (.if_icmp .gt 25, 3) := by decide +kernel
theorem dX2_init_79 : decode cX2_init 79 = .ok (.aload_n 0, 1) := by decide +kernel
theorem dX2_init_80 : decode cX2_init 80 = .ok (.getfield 17, 3) := by decide +kernel
theorem dX2_init_83 : decode cX2_init 83 = .ok (.iload_n 1, 1) := by decide +kernel
theorem dX2_init_84 : decode cX2_init 84 = .ok (.new 15, 3) := by decide +kernel
theorem dX2_init_87 : decode cX2_init 87 = .ok (.dup, 1) := by decide +kernel
theorem dX2_init_88 : decode cX2_init 88 = .ok (.sipush 1100, 3) := by decide +kernel
theorem dX2_init_91 : decode cX2_init 91 = .ok (.invokespecial 45, 3) := by decide +kernel
theorem dX2_init_94 : decode cX2_init 94 = .ok (.aastore, 1) := by decide +kernel
theorem dX2_init_95 : decode cX2_init 95 = .ok (.iinc 1 1, 3) := by decide +kernel
theorem dX2_init_98 : decode cX2_init 98 = .ok (.goto (-24), 3) := by decide +kernel
theorem dX2_init_101 : decode cX2_init 101 = .ok (.return_, 1) := by decide +kernel
set_option maxHeartbeats 4000000 in
set_option maxRecDepth 100000 in
theorem c_Texts_init (l : Launch) (dC : Nat → ClassId) (dI : Nat → Nat → Nat) (sz : Nat) (h0 : Nat)  : Met l yX5_init (Cond.code yX5_init cX5_init 1 none :: wsG) ({ frames := 1, cells := 3, slots := 660, locals := 14 } : Room) (va_Pc [.ref h0] (fun U => U.heap.size = sz ∧ va_P (dC, dI) vwCl [(h0, .inr (5, [.null, .int 0, .null, .int 0, .null, .int 0, .int 0, .int 0]))] U.heap ∧ va_K (dC, dI) vwCl [] U ∧ va_D (fun _ => True) [(h0, .inr (5, [.null, .int 0, .null, .int 0, .null, .int 0, .int 0, .int 0]))])) (va_Qv (fun (_ : Unit) => True) (fun (_ : Unit) (t : State) => ∃ (q1 : Nat) (q3 : Nat) (q5 : Nat) (c2 : ClassId), va_P (dC, dI) vwCl [(h0, .inr (5, [.ref q1, .int 0, .ref q3, .int 0, .ref q5, .int 0, .int (-1), .int 0])), (q1, .inl (c2, 400, .inl (fun _ => 0)))] t.heap ∧ va_K (dC, dI) vwCl [(c2, .int)] t ∧ va_D (va_A [(h0, .inr (5, [.null, .int 0, .null, .int 0, .null, .int 0, .int 0, .int 0]))] sz) [(h0, .inr (5, [.ref q1, .int 0, .ref q3, .int 0, .ref q5, .int 0, .int (-1), .int 0])), (q1, .inl (c2, 400, .inl (fun _ => 0)))]) (va_A [(h0, .inr (5, [.null, .int 0, .null, .int 0, .null, .int 0, .int 0, .int 0]))] sz)) 3 660 (va_A [(h0, .inr (5, [.null, .int 0, .null, .int 0, .null, .int 0, .int 0, .int 0]))] sz) := by
  refine Met.ofW (cc := cX5_init) (maxL := 1) (ret := none) (by decide) rfl ?_
  intro p e s m args below meth c s₁ B hml hv
  obtain ⟨rfl, hsz, hP, hK, hD0⟩ := hv
  have hx := B.exec
  have hb := B.bytes
  have hr := B.returns
  have hts : ∀ w ∈ wsG, w.before _ s = true := hG_of (atoms_spec (ws := (Cond.code yX5_init cX5_init 1 none :: wsG)) B.pre)
  have hown : s.vm.findClass RX5 = some m.cls := findClass_of_methodNamed B.named
  have hlocks := B.notSynchronized
  have hin : meth.name = "<init>" := (name_of_methodNamed B.named B.method).1
  subst hsz
  have hD := hD0.self (sz := s.heap.size)
  generalize hAe : va_A [(h0, .inr (5, [.null, .int 0, .null, .int 0, .null, .int 0, .int 0, .int 0]))] s.heap.size = A at hD ⊢
  have hA : ∀ q : Nat, s.heap.size ≤ q → A q := fun q h => by rw [← hAe]; exact Or.inr h
  have hS : va_S A s.heap s.heap [] := va_S.rf
  have hl := lv_entry ([.ref h0]) (n := 1) (Nat.le_of_ble_eq_true rfl)
  rw [lg_entry_eq]
  generalize (lg_sl ([.ref h0]) ++ List.replicate (1 - (lg_sl ([.ref h0])).length) Slot.unset).toArray = ls at hl ⊢
  have hl : lv_has ls 1 [(0, .ref h0)] := hl
  refine lv_aload_n hx hb dX5_init_0 rfl (lv_at hl 0 rfl) ?_
  refine W.objInit hx hb hown (hts _ k34) (hts _ k27) (hts _ k28) rfl (by rw [hml]; exact hl.1) rfl dX5_init_1 (Nat.le_of_ble_eq_true rfl) (Nat.le_of_ble_eq_true rfl) ?_
  refine W.eq (g2 := F0 m 4 ls []) rfl ?_
  refine lv_aload_n hx hb dX5_init_4 rfl (lv_at hl 0 rfl) ?_
  refine lv_sipush (v := 400) hx hb dX5_init_5 (by decide) ?_
  refine va_newa (atype := .int) (ty := .int) (N' := 400) (a0 := (400, .inl (fun _ => 0))) hx hb (hts _ k65) rfl hK hP hD hS hA (fun _ => rfl) (by decide) (by decide) (Nat.le_of_ble_eq_true rfl) (Nat.le_of_ble_eq_true rfl) (Nat.le_of_ble_eq_true rfl) dX5_init_8 (fun q1 c2 H hK hP hD hS => ?_)
  have hK : va_K (dC, dI) vwCl [(c2, .int)] s := hK
  have hP : va_P (dC, dI) vwCl [(h0, .inr (5, [.null, .int 0, .null, .int 0, .null, .int 0, .int 0, .int 0])), (q1, .inl (c2, 400, .inl (fun _ => 0)))] H := hP
  have hD : va_D A [(h0, .inr (5, [.null, .int 0, .null, .int 0, .null, .int 0, .int 0, .int 0])), (q1, .inl (c2, 400, .inl (fun _ => 0)))] := hD
  refine W.widen (k := 1) (n := 400) (by omega) (by omega) ?_
  refine va_putF (D := (dC, dI)) (ci := 5) (v := .ref q1) (ty := .array .int) (C := RX5) (T := TX5) (N := 8) hx hb hts inG5 tyX5 tyX5_ok nmX5 hown hK hP hD hS 0 rfl rfl 0 (by decide) (hts _ k35) (fun _ h9 => h9) rfl hin rfl (by decide +kernel) rfl rfl (Nat.le_of_ble_eq_true rfl) dX5_init_10 (fun H locs hP hD hS => ?_)
  have hP : va_P (dC, dI) vwCl [(h0, .inr (5, [.ref q1, .int 0, .null, .int 0, .null, .int 0, .int 0, .int 0])), (q1, .inl (c2, 400, .inl (fun _ => 0)))] H := hP
  have hD : va_D A [(h0, .inr (5, [.ref q1, .int 0, .null, .int 0, .null, .int 0, .int 0, .int 0])), (q1, .inl (c2, 400, .inl (fun _ => 0)))] := hD
  refine lv_aload_n hx hb dX5_init_13 rfl (lv_at hl 0 rfl) ?_
  refine lv_iconst (v := 0) hx hb dX5_init_14 (by decide) ?_
  refine va_put (D := (dC, dI)) (ci := 5) (v := .int 0) (ty := .int) (C := RX5) (T := TX5) (N := 8) hx hb hts inG5 tyX5 tyX5_ok nmX5 hown hK hP hD hS 0 rfl rfl 1 (by decide) (hts _ k36) (fun _ h9 => h9) rfl (by decide +kernel) rfl rfl (Nat.le_of_ble_eq_true rfl) dX5_init_15 (fun H locs hP hD hS => ?_)
  have hP : va_P (dC, dI) vwCl [(h0, .inr (5, [.ref q1, .int 0, .null, .int 0, .null, .int 0, .int 0, .int 0])), (q1, .inl (c2, 400, .inl (fun _ => 0)))] H := hP
  have hD : va_D A [(h0, .inr (5, [.ref q1, .int 0, .null, .int 0, .null, .int 0, .int 0, .int 0])), (q1, .inl (c2, 400, .inl (fun _ => 0)))] := hD
  refine lv_aload_n hx hb dX5_init_18 rfl (lv_at hl 0 rfl) ?_
  refine lv_sipush (v := 200) hx hb dX5_init_19 (by decide) ?_
  refine va_newa (atype := .int) (ty := .int) (N' := 200) (a0 := (200, .inl (fun _ => 0))) hx hb (hts _ k65) rfl hK hP hD hS hA (fun _ => rfl) (by decide) (by decide) (Nat.le_of_ble_eq_true rfl) (Nat.le_of_ble_eq_true rfl) (Nat.le_of_ble_eq_true rfl) dX5_init_22 (fun q3 c4 H hK hP hD hS => ?_)
  have hK : va_K (dC, dI) vwCl [(c2, .int), (c4, .int)] s := hK
  have hP : va_P (dC, dI) vwCl [(h0, .inr (5, [.ref q1, .int 0, .null, .int 0, .null, .int 0, .int 0, .int 0])), (q1, .inl (c2, 400, .inl (fun _ => 0))), (q3, .inl (c4, 200, .inl (fun _ => 0)))] H := hP
  have hD : va_D A [(h0, .inr (5, [.ref q1, .int 0, .null, .int 0, .null, .int 0, .int 0, .int 0])), (q1, .inl (c2, 400, .inl (fun _ => 0))), (q3, .inl (c4, 200, .inl (fun _ => 0)))] := hD
  refine W.widen (k := 2) (n := 600) (by omega) (by omega) ?_
  refine va_putF (D := (dC, dI)) (ci := 5) (v := .ref q3) (ty := .array .int) (C := RX5) (T := TX5) (N := 8) hx hb hts inG5 tyX5 tyX5_ok nmX5 hown hK hP hD hS 0 rfl rfl 2 (by decide) (hts _ k38) (fun _ h9 => h9) rfl hin rfl (by decide +kernel) rfl rfl (Nat.le_of_ble_eq_true rfl) dX5_init_24 (fun H locs hP hD hS => ?_)
  have hP : va_P (dC, dI) vwCl [(h0, .inr (5, [.ref q1, .int 0, .ref q3, .int 0, .null, .int 0, .int 0, .int 0])), (q1, .inl (c2, 400, .inl (fun _ => 0))), (q3, .inl (c4, 200, .inl (fun _ => 0)))] H := hP
  have hD : va_D A [(h0, .inr (5, [.ref q1, .int 0, .ref q3, .int 0, .null, .int 0, .int 0, .int 0])), (q1, .inl (c2, 400, .inl (fun _ => 0))), (q3, .inl (c4, 200, .inl (fun _ => 0)))] := hD
  refine lv_aload_n hx hb dX5_init_27 rfl (lv_at hl 0 rfl) ?_
  refine lv_iconst (v := 0) hx hb dX5_init_28 (by decide) ?_
  refine va_put (D := (dC, dI)) (ci := 5) (v := .int 0) (ty := .int) (C := RX5) (T := TX5) (N := 8) hx hb hts inG5 tyX5 tyX5_ok nmX5 hown hK hP hD hS 0 rfl rfl 3 (by decide) (hts _ k39) (fun _ h9 => h9) rfl (by decide +kernel) rfl rfl (Nat.le_of_ble_eq_true rfl) dX5_init_29 (fun H locs hP hD hS => ?_)
  have hP : va_P (dC, dI) vwCl [(h0, .inr (5, [.ref q1, .int 0, .ref q3, .int 0, .null, .int 0, .int 0, .int 0])), (q1, .inl (c2, 400, .inl (fun _ => 0))), (q3, .inl (c4, 200, .inl (fun _ => 0)))] H := hP
  have hD : va_D A [(h0, .inr (5, [.ref q1, .int 0, .ref q3, .int 0, .null, .int 0, .int 0, .int 0])), (q1, .inl (c2, 400, .inl (fun _ => 0))), (q3, .inl (c4, 200, .inl (fun _ => 0)))] := hD
  refine lv_aload_n hx hb dX5_init_32 rfl (lv_at hl 0 rfl) ?_
  refine lv_bipush (v := 60) hx hb dX5_init_33 (by decide) ?_
  refine va_newa (atype := .int) (ty := .int) (N' := 60) (a0 := (60, .inl (fun _ => 0))) hx hb (hts _ k65) rfl hK hP hD hS hA (fun _ => rfl) (by decide) (by decide) (Nat.le_of_ble_eq_true rfl) (Nat.le_of_ble_eq_true rfl) (Nat.le_of_ble_eq_true rfl) dX5_init_35 (fun q5 c6 H hK hP hD hS => ?_)
  have hK : va_K (dC, dI) vwCl [(c2, .int), (c4, .int), (c6, .int)] s := hK
  have hP : va_P (dC, dI) vwCl [(h0, .inr (5, [.ref q1, .int 0, .ref q3, .int 0, .null, .int 0, .int 0, .int 0])), (q1, .inl (c2, 400, .inl (fun _ => 0))), (q3, .inl (c4, 200, .inl (fun _ => 0))), (q5, .inl (c6, 60, .inl (fun _ => 0)))] H := hP
  have hD : va_D A [(h0, .inr (5, [.ref q1, .int 0, .ref q3, .int 0, .null, .int 0, .int 0, .int 0])), (q1, .inl (c2, 400, .inl (fun _ => 0))), (q3, .inl (c4, 200, .inl (fun _ => 0))), (q5, .inl (c6, 60, .inl (fun _ => 0)))] := hD
  refine W.widen (k := 3) (n := 660) (by omega) (by omega) ?_
  refine va_putF (D := (dC, dI)) (ci := 5) (v := .ref q5) (ty := .array .int) (C := RX5) (T := TX5) (N := 8) hx hb hts inG5 tyX5 tyX5_ok nmX5 hown hK hP hD hS 0 rfl rfl 4 (by decide) (hts _ k41) (fun _ h9 => h9) rfl hin rfl (by decide +kernel) rfl rfl (Nat.le_of_ble_eq_true rfl) dX5_init_37 (fun H locs hP hD hS => ?_)
  have hP : va_P (dC, dI) vwCl [(h0, .inr (5, [.ref q1, .int 0, .ref q3, .int 0, .ref q5, .int 0, .int 0, .int 0])), (q1, .inl (c2, 400, .inl (fun _ => 0))), (q3, .inl (c4, 200, .inl (fun _ => 0))), (q5, .inl (c6, 60, .inl (fun _ => 0)))] H := hP
  have hD : va_D A [(h0, .inr (5, [.ref q1, .int 0, .ref q3, .int 0, .ref q5, .int 0, .int 0, .int 0])), (q1, .inl (c2, 400, .inl (fun _ => 0))), (q3, .inl (c4, 200, .inl (fun _ => 0))), (q5, .inl (c6, 60, .inl (fun _ => 0)))] := hD
  refine lv_aload_n hx hb dX5_init_40 rfl (lv_at hl 0 rfl) ?_
  refine lv_iconst (v := 0) hx hb dX5_init_41 (by decide) ?_
  refine va_put (D := (dC, dI)) (ci := 5) (v := .int 0) (ty := .int) (C := RX5) (T := TX5) (N := 8) hx hb hts inG5 tyX5 tyX5_ok nmX5 hown hK hP hD hS 0 rfl rfl 5 (by decide) (hts _ k43) (fun _ h9 => h9) rfl (by decide +kernel) rfl rfl (Nat.le_of_ble_eq_true rfl) dX5_init_42 (fun H locs hP hD hS => ?_)
  have hP : va_P (dC, dI) vwCl [(h0, .inr (5, [.ref q1, .int 0, .ref q3, .int 0, .ref q5, .int 0, .int 0, .int 0])), (q1, .inl (c2, 400, .inl (fun _ => 0))), (q3, .inl (c4, 200, .inl (fun _ => 0))), (q5, .inl (c6, 60, .inl (fun _ => 0)))] H := hP
  have hD : va_D A [(h0, .inr (5, [.ref q1, .int 0, .ref q3, .int 0, .ref q5, .int 0, .int 0, .int 0])), (q1, .inl (c2, 400, .inl (fun _ => 0))), (q3, .inl (c4, 200, .inl (fun _ => 0))), (q5, .inl (c6, 60, .inl (fun _ => 0)))] := hD
  refine lv_aload_n hx hb dX5_init_45 rfl (lv_at hl 0 rfl) ?_
  refine lv_iconst (v := (-1)) hx hb dX5_init_46 (by decide) ?_
  refine va_put (D := (dC, dI)) (ci := 5) (v := .int (-1)) (ty := .int) (C := RX5) (T := TX5) (N := 8) hx hb hts inG5 tyX5 tyX5_ok nmX5 hown hK hP hD hS 0 rfl rfl 6 (by decide) (hts _ k45) (fun _ h9 => h9) rfl (by decide +kernel) rfl rfl (Nat.le_of_ble_eq_true rfl) dX5_init_47 (fun H locs hP hD hS => ?_)
  have hP : va_P (dC, dI) vwCl [(h0, .inr (5, [.ref q1, .int 0, .ref q3, .int 0, .ref q5, .int 0, .int (-1), .int 0])), (q1, .inl (c2, 400, .inl (fun _ => 0))), (q3, .inl (c4, 200, .inl (fun _ => 0))), (q5, .inl (c6, 60, .inl (fun _ => 0)))] H := hP
  have hD : va_D A [(h0, .inr (5, [.ref q1, .int 0, .ref q3, .int 0, .ref q5, .int 0, .int (-1), .int 0])), (q1, .inl (c2, 400, .inl (fun _ => 0))), (q3, .inl (c4, 200, .inl (fun _ => 0))), (q5, .inl (c6, 60, .inl (fun _ => 0)))] := hD
  refine lv_aload_n hx hb dX5_init_50 rfl (lv_at hl 0 rfl) ?_
  refine lv_iconst (v := 0) hx hb dX5_init_51 (by decide) ?_
  refine va_put (D := (dC, dI)) (ci := 5) (v := .int 0) (ty := .int) (C := RX5) (T := TX5) (N := 8) hx hb hts inG5 tyX5 tyX5_ok nmX5 hown hK hP hD hS 0 rfl rfl 7 (by decide) (hts _ k47) (fun _ h9 => h9) rfl (by decide +kernel) rfl rfl (Nat.le_of_ble_eq_true rfl) dX5_init_52 (fun H locs hP hD hS => ?_)
  have hP : va_P (dC, dI) vwCl [(h0, .inr (5, [.ref q1, .int 0, .ref q3, .int 0, .ref q5, .int 0, .int (-1), .int 0])), (q1, .inl (c2, 400, .inl (fun _ => 0))), (q3, .inl (c4, 200, .inl (fun _ => 0))), (q5, .inl (c6, 60, .inl (fun _ => 0)))] H := hP
  have hD : va_D A [(h0, .inr (5, [.ref q1, .int 0, .ref q3, .int 0, .ref q5, .int 0, .int (-1), .int 0])), (q1, .inl (c2, 400, .inl (fun _ => 0))), (q3, .inl (c4, 200, .inl (fun _ => 0))), (q5, .inl (c6, 60, .inl (fun _ => 0)))] := hD
  have hP9 := hP.sub (ws' := [(h0, .inr (5, [.ref q1, .int 0, .ref q3, .int 0, .ref q5, .int 0, .int (-1), .int 0])), (q1, .inl (c2, 400, .inl (fun _ => 0)))]) [0, 1] rfl
  have hD9 := hD.sub (ws' := [(h0, .inr (5, [.ref q1, .int 0, .ref q3, .int 0, .ref q5, .int 0, .int (-1), .int 0])), (q1, .inl (c2, 400, .inl (fun _ => 0)))]) [0, 1] (by decide) rfl
  have hK9 := hK.sub (tys' := [(c2, .int)]) [0] rfl
  refine W.widen (k := 3) (n := 660) (by omega) (by omega) ?_
  exact W.vret hx hb hr (fun t ht hW => ⟨⟨(), rfl, trivial, q1, q3, q5, c2, by rw [ht]; exact hP9, va_K.moved hW.alike hK9, hD9⟩, hS.F ht⟩) hS.2.2 dX5_init_55
set_option maxHeartbeats 4000000 in
set_option maxRecDepth 100000 in
theorem c_Row_init (l : Launch) (dC : Nat → ClassId) (dI : Nat → Nat → Nat) (sz : Nat) (h0 : Nat)  : Met l yX4_init (Cond.code yX4_init cX4_init 3 none :: wsG) ({ frames := 1, cells := 5, slots := 5501, locals := 14 } : Room) (va_Pc [.ref h0, .int 1100] (fun U => U.heap.size = sz ∧ va_P (dC, dI) vwCl [(h0, .inr (4, [.null, .null, .null, .null, .null, .int 0, .int 0, .int 0]))] U.heap ∧ va_K (dC, dI) vwCl [] U ∧ va_D (fun _ => True) [(h0, .inr (4, [.null, .null, .null, .null, .null, .int 0, .int 0, .int 0]))])) (va_Qv (fun (_ : Unit) => True) (fun (_ : Unit) (t : State) => ∃ (q1 : Nat) (q3 : Nat) (q5 : Nat) (q7 : Nat) (q9 : Nat) (c6 : ClassId), va_P (dC, dI) vwCl [(h0, .inr (4, [.ref q1, .ref q3, .ref q5, .ref q7, .ref q9, .int 0, .int 0, .int 0])), (q5, .inl (c6, 1101, .inl (fun _ => 0)))] t.heap ∧ va_K (dC, dI) vwCl [(c6, .int)] t ∧ va_D (va_A [(h0, .inr (4, [.null, .null, .null, .null, .null, .int 0, .int 0, .int 0]))] sz) [(h0, .inr (4, [.ref q1, .ref q3, .ref q5, .ref q7, .ref q9, .int 0, .int 0, .int 0])), (q5, .inl (c6, 1101, .inl (fun _ => 0)))]) (va_A [(h0, .inr (4, [.null, .null, .null, .null, .null, .int 0, .int 0, .int 0]))] sz)) 5 5501 (va_A [(h0, .inr (4, [.null, .null, .null, .null, .null, .int 0, .int 0, .int 0]))] sz) := by
  refine Met.ofW (cc := cX4_init) (maxL := 3) (ret := none) (by decide) rfl ?_
  intro p e s m args below meth c s₁ B hml hv
  obtain ⟨rfl, hsz, hP, hK, hD0⟩ := hv
  have hx := B.exec
  have hb := B.bytes
  have hr := B.returns
  have hts : ∀ w ∈ wsG, w.before _ s = true := hG_of (atoms_spec (ws := (Cond.code yX4_init cX4_init 3 none :: wsG)) B.pre)
  have hown : s.vm.findClass RX4 = some m.cls := findClass_of_methodNamed B.named
  have hlocks := B.notSynchronized
  have hin : meth.name = "<init>" := (name_of_methodNamed B.named B.method).1
  subst hsz
  have hD := hD0.self (sz := s.heap.size)
  generalize hAe : va_A [(h0, .inr (4, [.null, .null, .null, .null, .null, .int 0, .int 0, .int 0]))] s.heap.size = A at hD ⊢
  have hA : ∀ q : Nat, s.heap.size ≤ q → A q := fun q h => by rw [← hAe]; exact Or.inr h
  have hS : va_S A s.heap s.heap [] := va_S.rf
  have hl := lv_entry ([.ref h0, .int 1100]) (n := 3) (Nat.le_of_ble_eq_true rfl)
  rw [lg_entry_eq]
  generalize (lg_sl ([.ref h0, .int 1100]) ++ List.replicate (3 - (lg_sl ([.ref h0, .int 1100])).length) Slot.unset).toArray = ls at hl ⊢
  have hl : lv_has ls 3 [(0, .ref h0), (1, .int 1100)] := hl
  refine lv_aload_n hx hb dX4_init_0 rfl (lv_at hl 0 rfl) ?_
  refine W.objInit hx hb hown (hts _ k73) (hts _ k27) (hts _ k28) rfl (by rw [hml]; exact hl.1) rfl dX4_init_1 (Nat.le_of_ble_eq_true rfl) (Nat.le_of_ble_eq_true rfl) ?_
  refine W.eq (g2 := F0 m 4 ls []) rfl ?_
  refine lv_aload_n hx hb dX4_init_4 rfl (lv_at hl 0 rfl) ?_
  refine lv_iconst (v := 0) hx hb dX4_init_5 (by decide) ?_
  refine va_put (D := (dC, dI)) (ci := 4) (v := .int 0) (ty := .int) (C := RX4) (T := TX4) (N := 8) hx hb hts inG4 tyX4 tyX4_ok nmX4 hown hK hP hD hS 0 rfl rfl 5 (by decide) (hts _ k92) (fun _ h9 => h9) rfl (by decide +kernel) rfl rfl (Nat.le_of_ble_eq_true rfl) dX4_init_6 (fun H locs hP hD hS => ?_)
  have hP : va_P (dC, dI) vwCl [(h0, .inr (4, [.null, .null, .null, .null, .null, .int 0, .int 0, .int 0]))] H := hP
  have hD : va_D A [(h0, .inr (4, [.null, .null, .null, .null, .null, .int 0, .int 0, .int 0]))] := hD
  refine lv_aload_n hx hb dX4_init_9 rfl (lv_at hl 0 rfl) ?_
  refine lv_iconst (v := 0) hx hb dX4_init_10 (by decide) ?_
  refine va_put (D := (dC, dI)) (ci := 4) (v := .int 0) (ty := .int) (C := RX4) (T := TX4) (N := 8) hx hb hts inG4 tyX4 tyX4_ok nmX4 hown hK hP hD hS 0 rfl rfl 6 (by decide) (hts _ k100) (fun _ h9 => h9) rfl (by decide +kernel) rfl rfl (Nat.le_of_ble_eq_true rfl) dX4_init_11 (fun H locs hP hD hS => ?_)
  have hP : va_P (dC, dI) vwCl [(h0, .inr (4, [.null, .null, .null, .null, .null, .int 0, .int 0, .int 0]))] H := hP
  have hD : va_D A [(h0, .inr (4, [.null, .null, .null, .null, .null, .int 0, .int 0, .int 0]))] := hD
  refine lv_aload_n hx hb dX4_init_14 rfl (lv_at hl 0 rfl) ?_
  refine lv_iconst (v := 0) hx hb dX4_init_15 (by decide) ?_
  refine va_put (D := (dC, dI)) (ci := 4) (v := .int 0) (ty := .boolean) (C := RX4) (T := TX4) (N := 8) hx hb hts inG4 tyX4 tyX4_ok nmX4 hown hK hP hD hS 0 rfl rfl 7 (by decide) (hts _ k103) (fun _ h9 => h9) rfl (by decide +kernel) rfl rfl (Nat.le_of_ble_eq_true rfl) dX4_init_16 (fun H locs hP hD hS => ?_)
  have hP : va_P (dC, dI) vwCl [(h0, .inr (4, [.null, .null, .null, .null, .null, .int 0, .int 0, .int 0]))] H := hP
  have hD : va_D A [(h0, .inr (4, [.null, .null, .null, .null, .null, .int 0, .int 0, .int 0]))] := hD
  refine lv_iload_n hx hb dX4_init_19 rfl (lv_at hl 1 rfl) ?_
  refine lv_iconst (v := 1) hx hb dX4_init_20 (by decide) ?_
  refine va_mmax hx hb (hml.trans hl.1.symm) hown (hts _ k74) (hts _ k75) (hts _ k4) (hts _ k76) (Nat.le_of_ble_eq_true rfl) (Nat.le_of_ble_eq_true rfl) (Nat.le_of_ble_eq_true rfl) (Nat.le_of_ble_eq_true rfl) dX4_init_21 ?_
  refine lv_topi (fun x9 ex9 => ?_)
  obtain rfl : x9 = 1100 := ex9.trans (by decide +kernel)
  refine lv_istore_n (lv' := [(2, .int 1100), (0, .ref h0), (1, .int 1100)]) hx hb dX4_init_24 rfl hl (by decide) rfl (fun ls hl => ?_)
  refine lv_aload_n hx hb dX4_init_25 rfl (lv_at hl 1 rfl) ?_
  refine lv_iload_n hx hb dX4_init_26 rfl (lv_at hl 0 rfl) ?_
  refine va_newa (atype := .int) (ty := .int) (N' := 1100) (a0 := (1100, .inl (fun _ => 0))) hx hb (hts _ k65) rfl hK hP hD hS hA (fun _ => rfl) (by decide) (by decide) (Nat.le_of_ble_eq_true rfl) (Nat.le_of_ble_eq_true rfl) (Nat.le_of_ble_eq_true rfl) dX4_init_27 (fun q1 c2 H hK hP hD hS => ?_)
  have hK : va_K (dC, dI) vwCl [(c2, .int)] s := hK
  have hP : va_P (dC, dI) vwCl [(h0, .inr (4, [.null, .null, .null, .null, .null, .int 0, .int 0, .int 0])), (q1, .inl (c2, 1100, .inl (fun _ => 0)))] H := hP
  have hD : va_D A [(h0, .inr (4, [.null, .null, .null, .null, .null, .int 0, .int 0, .int 0])), (q1, .inl (c2, 1100, .inl (fun _ => 0)))] := hD
  refine W.widen (k := 1) (n := 1100) (by omega) (by omega) ?_
  refine va_putF (D := (dC, dI)) (ci := 4) (v := .ref q1) (ty := .array .int) (C := RX4) (T := TX4) (N := 8) hx hb hts inG4 tyX4 tyX4_ok nmX4 hown hK hP hD hS 0 rfl rfl 0 (by decide) (hts _ k77) (fun _ h9 => h9) rfl hin rfl (by decide +kernel) rfl rfl (Nat.le_of_ble_eq_true rfl) dX4_init_29 (fun H locs hP hD hS => ?_)
  have hP : va_P (dC, dI) vwCl [(h0, .inr (4, [.ref q1, .null, .null, .null, .null, .int 0, .int 0, .int 0])), (q1, .inl (c2, 1100, .inl (fun _ => 0)))] H := hP
  have hD : va_D A [(h0, .inr (4, [.ref q1, .null, .null, .null, .null, .int 0, .int 0, .int 0])), (q1, .inl (c2, 1100, .inl (fun _ => 0)))] := hD
  refine lv_aload_n hx hb dX4_init_32 rfl (lv_at hl 1 rfl) ?_
  refine lv_iload_n hx hb dX4_init_33 rfl (lv_at hl 0 rfl) ?_
  refine va_newa (atype := .int) (ty := .int) (N' := 1100) (a0 := (1100, .inl (fun _ => 0))) hx hb (hts _ k65) rfl hK hP hD hS hA (fun _ => rfl) (by decide) (by decide) (Nat.le_of_ble_eq_true rfl) (Nat.le_of_ble_eq_true rfl) (Nat.le_of_ble_eq_true rfl) dX4_init_34 (fun q3 c4 H hK hP hD hS => ?_)
  have hK : va_K (dC, dI) vwCl [(c2, .int), (c4, .int)] s := hK
  have hP : va_P (dC, dI) vwCl [(h0, .inr (4, [.ref q1, .null, .null, .null, .null, .int 0, .int 0, .int 0])), (q1, .inl (c2, 1100, .inl (fun _ => 0))), (q3, .inl (c4, 1100, .inl (fun _ => 0)))] H := hP
  have hD : va_D A [(h0, .inr (4, [.ref q1, .null, .null, .null, .null, .int 0, .int 0, .int 0])), (q1, .inl (c2, 1100, .inl (fun _ => 0))), (q3, .inl (c4, 1100, .inl (fun _ => 0)))] := hD
  refine W.widen (k := 2) (n := 2200) (by omega) (by omega) ?_
  refine va_putF (D := (dC, dI)) (ci := 4) (v := .ref q3) (ty := .array .int) (C := RX4) (T := TX4) (N := 8) hx hb hts inG4 tyX4 tyX4_ok nmX4 hown hK hP hD hS 0 rfl rfl 1 (by decide) (hts _ k83) (fun _ h9 => h9) rfl hin rfl (by decide +kernel) rfl rfl (Nat.le_of_ble_eq_true rfl) dX4_init_36 (fun H locs hP hD hS => ?_)
  have hP : va_P (dC, dI) vwCl [(h0, .inr (4, [.ref q1, .ref q3, .null, .null, .null, .int 0, .int 0, .int 0])), (q1, .inl (c2, 1100, .inl (fun _ => 0))), (q3, .inl (c4, 1100, .inl (fun _ => 0)))] H := hP
  have hD : va_D A [(h0, .inr (4, [.ref q1, .ref q3, .null, .null, .null, .int 0, .int 0, .int 0])), (q1, .inl (c2, 1100, .inl (fun _ => 0))), (q3, .inl (c4, 1100, .inl (fun _ => 0)))] := hD
  refine lv_aload_n hx hb dX4_init_39 rfl (lv_at hl 1 rfl) ?_
  refine lv_iload_n hx hb dX4_init_40 rfl (lv_at hl 0 rfl) ?_
  refine lv_iconst (v := 1) hx hb dX4_init_41 (by decide) ?_
  refine lv_iadd hx hb dX4_init_42 ?_
  refine lv_topi (fun x9 ex9 => ?_)
  obtain rfl : x9 = 1101 := ex9.trans (by decide +kernel)
  refine va_newa (atype := .int) (ty := .int) (N' := 1101) (a0 := (1101, .inl (fun _ => 0))) hx hb (hts _ k65) rfl hK hP hD hS hA (fun _ => rfl) (by decide) (by decide) (Nat.le_of_ble_eq_true rfl) (Nat.le_of_ble_eq_true rfl) (Nat.le_of_ble_eq_true rfl) dX4_init_43 (fun q5 c6 H hK hP hD hS => ?_)
  have hK : va_K (dC, dI) vwCl [(c2, .int), (c4, .int), (c6, .int)] s := hK
  have hP : va_P (dC, dI) vwCl [(h0, .inr (4, [.ref q1, .ref q3, .null, .null, .null, .int 0, .int 0, .int 0])), (q1, .inl (c2, 1100, .inl (fun _ => 0))), (q3, .inl (c4, 1100, .inl (fun _ => 0))), (q5, .inl (c6, 1101, .inl (fun _ => 0)))] H := hP
  have hD : va_D A [(h0, .inr (4, [.ref q1, .ref q3, .null, .null, .null, .int 0, .int 0, .int 0])), (q1, .inl (c2, 1100, .inl (fun _ => 0))), (q3, .inl (c4, 1100, .inl (fun _ => 0))), (q5, .inl (c6, 1101, .inl (fun _ => 0)))] := hD
  refine W.widen (k := 3) (n := 3301) (by omega) (by omega) ?_
  refine va_putF (D := (dC, dI)) (ci := 4) (v := .ref q5) (ty := .array .int) (C := RX4) (T := TX4) (N := 8) hx hb hts inG4 tyX4 tyX4_ok nmX4 hown hK hP hD hS 0 rfl rfl 2 (by decide) (hts _ k87) (fun _ h9 => h9) rfl hin rfl (by decide +kernel) rfl rfl (Nat.le_of_ble_eq_true rfl) dX4_init_45 (fun H locs hP hD hS => ?_)
  have hP : va_P (dC, dI) vwCl [(h0, .inr (4, [.ref q1, .ref q3, .ref q5, .null, .null, .int 0, .int 0, .int 0])), (q1, .inl (c2, 1100, .inl (fun _ => 0))), (q3, .inl (c4, 1100, .inl (fun _ => 0))), (q5, .inl (c6, 1101, .inl (fun _ => 0)))] H := hP
  have hD : va_D A [(h0, .inr (4, [.ref q1, .ref q3, .ref q5, .null, .null, .int 0, .int 0, .int 0])), (q1, .inl (c2, 1100, .inl (fun _ => 0))), (q3, .inl (c4, 1100, .inl (fun _ => 0))), (q5, .inl (c6, 1101, .inl (fun _ => 0)))] := hD
  refine lv_aload_n hx hb dX4_init_48 rfl (lv_at hl 1 rfl) ?_
  refine lv_iload_n hx hb dX4_init_49 rfl (lv_at hl 0 rfl) ?_
  refine va_newa (atype := .int) (ty := .int) (N' := 1100) (a0 := (1100, .inl (fun _ => 0))) hx hb (hts _ k65) rfl hK hP hD hS hA (fun _ => rfl) (by decide) (by decide) (Nat.le_of_ble_eq_true rfl) (Nat.le_of_ble_eq_true rfl) (Nat.le_of_ble_eq_true rfl) dX4_init_50 (fun q7 c8 H hK hP hD hS => ?_)
  have hK : va_K (dC, dI) vwCl [(c2, .int), (c4, .int), (c6, .int), (c8, .int)] s := hK
  have hP : va_P (dC, dI) vwCl [(h0, .inr (4, [.ref q1, .ref q3, .ref q5, .null, .null, .int 0, .int 0, .int 0])), (q1, .inl (c2, 1100, .inl (fun _ => 0))), (q3, .inl (c4, 1100, .inl (fun _ => 0))), (q5, .inl (c6, 1101, .inl (fun _ => 0))), (q7, .inl (c8, 1100, .inl (fun _ => 0)))] H := hP
  have hD : va_D A [(h0, .inr (4, [.ref q1, .ref q3, .ref q5, .null, .null, .int 0, .int 0, .int 0])), (q1, .inl (c2, 1100, .inl (fun _ => 0))), (q3, .inl (c4, 1100, .inl (fun _ => 0))), (q5, .inl (c6, 1101, .inl (fun _ => 0))), (q7, .inl (c8, 1100, .inl (fun _ => 0)))] := hD
  refine W.widen (k := 4) (n := 4401) (by omega) (by omega) ?_
  refine va_putF (D := (dC, dI)) (ci := 4) (v := .ref q7) (ty := .array .int) (C := RX4) (T := TX4) (N := 8) hx hb hts inG4 tyX4 tyX4_ok nmX4 hown hK hP hD hS 0 rfl rfl 3 (by decide) (hts _ k88) (fun _ h9 => h9) rfl hin rfl (by decide +kernel) rfl rfl (Nat.le_of_ble_eq_true rfl) dX4_init_52 (fun H locs hP hD hS => ?_)
  have hP : va_P (dC, dI) vwCl [(h0, .inr (4, [.ref q1, .ref q3, .ref q5, .ref q7, .null, .int 0, .int 0, .int 0])), (q1, .inl (c2, 1100, .inl (fun _ => 0))), (q3, .inl (c4, 1100, .inl (fun _ => 0))), (q5, .inl (c6, 1101, .inl (fun _ => 0))), (q7, .inl (c8, 1100, .inl (fun _ => 0)))] H := hP
  have hD : va_D A [(h0, .inr (4, [.ref q1, .ref q3, .ref q5, .ref q7, .null, .int 0, .int 0, .int 0])), (q1, .inl (c2, 1100, .inl (fun _ => 0))), (q3, .inl (c4, 1100, .inl (fun _ => 0))), (q5, .inl (c6, 1101, .inl (fun _ => 0))), (q7, .inl (c8, 1100, .inl (fun _ => 0)))] := hD
  refine lv_aload_n hx hb dX4_init_55 rfl (lv_at hl 1 rfl) ?_
  refine lv_iload_n hx hb dX4_init_56 rfl (lv_at hl 0 rfl) ?_
  refine va_newa (atype := .int) (ty := .int) (N' := 1100) (a0 := (1100, .inl (fun _ => 0))) hx hb (hts _ k65) rfl hK hP hD hS hA (fun _ => rfl) (by decide) (by decide) (Nat.le_of_ble_eq_true rfl) (Nat.le_of_ble_eq_true rfl) (Nat.le_of_ble_eq_true rfl) dX4_init_57 (fun q9 c10 H hK hP hD hS => ?_)
  have hK : va_K (dC, dI) vwCl [(c2, .int), (c4, .int), (c6, .int), (c8, .int), (c10, .int)] s := hK
  have hP : va_P (dC, dI) vwCl [(h0, .inr (4, [.ref q1, .ref q3, .ref q5, .ref q7, .null, .int 0, .int 0, .int 0])), (q1, .inl (c2, 1100, .inl (fun _ => 0))), (q3, .inl (c4, 1100, .inl (fun _ => 0))), (q5, .inl (c6, 1101, .inl (fun _ => 0))), (q7, .inl (c8, 1100, .inl (fun _ => 0))), (q9, .inl (c10, 1100, .inl (fun _ => 0)))] H := hP
  have hD : va_D A [(h0, .inr (4, [.ref q1, .ref q3, .ref q5, .ref q7, .null, .int 0, .int 0, .int 0])), (q1, .inl (c2, 1100, .inl (fun _ => 0))), (q3, .inl (c4, 1100, .inl (fun _ => 0))), (q5, .inl (c6, 1101, .inl (fun _ => 0))), (q7, .inl (c8, 1100, .inl (fun _ => 0))), (q9, .inl (c10, 1100, .inl (fun _ => 0)))] := hD
  refine W.widen (k := 5) (n := 5501) (by omega) (by omega) ?_
  refine va_putF (D := (dC, dI)) (ci := 4) (v := .ref q9) (ty := .array .int) (C := RX4) (T := TX4) (N := 8) hx hb hts inG4 tyX4 tyX4_ok nmX4 hown hK hP hD hS 0 rfl rfl 4 (by decide) (hts _ k90) (fun _ h9 => h9) rfl hin rfl (by decide +kernel) rfl rfl (Nat.le_of_ble_eq_true rfl) dX4_init_59 (fun H locs hP hD hS => ?_)
  have hP : va_P (dC, dI) vwCl [(h0, .inr (4, [.ref q1, .ref q3, .ref q5, .ref q7, .ref q9, .int 0, .int 0, .int 0])), (q1, .inl (c2, 1100, .inl (fun _ => 0))), (q3, .inl (c4, 1100, .inl (fun _ => 0))), (q5, .inl (c6, 1101, .inl (fun _ => 0))), (q7, .inl (c8, 1100, .inl (fun _ => 0))), (q9, .inl (c10, 1100, .inl (fun _ => 0)))] H := hP
  have hD : va_D A [(h0, .inr (4, [.ref q1, .ref q3, .ref q5, .ref q7, .ref q9, .int 0, .int 0, .int 0])), (q1, .inl (c2, 1100, .inl (fun _ => 0))), (q3, .inl (c4, 1100, .inl (fun _ => 0))), (q5, .inl (c6, 1101, .inl (fun _ => 0))), (q7, .inl (c8, 1100, .inl (fun _ => 0))), (q9, .inl (c10, 1100, .inl (fun _ => 0)))] := hD
  have hP9 := hP.sub (ws' := [(h0, .inr (4, [.ref q1, .ref q3, .ref q5, .ref q7, .ref q9, .int 0, .int 0, .int 0])), (q5, .inl (c6, 1101, .inl (fun _ => 0)))]) [0, 3] rfl
  have hD9 := hD.sub (ws' := [(h0, .inr (4, [.ref q1, .ref q3, .ref q5, .ref q7, .ref q9, .int 0, .int 0, .int 0])), (q5, .inl (c6, 1101, .inl (fun _ => 0)))]) [0, 3] (by decide) rfl
  have hK9 := hK.sub (tys' := [(c6, .int)]) [2] rfl
  refine W.widen (k := 5) (n := 5501) (by omega) (by omega) ?_
  exact W.vret hx hb hr (fun t ht hW => ⟨⟨(), rfl, trivial, q1, q3, q5, q7, q9, c6, by rw [ht]; exact hP9, va_K.moved hW.alike hK9, hD9⟩, hS.F ht⟩) hS.2.2 dX4_init_62
set_option maxHeartbeats 4000000 in
set_option maxRecDepth 100000 in
theorem c_Row96_init (l : Launch) (dC : Nat → ClassId) (dI : Nat → Nat → Nat) (sz : Nat) (h0 : Nat)  : Met l yX4_init (Cond.code yX4_init cX4_init 3 none :: wsG) ({ frames := 1, cells := 5, slots := 481, locals := 14 } : Room) (va_Pc [.ref h0, .int 96] (fun U => U.heap.size = sz ∧ va_P (dC, dI) vwCl [(h0, .inr (4, [.null, .null, .null, .null, .null, .int 0, .int 0, .int 0]))] U.heap ∧ va_K (dC, dI) vwCl [] U ∧ va_D (fun _ => True) [(h0, .inr (4, [.null, .null, .null, .null, .null, .int 0, .int 0, .int 0]))])) (va_Qv (fun (_ : Unit) => True) (fun (_ : Unit) (t : State) => ∃ (q1 : Nat) (q3 : Nat) (q5 : Nat) (q7 : Nat) (q9 : Nat), va_P (dC, dI) vwCl [(h0, .inr (4, [.ref q1, .ref q3, .ref q5, .ref q7, .ref q9, .int 0, .int 0, .int 0]))] t.heap ∧ va_K (dC, dI) vwCl [] t ∧ va_D (va_A [(h0, .inr (4, [.null, .null, .null, .null, .null, .int 0, .int 0, .int 0]))] sz) [(h0, .inr (4, [.ref q1, .ref q3, .ref q5, .ref q7, .ref q9, .int 0, .int 0, .int 0]))]) (va_A [(h0, .inr (4, [.null, .null, .null, .null, .null, .int 0, .int 0, .int 0]))] sz)) 5 481 (va_A [(h0, .inr (4, [.null, .null, .null, .null, .null, .int 0, .int 0, .int 0]))] sz) := by
  refine Met.ofW (cc := cX4_init) (maxL := 3) (ret := none) (by decide) rfl ?_
  intro p e s m args below meth c s₁ B hml hv
  obtain ⟨rfl, hsz, hP, hK, hD0⟩ := hv
  have hx := B.exec
  have hb := B.bytes
  have hr := B.returns
  have hts : ∀ w ∈ wsG, w.before _ s = true := hG_of (atoms_spec (ws := (Cond.code yX4_init cX4_init 3 none :: wsG)) B.pre)
  have hown : s.vm.findClass RX4 = some m.cls := findClass_of_methodNamed B.named
  have hlocks := B.notSynchronized
  have hin : meth.name = "<init>" := (name_of_methodNamed B.named B.method).1
  subst hsz
  have hD := hD0.self (sz := s.heap.size)
  generalize hAe : va_A [(h0, .inr (4, [.null, .null, .null, .null, .null, .int 0, .int 0, .int 0]))] s.heap.size = A at hD ⊢
  have hA : ∀ q : Nat, s.heap.size ≤ q → A q := fun q h => by rw [← hAe]; exact Or.inr h
  have hS : va_S A s.heap s.heap [] := va_S.rf
  have hl := lv_entry ([.ref h0, .int 96]) (n := 3) (Nat.le_of_ble_eq_true rfl)
  rw [lg_entry_eq]
  generalize (lg_sl ([.ref h0, .int 96]) ++ List.replicate (3 - (lg_sl ([.ref h0, .int 96])).length) Slot.unset).toArray = ls at hl ⊢
  have hl : lv_has ls 3 [(0, .ref h0), (1, .int 96)] := hl
  refine lv_aload_n hx hb dX4_init_0 rfl (lv_at hl 0 rfl) ?_
  refine W.objInit hx hb hown (hts _ k73) (hts _ k27) (hts _ k28) rfl (by rw [hml]; exact hl.1) rfl dX4_init_1 (Nat.le_of_ble_eq_true rfl) (Nat.le_of_ble_eq_true rfl) ?_
  refine W.eq (g2 := F0 m 4 ls []) rfl ?_
  refine lv_aload_n hx hb dX4_init_4 rfl (lv_at hl 0 rfl) ?_
  refine lv_iconst (v := 0) hx hb dX4_init_5 (by decide) ?_
  refine va_put (D := (dC, dI)) (ci := 4) (v := .int 0) (ty := .int) (C := RX4) (T := TX4) (N := 8) hx hb hts inG4 tyX4 tyX4_ok nmX4 hown hK hP hD hS 0 rfl rfl 5 (by decide) (hts _ k92) (fun _ h9 => h9) rfl (by decide +kernel) rfl rfl (Nat.le_of_ble_eq_true rfl) dX4_init_6 (fun H locs hP hD hS => ?_)
  have hP : va_P (dC, dI) vwCl [(h0, .inr (4, [.null, .null, .null, .null, .null, .int 0, .int 0, .int 0]))] H := hP
  have hD : va_D A [(h0, .inr (4, [.null, .null, .null, .null, .null, .int 0, .int 0, .int 0]))] := hD
  refine lv_aload_n hx hb dX4_init_9 rfl (lv_at hl 0 rfl) ?_
  refine lv_iconst (v := 0) hx hb dX4_init_10 (by decide) ?_
  refine va_put (D := (dC, dI)) (ci := 4) (v := .int 0) (ty := .int) (C := RX4) (T := TX4) (N := 8) hx hb hts inG4 tyX4 tyX4_ok nmX4 hown hK hP hD hS 0 rfl rfl 6 (by decide) (hts _ k100) (fun _ h9 => h9) rfl (by decide +kernel) rfl rfl (Nat.le_of_ble_eq_true rfl) dX4_init_11 (fun H locs hP hD hS => ?_)
  have hP : va_P (dC, dI) vwCl [(h0, .inr (4, [.null, .null, .null, .null, .null, .int 0, .int 0, .int 0]))] H := hP
  have hD : va_D A [(h0, .inr (4, [.null, .null, .null, .null, .null, .int 0, .int 0, .int 0]))] := hD
  refine lv_aload_n hx hb dX4_init_14 rfl (lv_at hl 0 rfl) ?_
  refine lv_iconst (v := 0) hx hb dX4_init_15 (by decide) ?_
  refine va_put (D := (dC, dI)) (ci := 4) (v := .int 0) (ty := .boolean) (C := RX4) (T := TX4) (N := 8) hx hb hts inG4 tyX4 tyX4_ok nmX4 hown hK hP hD hS 0 rfl rfl 7 (by decide) (hts _ k103) (fun _ h9 => h9) rfl (by decide +kernel) rfl rfl (Nat.le_of_ble_eq_true rfl) dX4_init_16 (fun H locs hP hD hS => ?_)
  have hP : va_P (dC, dI) vwCl [(h0, .inr (4, [.null, .null, .null, .null, .null, .int 0, .int 0, .int 0]))] H := hP
  have hD : va_D A [(h0, .inr (4, [.null, .null, .null, .null, .null, .int 0, .int 0, .int 0]))] := hD
  refine lv_iload_n hx hb dX4_init_19 rfl (lv_at hl 1 rfl) ?_
  refine lv_iconst (v := 1) hx hb dX4_init_20 (by decide) ?_
  refine va_mmax hx hb (hml.trans hl.1.symm) hown (hts _ k74) (hts _ k75) (hts _ k4) (hts _ k76) (Nat.le_of_ble_eq_true rfl) (Nat.le_of_ble_eq_true rfl) (Nat.le_of_ble_eq_true rfl) (Nat.le_of_ble_eq_true rfl) dX4_init_21 ?_
  refine lv_topi (fun x9 ex9 => ?_)
  obtain rfl : x9 = 96 := ex9.trans (by decide +kernel)
  refine lv_istore_n (lv' := [(2, .int 96), (0, .ref h0), (1, .int 96)]) hx hb dX4_init_24 rfl hl (by decide) rfl (fun ls hl => ?_)
  refine lv_aload_n hx hb dX4_init_25 rfl (lv_at hl 1 rfl) ?_
  refine lv_iload_n hx hb dX4_init_26 rfl (lv_at hl 0 rfl) ?_
  refine va_newa (atype := .int) (ty := .int) (N' := 96) (a0 := (96, .inl (fun _ => 0))) hx hb (hts _ k65) rfl hK hP hD hS hA (fun _ => rfl) (by decide) (by decide) (Nat.le_of_ble_eq_true rfl) (Nat.le_of_ble_eq_true rfl) (Nat.le_of_ble_eq_true rfl) dX4_init_27 (fun q1 c2 H hK hP hD hS => ?_)
  have hK : va_K (dC, dI) vwCl [(c2, .int)] s := hK
  have hP : va_P (dC, dI) vwCl [(h0, .inr (4, [.null, .null, .null, .null, .null, .int 0, .int 0, .int 0])), (q1, .inl (c2, 96, .inl (fun _ => 0)))] H := hP
  have hD : va_D A [(h0, .inr (4, [.null, .null, .null, .null, .null, .int 0, .int 0, .int 0])), (q1, .inl (c2, 96, .inl (fun _ => 0)))] := hD
  refine W.widen (k := 1) (n := 96) (by omega) (by omega) ?_
  refine va_putF (D := (dC, dI)) (ci := 4) (v := .ref q1) (ty := .array .int) (C := RX4) (T := TX4) (N := 8) hx hb hts inG4 tyX4 tyX4_ok nmX4 hown hK hP hD hS 0 rfl rfl 0 (by decide) (hts _ k77) (fun _ h9 => h9) rfl hin rfl (by decide +kernel) rfl rfl (Nat.le_of_ble_eq_true rfl) dX4_init_29 (fun H locs hP hD hS => ?_)
  have hP : va_P (dC, dI) vwCl [(h0, .inr (4, [.ref q1, .null, .null, .null, .null, .int 0, .int 0, .int 0])), (q1, .inl (c2, 96, .inl (fun _ => 0)))] H := hP
  have hD : va_D A [(h0, .inr (4, [.ref q1, .null, .null, .null, .null, .int 0, .int 0, .int 0])), (q1, .inl (c2, 96, .inl (fun _ => 0)))] := hD
  refine lv_aload_n hx hb dX4_init_32 rfl (lv_at hl 1 rfl) ?_
  refine lv_iload_n hx hb dX4_init_33 rfl (lv_at hl 0 rfl) ?_
  refine va_newa (atype := .int) (ty := .int) (N' := 96) (a0 := (96, .inl (fun _ => 0))) hx hb (hts _ k65) rfl hK hP hD hS hA (fun _ => rfl) (by decide) (by decide) (Nat.le_of_ble_eq_true rfl) (Nat.le_of_ble_eq_true rfl) (Nat.le_of_ble_eq_true rfl) dX4_init_34 (fun q3 c4 H hK hP hD hS => ?_)
  have hK : va_K (dC, dI) vwCl [(c2, .int), (c4, .int)] s := hK
  have hP : va_P (dC, dI) vwCl [(h0, .inr (4, [.ref q1, .null, .null, .null, .null, .int 0, .int 0, .int 0])), (q1, .inl (c2, 96, .inl (fun _ => 0))), (q3, .inl (c4, 96, .inl (fun _ => 0)))] H := hP
  have hD : va_D A [(h0, .inr (4, [.ref q1, .null, .null, .null, .null, .int 0, .int 0, .int 0])), (q1, .inl (c2, 96, .inl (fun _ => 0))), (q3, .inl (c4, 96, .inl (fun _ => 0)))] := hD
  refine W.widen (k := 2) (n := 192) (by omega) (by omega) ?_
  refine va_putF (D := (dC, dI)) (ci := 4) (v := .ref q3) (ty := .array .int) (C := RX4) (T := TX4) (N := 8) hx hb hts inG4 tyX4 tyX4_ok nmX4 hown hK hP hD hS 0 rfl rfl 1 (by decide) (hts _ k83) (fun _ h9 => h9) rfl hin rfl (by decide +kernel) rfl rfl (Nat.le_of_ble_eq_true rfl) dX4_init_36 (fun H locs hP hD hS => ?_)
  have hP : va_P (dC, dI) vwCl [(h0, .inr (4, [.ref q1, .ref q3, .null, .null, .null, .int 0, .int 0, .int 0])), (q1, .inl (c2, 96, .inl (fun _ => 0))), (q3, .inl (c4, 96, .inl (fun _ => 0)))] H := hP
  have hD : va_D A [(h0, .inr (4, [.ref q1, .ref q3, .null, .null, .null, .int 0, .int 0, .int 0])), (q1, .inl (c2, 96, .inl (fun _ => 0))), (q3, .inl (c4, 96, .inl (fun _ => 0)))] := hD
  refine lv_aload_n hx hb dX4_init_39 rfl (lv_at hl 1 rfl) ?_
  refine lv_iload_n hx hb dX4_init_40 rfl (lv_at hl 0 rfl) ?_
  refine lv_iconst (v := 1) hx hb dX4_init_41 (by decide) ?_
  refine lv_iadd hx hb dX4_init_42 ?_
  refine lv_topi (fun x9 ex9 => ?_)
  obtain rfl : x9 = 97 := ex9.trans (by decide +kernel)
  refine va_newa (atype := .int) (ty := .int) (N' := 97) (a0 := (97, .inl (fun _ => 0))) hx hb (hts _ k65) rfl hK hP hD hS hA (fun _ => rfl) (by decide) (by decide) (Nat.le_of_ble_eq_true rfl) (Nat.le_of_ble_eq_true rfl) (Nat.le_of_ble_eq_true rfl) dX4_init_43 (fun q5 c6 H hK hP hD hS => ?_)
  have hK : va_K (dC, dI) vwCl [(c2, .int), (c4, .int), (c6, .int)] s := hK
  have hP : va_P (dC, dI) vwCl [(h0, .inr (4, [.ref q1, .ref q3, .null, .null, .null, .int 0, .int 0, .int 0])), (q1, .inl (c2, 96, .inl (fun _ => 0))), (q3, .inl (c4, 96, .inl (fun _ => 0))), (q5, .inl (c6, 97, .inl (fun _ => 0)))] H := hP
  have hD : va_D A [(h0, .inr (4, [.ref q1, .ref q3, .null, .null, .null, .int 0, .int 0, .int 0])), (q1, .inl (c2, 96, .inl (fun _ => 0))), (q3, .inl (c4, 96, .inl (fun _ => 0))), (q5, .inl (c6, 97, .inl (fun _ => 0)))] := hD
  refine W.widen (k := 3) (n := 289) (by omega) (by omega) ?_
  refine va_putF (D := (dC, dI)) (ci := 4) (v := .ref q5) (ty := .array .int) (C := RX4) (T := TX4) (N := 8) hx hb hts inG4 tyX4 tyX4_ok nmX4 hown hK hP hD hS 0 rfl rfl 2 (by decide) (hts _ k87) (fun _ h9 => h9) rfl hin rfl (by decide +kernel) rfl rfl (Nat.le_of_ble_eq_true rfl) dX4_init_45 (fun H locs hP hD hS => ?_)
  have hP : va_P (dC, dI) vwCl [(h0, .inr (4, [.ref q1, .ref q3, .ref q5, .null, .null, .int 0, .int 0, .int 0])), (q1, .inl (c2, 96, .inl (fun _ => 0))), (q3, .inl (c4, 96, .inl (fun _ => 0))), (q5, .inl (c6, 97, .inl (fun _ => 0)))] H := hP
  have hD : va_D A [(h0, .inr (4, [.ref q1, .ref q3, .ref q5, .null, .null, .int 0, .int 0, .int 0])), (q1, .inl (c2, 96, .inl (fun _ => 0))), (q3, .inl (c4, 96, .inl (fun _ => 0))), (q5, .inl (c6, 97, .inl (fun _ => 0)))] := hD
  refine lv_aload_n hx hb dX4_init_48 rfl (lv_at hl 1 rfl) ?_
  refine lv_iload_n hx hb dX4_init_49 rfl (lv_at hl 0 rfl) ?_
  refine va_newa (atype := .int) (ty := .int) (N' := 96) (a0 := (96, .inl (fun _ => 0))) hx hb (hts _ k65) rfl hK hP hD hS hA (fun _ => rfl) (by decide) (by decide) (Nat.le_of_ble_eq_true rfl) (Nat.le_of_ble_eq_true rfl) (Nat.le_of_ble_eq_true rfl) dX4_init_50 (fun q7 c8 H hK hP hD hS => ?_)
  have hK : va_K (dC, dI) vwCl [(c2, .int), (c4, .int), (c6, .int), (c8, .int)] s := hK
  have hP : va_P (dC, dI) vwCl [(h0, .inr (4, [.ref q1, .ref q3, .ref q5, .null, .null, .int 0, .int 0, .int 0])), (q1, .inl (c2, 96, .inl (fun _ => 0))), (q3, .inl (c4, 96, .inl (fun _ => 0))), (q5, .inl (c6, 97, .inl (fun _ => 0))), (q7, .inl (c8, 96, .inl (fun _ => 0)))] H := hP
  have hD : va_D A [(h0, .inr (4, [.ref q1, .ref q3, .ref q5, .null, .null, .int 0, .int 0, .int 0])), (q1, .inl (c2, 96, .inl (fun _ => 0))), (q3, .inl (c4, 96, .inl (fun _ => 0))), (q5, .inl (c6, 97, .inl (fun _ => 0))), (q7, .inl (c8, 96, .inl (fun _ => 0)))] := hD
  refine W.widen (k := 4) (n := 385) (by omega) (by omega) ?_
  refine va_putF (D := (dC, dI)) (ci := 4) (v := .ref q7) (ty := .array .int) (C := RX4) (T := TX4) (N := 8) hx hb hts inG4 tyX4 tyX4_ok nmX4 hown hK hP hD hS 0 rfl rfl 3 (by decide) (hts _ k88) (fun _ h9 => h9) rfl hin rfl (by decide +kernel) rfl rfl (Nat.le_of_ble_eq_true rfl) dX4_init_52 (fun H locs hP hD hS => ?_)
  have hP : va_P (dC, dI) vwCl [(h0, .inr (4, [.ref q1, .ref q3, .ref q5, .ref q7, .null, .int 0, .int 0, .int 0])), (q1, .inl (c2, 96, .inl (fun _ => 0))), (q3, .inl (c4, 96, .inl (fun _ => 0))), (q5, .inl (c6, 97, .inl (fun _ => 0))), (q7, .inl (c8, 96, .inl (fun _ => 0)))] H := hP
  have hD : va_D A [(h0, .inr (4, [.ref q1, .ref q3, .ref q5, .ref q7, .null, .int 0, .int 0, .int 0])), (q1, .inl (c2, 96, .inl (fun _ => 0))), (q3, .inl (c4, 96, .inl (fun _ => 0))), (q5, .inl (c6, 97, .inl (fun _ => 0))), (q7, .inl (c8, 96, .inl (fun _ => 0)))] := hD
  refine lv_aload_n hx hb dX4_init_55 rfl (lv_at hl 1 rfl) ?_
  refine lv_iload_n hx hb dX4_init_56 rfl (lv_at hl 0 rfl) ?_
  refine va_newa (atype := .int) (ty := .int) (N' := 96) (a0 := (96, .inl (fun _ => 0))) hx hb (hts _ k65) rfl hK hP hD hS hA (fun _ => rfl) (by decide) (by decide) (Nat.le_of_ble_eq_true rfl) (Nat.le_of_ble_eq_true rfl) (Nat.le_of_ble_eq_true rfl) dX4_init_57 (fun q9 c10 H hK hP hD hS => ?_)
  have hK : va_K (dC, dI) vwCl [(c2, .int), (c4, .int), (c6, .int), (c8, .int), (c10, .int)] s := hK
  have hP : va_P (dC, dI) vwCl [(h0, .inr (4, [.ref q1, .ref q3, .ref q5, .ref q7, .null, .int 0, .int 0, .int 0])), (q1, .inl (c2, 96, .inl (fun _ => 0))), (q3, .inl (c4, 96, .inl (fun _ => 0))), (q5, .inl (c6, 97, .inl (fun _ => 0))), (q7, .inl (c8, 96, .inl (fun _ => 0))), (q9, .inl (c10, 96, .inl (fun _ => 0)))] H := hP
  have hD : va_D A [(h0, .inr (4, [.ref q1, .ref q3, .ref q5, .ref q7, .null, .int 0, .int 0, .int 0])), (q1, .inl (c2, 96, .inl (fun _ => 0))), (q3, .inl (c4, 96, .inl (fun _ => 0))), (q5, .inl (c6, 97, .inl (fun _ => 0))), (q7, .inl (c8, 96, .inl (fun _ => 0))), (q9, .inl (c10, 96, .inl (fun _ => 0)))] := hD
  refine W.widen (k := 5) (n := 481) (by omega) (by omega) ?_
  refine va_putF (D := (dC, dI)) (ci := 4) (v := .ref q9) (ty := .array .int) (C := RX4) (T := TX4) (N := 8) hx hb hts inG4 tyX4 tyX4_ok nmX4 hown hK hP hD hS 0 rfl rfl 4 (by decide) (hts _ k90) (fun _ h9 => h9) rfl hin rfl (by decide +kernel) rfl rfl (Nat.le_of_ble_eq_true rfl) dX4_init_59 (fun H locs hP hD hS => ?_)
  have hP : va_P (dC, dI) vwCl [(h0, .inr (4, [.ref q1, .ref q3, .ref q5, .ref q7, .ref q9, .int 0, .int 0, .int 0])), (q1, .inl (c2, 96, .inl (fun _ => 0))), (q3, .inl (c4, 96, .inl (fun _ => 0))), (q5, .inl (c6, 97, .inl (fun _ => 0))), (q7, .inl (c8, 96, .inl (fun _ => 0))), (q9, .inl (c10, 96, .inl (fun _ => 0)))] H := hP
  have hD : va_D A [(h0, .inr (4, [.ref q1, .ref q3, .ref q5, .ref q7, .ref q9, .int 0, .int 0, .int 0])), (q1, .inl (c2, 96, .inl (fun _ => 0))), (q3, .inl (c4, 96, .inl (fun _ => 0))), (q5, .inl (c6, 97, .inl (fun _ => 0))), (q7, .inl (c8, 96, .inl (fun _ => 0))), (q9, .inl (c10, 96, .inl (fun _ => 0)))] := hD
  have hP9 := hP.sub (ws' := [(h0, .inr (4, [.ref q1, .ref q3, .ref q5, .ref q7, .ref q9, .int 0, .int 0, .int 0]))]) [0] rfl
  have hD9 := hD.sub (ws' := [(h0, .inr (4, [.ref q1, .ref q3, .ref q5, .ref q7, .ref q9, .int 0, .int 0, .int 0]))]) [0] (by decide) rfl
  have hK9 := hK.sub (tys' := []) [] rfl
  refine W.widen (k := 5) (n := 481) (by omega) (by omega) ?_
  exact W.vret hx hb hr (fun t ht hW => ⟨⟨(), rfl, trivial, q1, q3, q5, q7, q9, by rw [ht]; exact hP9, va_K.moved hW.alike hK9, hD9⟩, hS.F ht⟩) hS.2.2 dX4_init_62
set_option maxHeartbeats 4000000 in
set_option maxRecDepth 100000 in
theorem c_Walk_init (l : Launch) (dC : Nat → ClassId) (dI : Nat → Nat → Nat) (sz : Nat) (h0 : Nat)  : Met l yX7_init (Cond.code yX7_init cX7_init 1 none :: wsG) ({ frames := 1, cells := 3, slots := 2260, locals := 14 } : Room) (va_Pc [.ref h0] (fun U => U.heap.size = sz ∧ va_P (dC, dI) vwCl [(h0, .inr (7, [.int 0, .int 0, .null, .null, .null]))] U.heap ∧ va_K (dC, dI) vwCl [] U ∧ va_D (fun _ => True) [(h0, .inr (7, [.int 0, .int 0, .null, .null, .null]))])) (va_Qv (fun (_ : Unit) => True) (fun (_ : Unit) (t : State) => ∃ (q1 : Nat) (q3 : Nat) (q5 : Nat), va_P (dC, dI) vwCl [(h0, .inr (7, [.int (-1), .int 0, .ref q1, .ref q3, .ref q5]))] t.heap ∧ va_K (dC, dI) vwCl [] t ∧ va_D (va_A [(h0, .inr (7, [.int 0, .int 0, .null, .null, .null]))] sz) [(h0, .inr (7, [.int (-1), .int 0, .ref q1, .ref q3, .ref q5]))]) (va_A [(h0, .inr (7, [.int 0, .int 0, .null, .null, .null]))] sz)) 3 2260 (va_A [(h0, .inr (7, [.int 0, .int 0, .null, .null, .null]))] sz) := by
  refine Met.ofW (cc := cX7_init) (maxL := 1) (ret := none) (by decide) rfl ?_
  intro p e s m args below meth c s₁ B hml hv
  obtain ⟨rfl, hsz, hP, hK, hD0⟩ := hv
  have hx := B.exec
  have hb := B.bytes
  have hr := B.returns
  have hts : ∀ w ∈ wsG, w.before _ s = true := hG_of (atoms_spec (ws := (Cond.code yX7_init cX7_init 1 none :: wsG)) B.pre)
  have hown : s.vm.findClass RX7 = some m.cls := findClass_of_methodNamed B.named
  have hlocks := B.notSynchronized
  have hin : meth.name = "<init>" := (name_of_methodNamed B.named B.method).1
  subst hsz
  have hD := hD0.self (sz := s.heap.size)
  generalize hAe : va_A [(h0, .inr (7, [.int 0, .int 0, .null, .null, .null]))] s.heap.size = A at hD ⊢
  have hA : ∀ q : Nat, s.heap.size ≤ q → A q := fun q h => by rw [← hAe]; exact Or.inr h
  have hS : va_S A s.heap s.heap [] := va_S.rf
  have hl := lv_entry ([.ref h0]) (n := 1) (Nat.le_of_ble_eq_true rfl)
  rw [lg_entry_eq]
  generalize (lg_sl ([.ref h0]) ++ List.replicate (1 - (lg_sl ([.ref h0])).length) Slot.unset).toArray = ls at hl ⊢
  have hl : lv_has ls 1 [(0, .ref h0)] := hl
  refine lv_aload_n hx hb dX7_init_0 rfl (lv_at hl 0 rfl) ?_
  refine W.objInit hx hb hown (hts _ k270) (hts _ k27) (hts _ k28) rfl (by rw [hml]; exact hl.1) rfl dX7_init_1 (Nat.le_of_ble_eq_true rfl) (Nat.le_of_ble_eq_true rfl) ?_
  refine W.eq (g2 := F0 m 4 ls []) rfl ?_
  refine lv_aload_n hx hb dX7_init_4 rfl (lv_at hl 0 rfl) ?_
  refine lv_iconst (v := (-1)) hx hb dX7_init_5 (by decide) ?_
  refine va_put (D := (dC, dI)) (ci := 7) (v := .int (-1)) (ty := .int) (C := RX7) (T := TX7) (N := 5) hx hb hts inG7 tyX7 tyX7_ok nmX7 hown hK hP hD hS 0 rfl rfl 0 (by decide) (hts _ k271) (fun _ h9 => h9) rfl (by decide +kernel) rfl rfl (Nat.le_of_ble_eq_true rfl) dX7_init_6 (fun H locs hP hD hS => ?_)
  have hP : va_P (dC, dI) vwCl [(h0, .inr (7, [.int (-1), .int 0, .null, .null, .null]))] H := hP
  have hD : va_D A [(h0, .inr (7, [.int (-1), .int 0, .null, .null, .null]))] := hD
  refine lv_aload_n hx hb dX7_init_9 rfl (lv_at hl 0 rfl) ?_
  refine lv_iconst (v := 0) hx hb dX7_init_10 (by decide) ?_
  refine va_put (D := (dC, dI)) (ci := 7) (v := .int 0) (ty := .int) (C := RX7) (T := TX7) (N := 5) hx hb hts inG7 tyX7 tyX7_ok nmX7 hown hK hP hD hS 0 rfl rfl 1 (by decide) (hts _ k273) (fun _ h9 => h9) rfl (by decide +kernel) rfl rfl (Nat.le_of_ble_eq_true rfl) dX7_init_11 (fun H locs hP hD hS => ?_)
  have hP : va_P (dC, dI) vwCl [(h0, .inr (7, [.int (-1), .int 0, .null, .null, .null]))] H := hP
  have hD : va_D A [(h0, .inr (7, [.int (-1), .int 0, .null, .null, .null]))] := hD
  refine lv_aload_n hx hb dX7_init_14 rfl (lv_at hl 0 rfl) ?_
  refine lv_bipush (v := 60) hx hb dX7_init_15 (by decide) ?_
  refine va_newa (atype := .int) (ty := .int) (N' := 60) (a0 := (60, .inl (fun _ => 0))) hx hb (hts _ k65) rfl hK hP hD hS hA (fun _ => rfl) (by decide) (by decide) (Nat.le_of_ble_eq_true rfl) (Nat.le_of_ble_eq_true rfl) (Nat.le_of_ble_eq_true rfl) dX7_init_17 (fun q1 c2 H hK hP hD hS => ?_)
  have hK : va_K (dC, dI) vwCl [(c2, .int)] s := hK
  have hP : va_P (dC, dI) vwCl [(h0, .inr (7, [.int (-1), .int 0, .null, .null, .null])), (q1, .inl (c2, 60, .inl (fun _ => 0)))] H := hP
  have hD : va_D A [(h0, .inr (7, [.int (-1), .int 0, .null, .null, .null])), (q1, .inl (c2, 60, .inl (fun _ => 0)))] := hD
  refine W.widen (k := 1) (n := 60) (by omega) (by omega) ?_
  refine va_putF (D := (dC, dI)) (ci := 7) (v := .ref q1) (ty := .array .int) (C := RX7) (T := TX7) (N := 5) hx hb hts inG7 tyX7 tyX7_ok nmX7 hown hK hP hD hS 0 rfl rfl 2 (by decide) (hts _ k276) (fun _ h9 => h9) rfl hin rfl (by decide +kernel) rfl rfl (Nat.le_of_ble_eq_true rfl) dX7_init_19 (fun H locs hP hD hS => ?_)
  have hP : va_P (dC, dI) vwCl [(h0, .inr (7, [.int (-1), .int 0, .ref q1, .null, .null])), (q1, .inl (c2, 60, .inl (fun _ => 0)))] H := hP
  have hD : va_D A [(h0, .inr (7, [.int (-1), .int 0, .ref q1, .null, .null])), (q1, .inl (c2, 60, .inl (fun _ => 0)))] := hD
  refine lv_aload_n hx hb dX7_init_22 rfl (lv_at hl 0 rfl) ?_
  refine lv_sipush (v := 1100) hx hb dX7_init_23 (by decide) ?_
  refine va_newa (atype := .int) (ty := .int) (N' := 1100) (a0 := (1100, .inl (fun _ => 0))) hx hb (hts _ k65) rfl hK hP hD hS hA (fun _ => rfl) (by decide) (by decide) (Nat.le_of_ble_eq_true rfl) (Nat.le_of_ble_eq_true rfl) (Nat.le_of_ble_eq_true rfl) dX7_init_26 (fun q3 c4 H hK hP hD hS => ?_)
  have hK : va_K (dC, dI) vwCl [(c2, .int), (c4, .int)] s := hK
  have hP : va_P (dC, dI) vwCl [(h0, .inr (7, [.int (-1), .int 0, .ref q1, .null, .null])), (q1, .inl (c2, 60, .inl (fun _ => 0))), (q3, .inl (c4, 1100, .inl (fun _ => 0)))] H := hP
  have hD : va_D A [(h0, .inr (7, [.int (-1), .int 0, .ref q1, .null, .null])), (q1, .inl (c2, 60, .inl (fun _ => 0))), (q3, .inl (c4, 1100, .inl (fun _ => 0)))] := hD
  refine W.widen (k := 2) (n := 1160) (by omega) (by omega) ?_
  refine va_putF (D := (dC, dI)) (ci := 7) (v := .ref q3) (ty := .array .int) (C := RX7) (T := TX7) (N := 5) hx hb hts inG7 tyX7 tyX7_ok nmX7 hown hK hP hD hS 0 rfl rfl 3 (by decide) (hts _ k279) (fun _ h9 => h9) rfl hin rfl (by decide +kernel) rfl rfl (Nat.le_of_ble_eq_true rfl) dX7_init_28 (fun H locs hP hD hS => ?_)
  have hP : va_P (dC, dI) vwCl [(h0, .inr (7, [.int (-1), .int 0, .ref q1, .ref q3, .null])), (q1, .inl (c2, 60, .inl (fun _ => 0))), (q3, .inl (c4, 1100, .inl (fun _ => 0)))] H := hP
  have hD : va_D A [(h0, .inr (7, [.int (-1), .int 0, .ref q1, .ref q3, .null])), (q1, .inl (c2, 60, .inl (fun _ => 0))), (q3, .inl (c4, 1100, .inl (fun _ => 0)))] := hD
  refine lv_aload_n hx hb dX7_init_31 rfl (lv_at hl 0 rfl) ?_
  refine lv_sipush (v := 1100) hx hb dX7_init_32 (by decide) ?_
  refine va_newa (atype := .int) (ty := .int) (N' := 1100) (a0 := (1100, .inl (fun _ => 0))) hx hb (hts _ k65) rfl hK hP hD hS hA (fun _ => rfl) (by decide) (by decide) (Nat.le_of_ble_eq_true rfl) (Nat.le_of_ble_eq_true rfl) (Nat.le_of_ble_eq_true rfl) dX7_init_35 (fun q5 c6 H hK hP hD hS => ?_)
  have hK : va_K (dC, dI) vwCl [(c2, .int), (c4, .int), (c6, .int)] s := hK
  have hP : va_P (dC, dI) vwCl [(h0, .inr (7, [.int (-1), .int 0, .ref q1, .ref q3, .null])), (q1, .inl (c2, 60, .inl (fun _ => 0))), (q3, .inl (c4, 1100, .inl (fun _ => 0))), (q5, .inl (c6, 1100, .inl (fun _ => 0)))] H := hP
  have hD : va_D A [(h0, .inr (7, [.int (-1), .int 0, .ref q1, .ref q3, .null])), (q1, .inl (c2, 60, .inl (fun _ => 0))), (q3, .inl (c4, 1100, .inl (fun _ => 0))), (q5, .inl (c6, 1100, .inl (fun _ => 0)))] := hD
  refine W.widen (k := 3) (n := 2260) (by omega) (by omega) ?_
  refine va_putF (D := (dC, dI)) (ci := 7) (v := .ref q5) (ty := .array .int) (C := RX7) (T := TX7) (N := 5) hx hb hts inG7 tyX7 tyX7_ok nmX7 hown hK hP hD hS 0 rfl rfl 4 (by decide) (hts _ k282) (fun _ h9 => h9) rfl hin rfl (by decide +kernel) rfl rfl (Nat.le_of_ble_eq_true rfl) dX7_init_37 (fun H locs hP hD hS => ?_)
  have hP : va_P (dC, dI) vwCl [(h0, .inr (7, [.int (-1), .int 0, .ref q1, .ref q3, .ref q5])), (q1, .inl (c2, 60, .inl (fun _ => 0))), (q3, .inl (c4, 1100, .inl (fun _ => 0))), (q5, .inl (c6, 1100, .inl (fun _ => 0)))] H := hP
  have hD : va_D A [(h0, .inr (7, [.int (-1), .int 0, .ref q1, .ref q3, .ref q5])), (q1, .inl (c2, 60, .inl (fun _ => 0))), (q3, .inl (c4, 1100, .inl (fun _ => 0))), (q5, .inl (c6, 1100, .inl (fun _ => 0)))] := hD
  have hP9 := hP.sub (ws' := [(h0, .inr (7, [.int (-1), .int 0, .ref q1, .ref q3, .ref q5]))]) [0] rfl
  have hD9 := hD.sub (ws' := [(h0, .inr (7, [.int (-1), .int 0, .ref q1, .ref q3, .ref q5]))]) [0] (by decide) rfl
  have hK9 := hK.sub (tys' := []) [] rfl
  refine W.widen (k := 3) (n := 2260) (by omega) (by omega) ?_
  exact W.vret hx hb hr (fun t ht hW => ⟨⟨(), rfl, trivial, q1, q3, q5, by rw [ht]; exact hP9, va_K.moved hW.alike hK9, hD9⟩, hS.F ht⟩) hS.2.2 dX7_init_40
set_option maxHeartbeats 4000000 in
set_option maxRecDepth 100000 in
theorem c_Leaf_init (l : Launch) (dC : Nat → ClassId) (dI : Nat → Nat → Nat) (sz : Nat) (h0 : Nat)  : Met l yX1_init (Cond.code yX1_init cX1_init 1 none :: wsG) ({ frames := 2, cells := 14, slots := 3115, locals := 36 } : Room) (va_Pc [.ref h0] (fun U => U.heap.size = sz ∧ va_P (dC, dI) vwCl [(h0, .inr (1, [.null, .null, .int 0, .null, .null, .int 0, .null, .null]))] U.heap ∧ va_K (dC, dI) vwCl [] U ∧ va_D (fun _ => True) [(h0, .inr (1, [.null, .null, .int 0, .null, .null, .int 0, .null, .null]))] ∧ xN U)) (va_Qv (fun (_ : Unit) => True) (fun (_ : Unit) (t : State) => ∃ (q1 : Nat) (q3 : Nat) (q5 : Nat) (q11 : Nat) (q13 : Nat) (q17 : Nat), va_P (dC, dI) vwCl [(h0, .inr (1, [.ref q1, .ref q3, .int 0, .ref q5, .ref q11, .int 0, .ref q13, .ref q17]))] t.heap ∧ va_K (dC, dI) vwCl [] t ∧ va_D (va_A [(h0, .inr (1, [.null, .null, .int 0, .null, .null, .int 0, .null, .null]))] sz) [(h0, .inr (1, [.ref q1, .ref q3, .int 0, .ref q5, .ref q11, .int 0, .ref q13, .ref q17]))]) (va_A [(h0, .inr (1, [.null, .null, .int 0, .null, .null, .int 0, .null, .null]))] sz)) 14 3115 (va_A [(h0, .inr (1, [.null, .null, .int 0, .null, .null, .int 0, .null, .null]))] sz) := by
  refine Met.ofW (cc := cX1_init) (maxL := 1) (ret := none) (by decide) rfl ?_
  intro p e s m args below meth c s₁ B hml hv
  obtain ⟨rfl, hsz, hP, hK, hD0, hEx⟩ := hv
  have hx := B.exec
  have hb := B.bytes
  have hr := B.returns
  have hts : ∀ w ∈ wsG, w.before _ s = true := hG_of (atoms_spec (ws := (Cond.code yX1_init cX1_init 1 none :: wsG)) B.pre)
  have hown : s.vm.findClass RX1 = some m.cls := findClass_of_methodNamed B.named
  have hlocks := B.notSynchronized
  have hin : meth.name = "<init>" := (name_of_methodNamed B.named B.method).1
  subst hsz
  have hD := hD0.self (sz := s.heap.size)
  generalize hAe : va_A [(h0, .inr (1, [.null, .null, .int 0, .null, .null, .int 0, .null, .null]))] s.heap.size = A at hD ⊢
  have hA : ∀ q : Nat, s.heap.size ≤ q → A q := fun q h => by rw [← hAe]; exact Or.inr h
  have hS : va_S A s.heap s.heap [] := va_S.rf
  have hl := lv_entry ([.ref h0]) (n := 1) (Nat.le_of_ble_eq_true rfl)
  rw [lg_entry_eq]
  generalize (lg_sl ([.ref h0]) ++ List.replicate (1 - (lg_sl ([.ref h0])).length) Slot.unset).toArray = ls at hl ⊢
  have hl : lv_has ls 1 [(0, .ref h0)] := hl
  refine lv_aload_n hx hb dX1_init_0 rfl (lv_at hl 0 rfl) ?_
  refine W.objInit hx hb hown (hts _ k262) (hts _ k27) (hts _ k28) rfl (by rw [hml]; exact hl.1) rfl dX1_init_1 (Nat.le_of_ble_eq_true rfl) (Nat.le_of_ble_eq_true rfl) ?_
  refine W.eq (g2 := F0 m 4 ls []) rfl ?_
  refine lv_aload_n hx hb dX1_init_4 rfl (lv_at hl 0 rfl) ?_
  refine lv_bipush (v := 60) hx hb dX1_init_5 (by decide) ?_
  refine va_newa (atype := .int) (ty := .int) (N' := 60) (a0 := (60, .inl (fun _ => 0))) hx hb (hts _ k65) rfl hK hP hD hS hA (fun _ => rfl) (by decide) (by decide) (Nat.le_of_ble_eq_true rfl) (Nat.le_of_ble_eq_true rfl) (Nat.le_of_ble_eq_true rfl) dX1_init_7 (fun q1 c2 H hK hP hD hS => ?_)
  have hK : va_K (dC, dI) vwCl [(c2, .int)] s := hK
  have hP : va_P (dC, dI) vwCl [(h0, .inr (1, [.null, .null, .int 0, .null, .null, .int 0, .null, .null])), (q1, .inl (c2, 60, .inl (fun _ => 0)))] H := hP
  have hD : va_D A [(h0, .inr (1, [.null, .null, .int 0, .null, .null, .int 0, .null, .null])), (q1, .inl (c2, 60, .inl (fun _ => 0)))] := hD
  refine W.widen (k := 1) (n := 60) (by omega) (by omega) ?_
  refine va_putF (D := (dC, dI)) (ci := 1) (v := .ref q1) (ty := .array .int) (C := RX1) (T := TX1) (N := 8) hx hb hts inG1 tyX1 tyX1_ok nmX1 hown hK hP hD hS 0 rfl rfl 0 (by decide) (hts _ k296) (fun _ h9 => h9) rfl hin rfl (by decide +kernel) rfl rfl (Nat.le_of_ble_eq_true rfl) dX1_init_9 (fun H locs hP hD hS => ?_)
  have hP : va_P (dC, dI) vwCl [(h0, .inr (1, [.ref q1, .null, .int 0, .null, .null, .int 0, .null, .null])), (q1, .inl (c2, 60, .inl (fun _ => 0)))] H := hP
  have hD : va_D A [(h0, .inr (1, [.ref q1, .null, .int 0, .null, .null, .int 0, .null, .null])), (q1, .inl (c2, 60, .inl (fun _ => 0)))] := hD
  refine lv_aload_n hx hb dX1_init_12 rfl (lv_at hl 0 rfl) ?_
  refine lv_bipush (v := 60) hx hb dX1_init_13 (by decide) ?_
  refine va_newa (atype := .int) (ty := .int) (N' := 60) (a0 := (60, .inl (fun _ => 0))) hx hb (hts _ k65) rfl hK hP hD hS hA (fun _ => rfl) (by decide) (by decide) (Nat.le_of_ble_eq_true rfl) (Nat.le_of_ble_eq_true rfl) (Nat.le_of_ble_eq_true rfl) dX1_init_15 (fun q3 c4 H hK hP hD hS => ?_)
  have hK : va_K (dC, dI) vwCl [(c2, .int), (c4, .int)] s := hK
  have hP : va_P (dC, dI) vwCl [(h0, .inr (1, [.ref q1, .null, .int 0, .null, .null, .int 0, .null, .null])), (q1, .inl (c2, 60, .inl (fun _ => 0))), (q3, .inl (c4, 60, .inl (fun _ => 0)))] H := hP
  have hD : va_D A [(h0, .inr (1, [.ref q1, .null, .int 0, .null, .null, .int 0, .null, .null])), (q1, .inl (c2, 60, .inl (fun _ => 0))), (q3, .inl (c4, 60, .inl (fun _ => 0)))] := hD
  refine W.widen (k := 2) (n := 120) (by omega) (by omega) ?_
  refine va_putF (D := (dC, dI)) (ci := 1) (v := .ref q3) (ty := .array .int) (C := RX1) (T := TX1) (N := 8) hx hb hts inG1 tyX1 tyX1_ok nmX1 hown hK hP hD hS 0 rfl rfl 1 (by decide) (hts _ k298) (fun _ h9 => h9) rfl hin rfl (by decide +kernel) rfl rfl (Nat.le_of_ble_eq_true rfl) dX1_init_17 (fun H locs hP hD hS => ?_)
  have hP : va_P (dC, dI) vwCl [(h0, .inr (1, [.ref q1, .ref q3, .int 0, .null, .null, .int 0, .null, .null])), (q1, .inl (c2, 60, .inl (fun _ => 0))), (q3, .inl (c4, 60, .inl (fun _ => 0)))] H := hP
  have hD : va_D A [(h0, .inr (1, [.ref q1, .ref q3, .int 0, .null, .null, .int 0, .null, .null])), (q1, .inl (c2, 60, .inl (fun _ => 0))), (q3, .inl (c4, 60, .inl (fun _ => 0)))] := hD
  refine lv_aload_n hx hb dX1_init_20 rfl (lv_at hl 0 rfl) ?_
  refine lv_iconst (v := 0) hx hb dX1_init_21 (by decide) ?_
  refine va_put (D := (dC, dI)) (ci := 1) (v := .int 0) (ty := .int) (C := RX1) (T := TX1) (N := 8) hx hb hts inG1 tyX1 tyX1_ok nmX1 hown hK hP hD hS 0 rfl rfl 2 (by decide) (hts _ k300) (fun _ h9 => h9) rfl (by decide +kernel) rfl rfl (Nat.le_of_ble_eq_true rfl) dX1_init_22 (fun H locs hP hD hS => ?_)
  have hP : va_P (dC, dI) vwCl [(h0, .inr (1, [.ref q1, .ref q3, .int 0, .null, .null, .int 0, .null, .null])), (q1, .inl (c2, 60, .inl (fun _ => 0))), (q3, .inl (c4, 60, .inl (fun _ => 0)))] H := hP
  have hD : va_D A [(h0, .inr (1, [.ref q1, .ref q3, .int 0, .null, .null, .int 0, .null, .null])), (q1, .inl (c2, 60, .inl (fun _ => 0))), (q3, .inl (c4, 60, .inl (fun _ => 0)))] := hD
  refine lv_aload_n hx hb dX1_init_25 rfl (lv_at hl 0 rfl) ?_
  refine va_new (ci := 4) (fs := [.null, .null, .null, .null, .null, .int 0, .int 0, .int 0]) (C := RX4) (T := TX4) (N := 8) hx hb hts inG4 tyX4 tyX4_ok hown (hts _ k263) (hts _ k69) (hts _ k3) hK hP hD hS hA rfl (fun j hj => by rcases (show j = 0 ∨ j = 1 ∨ j = 2 ∨ j = 3 ∨ j = 4 ∨ j = 5 ∨ j = 6 ∨ j = 7 by omega) with rfl | rfl | rfl | rfl | rfl | rfl | rfl | rfl <;> rfl) (Nat.le_of_ble_eq_true rfl) (Nat.le_of_ble_eq_true rfl) dX1_init_26 (fun q5 H hP hD hS => ?_)
  have hP : va_P (dC, dI) vwCl [(h0, .inr (1, [.ref q1, .ref q3, .int 0, .null, .null, .int 0, .null, .null])), (q1, .inl (c2, 60, .inl (fun _ => 0))), (q3, .inl (c4, 60, .inl (fun _ => 0))), (q5, .inr (4, [.null, .null, .null, .null, .null, .int 0, .int 0, .int 0]))] H := hP
  have hD : va_D A [(h0, .inr (1, [.ref q1, .ref q3, .int 0, .null, .null, .int 0, .null, .null])), (q1, .inl (c2, 60, .inl (fun _ => 0))), (q3, .inl (c4, 60, .inl (fun _ => 0))), (q5, .inr (4, [.null, .null, .null, .null, .null, .int 0, .int 0, .int 0]))] := hD
  refine W.widen (k := 3) (n := 128) (by omega) (by omega) ?_
  refine lv_dup hx hb dX1_init_29 rfl ?_
  refine lv_bipush (v := 96) hx hb dX1_init_30 (by decide) ?_
  have hPc := hP.sub (ws' := [(q5, .inr (4, [.null, .null, .null, .null, .null, .int 0, .int 0, .int 0]))]) [3] rfl
  have hDc := hD.sub (ws' := [(q5, .inr (4, [.null, .null, .null, .null, .null, .int 0, .int 0, .int 0]))]) [3] (by decide) rfl
  have hKc := hK.sub (tys' := []) [] rfl
  have hFc := va_free (wc := [(q5, .inr (4, [.null, .null, .null, .null, .null, .int 0, .int 0, .int 0]))]) hD hS hA [3] rfl
  refine va_callv (va_runI (As := [.int 96]) (rest := [.ref q5, .ref h0]) ⟨hx, hb, hml, hown, hts⟩ (c_Row96_init l dC dI H.size (q5)) (cwI 1 hts (gI_G k72) rfl rfl rfl (hts _ k3) (hts _ k264) (hts _ k71) rfl (by decide +kernel) ⟨Nat.le_of_ble_eq_true rfl, Nat.le_of_ble_eq_true rfl⟩) ⟨fun a U g mk q => by obtain ⟨q0, q1, qP, qK, qD⟩ := q; exact ⟨q0, q1, qP, va_K.moved (u := U) (U := U.calling g mk a) (Vm.Alike.refl U.vm) qK, qD⟩, fun U hU hW => ⟨rfl, by rw [hU], by rw [hU]; exact hPc, va_K.moved hW.alike hKc, hDc.weaken (fun _ _ _ _ => trivial)⟩⟩ rfl rfl hl.1 rfl (lv_room (Nat.le_of_ble_eq_true rfl)) dX1_init_32 ⟨Nat.le_of_ble_eq_true rfl, Nat.le_of_ble_eq_true rfl⟩) hS (fun q _ h => hFc q h) hFc (fun u t H1 locs ht hvm hw hB hz1 hk1 hS => ?_)
  obtain ⟨q6, q7, q8, q9, q10, hP1, hK1, hD1⟩ := hB
  rw [ht] at hP1
  have hK1 := va_K.moved hvm.symm hK1
  try dsimp only at hw
  obtain ⟨hP, hD⟩ := va_join (wr := [(h0, .inr (1, [.ref q1, .ref q3, .int 0, .null, .null, .int 0, .null, .null])), (q1, .inl (c2, 60, .inl (fun _ => 0))), (q3, .inl (c4, 60, .inl (fun _ => 0)))]) (w1 := [(q5, .inr (4, [.ref q6, .ref q7, .ref q8, .ref q9, .ref q10, .int 0, .int 0, .int 0]))]) hP hD [3] [0, 1, 2] rfl rfl (by decide) (by decide) hk1 hFc hP1 hD1
  have hK := hK.app hK1
  generalize H1 = H at hP hS ⊢
  have hP : va_P (dC, dI) vwCl [(h0, .inr (1, [.ref q1, .ref q3, .int 0, .null, .null, .int 0, .null, .null])), (q1, .inl (c2, 60, .inl (fun _ => 0))), (q3, .inl (c4, 60, .inl (fun _ => 0))), (q5, .inr (4, [.ref q6, .ref q7, .ref q8, .ref q9, .ref q10, .int 0, .int 0, .int 0]))] H := hP
  have hD : va_D A [(h0, .inr (1, [.ref q1, .ref q3, .int 0, .null, .null, .int 0, .null, .null])), (q1, .inl (c2, 60, .inl (fun _ => 0))), (q3, .inl (c4, 60, .inl (fun _ => 0))), (q5, .inr (4, [.ref q6, .ref q7, .ref q8, .ref q9, .ref q10, .int 0, .int 0, .int 0]))] := hD
  have hK : va_K (dC, dI) vwCl [(c2, .int), (c4, .int)] s := hK
  refine W.widen (k := 8) (n := 609) (by omega) (by omega) ?_
  refine va_putF (D := (dC, dI)) (ci := 1) (v := .ref q5) (ty := .object "PageSkeleton$Row") (C := RX1) (T := TX1) (N := 8) hx hb hts inG1 tyX1 tyX1_ok nmX1 hown hK hP hD hS 0 rfl rfl 3 (by decide) (hts _ k302) (fun _ h9 => h9) rfl hin rfl (by decide +kernel) rfl rfl (Nat.le_of_ble_eq_true rfl) dX1_init_35 (fun H locs hP hD hS => ?_)
  have hP : va_P (dC, dI) vwCl [(h0, .inr (1, [.ref q1, .ref q3, .int 0, .ref q5, .null, .int 0, .null, .null])), (q1, .inl (c2, 60, .inl (fun _ => 0))), (q3, .inl (c4, 60, .inl (fun _ => 0))), (q5, .inr (4, [.ref q6, .ref q7, .ref q8, .ref q9, .ref q10, .int 0, .int 0, .int 0]))] H := hP
  have hD : va_D A [(h0, .inr (1, [.ref q1, .ref q3, .int 0, .ref q5, .null, .int 0, .null, .null])), (q1, .inl (c2, 60, .inl (fun _ => 0))), (q3, .inl (c4, 60, .inl (fun _ => 0))), (q5, .inr (4, [.ref q6, .ref q7, .ref q8, .ref q9, .ref q10, .int 0, .int 0, .int 0]))] := hD
  refine lv_aload_n hx hb dX1_init_38 rfl (lv_at hl 0 rfl) ?_
  refine lv_sipush (v := 180) hx hb dX1_init_39 (by decide) ?_
  refine va_newa (atype := .int) (ty := .int) (N' := 180) (a0 := (180, .inl (fun _ => 0))) hx hb (hts _ k65) rfl hK hP hD hS hA (fun _ => rfl) (by decide) (by decide) (Nat.le_of_ble_eq_true rfl) (Nat.le_of_ble_eq_true rfl) (Nat.le_of_ble_eq_true rfl) dX1_init_42 (fun q11 c12 H hK hP hD hS => ?_)
  have hK : va_K (dC, dI) vwCl [(c2, .int), (c4, .int), (c12, .int)] s := hK
  have hP : va_P (dC, dI) vwCl [(h0, .inr (1, [.ref q1, .ref q3, .int 0, .ref q5, .null, .int 0, .null, .null])), (q1, .inl (c2, 60, .inl (fun _ => 0))), (q3, .inl (c4, 60, .inl (fun _ => 0))), (q5, .inr (4, [.ref q6, .ref q7, .ref q8, .ref q9, .ref q10, .int 0, .int 0, .int 0])), (q11, .inl (c12, 180, .inl (fun _ => 0)))] H := hP
  have hD : va_D A [(h0, .inr (1, [.ref q1, .ref q3, .int 0, .ref q5, .null, .int 0, .null, .null])), (q1, .inl (c2, 60, .inl (fun _ => 0))), (q3, .inl (c4, 60, .inl (fun _ => 0))), (q5, .inr (4, [.ref q6, .ref q7, .ref q8, .ref q9, .ref q10, .int 0, .int 0, .int 0])), (q11, .inl (c12, 180, .inl (fun _ => 0)))] := hD
  refine W.widen (k := 9) (n := 789) (by omega) (by omega) ?_
  refine va_putF (D := (dC, dI)) (ci := 1) (v := .ref q11) (ty := .array .int) (C := RX1) (T := TX1) (N := 8) hx hb hts inG1 tyX1 tyX1_ok nmX1 hown hK hP hD hS 0 rfl rfl 4 (by decide) (hts _ k305) (fun _ h9 => h9) rfl hin rfl (by decide +kernel) rfl rfl (Nat.le_of_ble_eq_true rfl) dX1_init_44 (fun H locs hP hD hS => ?_)
  have hP : va_P (dC, dI) vwCl [(h0, .inr (1, [.ref q1, .ref q3, .int 0, .ref q5, .ref q11, .int 0, .null, .null])), (q1, .inl (c2, 60, .inl (fun _ => 0))), (q3, .inl (c4, 60, .inl (fun _ => 0))), (q5, .inr (4, [.ref q6, .ref q7, .ref q8, .ref q9, .ref q10, .int 0, .int 0, .int 0])), (q11, .inl (c12, 180, .inl (fun _ => 0)))] H := hP
  have hD : va_D A [(h0, .inr (1, [.ref q1, .ref q3, .int 0, .ref q5, .ref q11, .int 0, .null, .null])), (q1, .inl (c2, 60, .inl (fun _ => 0))), (q3, .inl (c4, 60, .inl (fun _ => 0))), (q5, .inr (4, [.ref q6, .ref q7, .ref q8, .ref q9, .ref q10, .int 0, .int 0, .int 0])), (q11, .inl (c12, 180, .inl (fun _ => 0)))] := hD
  refine lv_aload_n hx hb dX1_init_47 rfl (lv_at hl 0 rfl) ?_
  refine lv_iconst (v := 0) hx hb dX1_init_48 (by decide) ?_
  refine va_put (D := (dC, dI)) (ci := 1) (v := .int 0) (ty := .int) (C := RX1) (T := TX1) (N := 8) hx hb hts inG1 tyX1 tyX1_ok nmX1 hown hK hP hD hS 0 rfl rfl 5 (by decide) (hts _ k307) (fun _ h9 => h9) rfl (by decide +kernel) rfl rfl (Nat.le_of_ble_eq_true rfl) dX1_init_49 (fun H locs hP hD hS => ?_)
  have hP : va_P (dC, dI) vwCl [(h0, .inr (1, [.ref q1, .ref q3, .int 0, .ref q5, .ref q11, .int 0, .null, .null])), (q1, .inl (c2, 60, .inl (fun _ => 0))), (q3, .inl (c4, 60, .inl (fun _ => 0))), (q5, .inr (4, [.ref q6, .ref q7, .ref q8, .ref q9, .ref q10, .int 0, .int 0, .int 0])), (q11, .inl (c12, 180, .inl (fun _ => 0)))] H := hP
  have hD : va_D A [(h0, .inr (1, [.ref q1, .ref q3, .int 0, .ref q5, .ref q11, .int 0, .null, .null])), (q1, .inl (c2, 60, .inl (fun _ => 0))), (q3, .inl (c4, 60, .inl (fun _ => 0))), (q5, .inr (4, [.ref q6, .ref q7, .ref q8, .ref q9, .ref q10, .int 0, .int 0, .int 0])), (q11, .inl (c12, 180, .inl (fun _ => 0)))] := hD
  refine lv_aload_n hx hb dX1_init_52 rfl (lv_at hl 0 rfl) ?_
  refine va_new (ci := 7) (fs := [.int 0, .int 0, .null, .null, .null]) (C := RX7) (T := TX7) (N := 5) hx hb hts inG7 tyX7 tyX7_ok hown (hts _ k265) (hts _ k266) (hts _ k11) hK hP hD hS hA rfl (fun j hj => by rcases (show j = 0 ∨ j = 1 ∨ j = 2 ∨ j = 3 ∨ j = 4 by omega) with rfl | rfl | rfl | rfl | rfl <;> rfl) (Nat.le_of_ble_eq_true rfl) (Nat.le_of_ble_eq_true rfl) dX1_init_53 (fun q13 H hP hD hS => ?_)
  have hP : va_P (dC, dI) vwCl [(h0, .inr (1, [.ref q1, .ref q3, .int 0, .ref q5, .ref q11, .int 0, .null, .null])), (q1, .inl (c2, 60, .inl (fun _ => 0))), (q3, .inl (c4, 60, .inl (fun _ => 0))), (q5, .inr (4, [.ref q6, .ref q7, .ref q8, .ref q9, .ref q10, .int 0, .int 0, .int 0])), (q11, .inl (c12, 180, .inl (fun _ => 0))), (q13, .inr (7, [.int 0, .int 0, .null, .null, .null]))] H := hP
  have hD : va_D A [(h0, .inr (1, [.ref q1, .ref q3, .int 0, .ref q5, .ref q11, .int 0, .null, .null])), (q1, .inl (c2, 60, .inl (fun _ => 0))), (q3, .inl (c4, 60, .inl (fun _ => 0))), (q5, .inr (4, [.ref q6, .ref q7, .ref q8, .ref q9, .ref q10, .int 0, .int 0, .int 0])), (q11, .inl (c12, 180, .inl (fun _ => 0))), (q13, .inr (7, [.int 0, .int 0, .null, .null, .null]))] := hD
  refine W.widen (k := 10) (n := 794) (by omega) (by omega) ?_
  refine lv_dup hx hb dX1_init_56 rfl ?_
  have hPc := hP.sub (ws' := [(q13, .inr (7, [.int 0, .int 0, .null, .null, .null]))]) [5] rfl
  have hDc := hD.sub (ws' := [(q13, .inr (7, [.int 0, .int 0, .null, .null, .null]))]) [5] (by decide) rfl
  have hKc := hK.sub (tys' := []) [] rfl
  have hFc := va_free (wc := [(q13, .inr (7, [.int 0, .int 0, .null, .null, .null]))]) hD hS hA [5] rfl
  refine va_callv (va_runIN (As := []) (rest := [.ref q13, .ref h0]) ⟨hx, hb, hml, hown, hts⟩ (c_Walk_init l dC dI H.size (q13)) ⟨va_cnB (host := "PageSkeleton") 0 hts (gI_G k269) rfl rfl rfl (xN_nest hEx 6 rfl) (hts _ k11) (by decide +kernel) ⟨Nat.le_of_ble_eq_true rfl, Nat.le_of_ble_eq_true rfl⟩, rfl, hts _ k268⟩ ⟨fun a U g mk q => by obtain ⟨q0, q1, qP, qK, qD⟩ := q; exact ⟨q0, q1, qP, va_K.moved (u := U) (U := U.calling g mk a) (Vm.Alike.refl U.vm) qK, qD⟩, fun U hU hW => ⟨rfl, by rw [hU], by rw [hU]; exact hPc, va_K.moved hW.alike hKc, hDc.weaken (fun _ _ _ _ => trivial)⟩⟩ rfl rfl hl.1 rfl (lv_room (Nat.le_of_ble_eq_true rfl)) dX1_init_57 ⟨Nat.le_of_ble_eq_true rfl, Nat.le_of_ble_eq_true rfl⟩) hS (fun q _ h => hFc q h) hFc (fun u t H1 locs ht hvm hw hB hz1 hk1 hS => ?_)
  obtain ⟨q14, q15, q16, hP1, hK1, hD1⟩ := hB
  rw [ht] at hP1
  have hK1 := va_K.moved hvm.symm hK1
  try dsimp only at hw
  obtain ⟨hP, hD⟩ := va_join (wr := [(h0, .inr (1, [.ref q1, .ref q3, .int 0, .ref q5, .ref q11, .int 0, .null, .null])), (q1, .inl (c2, 60, .inl (fun _ => 0))), (q3, .inl (c4, 60, .inl (fun _ => 0))), (q5, .inr (4, [.ref q6, .ref q7, .ref q8, .ref q9, .ref q10, .int 0, .int 0, .int 0])), (q11, .inl (c12, 180, .inl (fun _ => 0)))]) (w1 := [(q13, .inr (7, [.int (-1), .int 0, .ref q14, .ref q15, .ref q16]))]) hP hD [5] [0, 1, 2, 3, 4] rfl rfl (by decide) (by decide) hk1 hFc hP1 hD1
  have hK := hK.app hK1
  generalize H1 = H at hP hS ⊢
  have hP : va_P (dC, dI) vwCl [(h0, .inr (1, [.ref q1, .ref q3, .int 0, .ref q5, .ref q11, .int 0, .null, .null])), (q1, .inl (c2, 60, .inl (fun _ => 0))), (q3, .inl (c4, 60, .inl (fun _ => 0))), (q5, .inr (4, [.ref q6, .ref q7, .ref q8, .ref q9, .ref q10, .int 0, .int 0, .int 0])), (q11, .inl (c12, 180, .inl (fun _ => 0))), (q13, .inr (7, [.int (-1), .int 0, .ref q14, .ref q15, .ref q16]))] H := hP
  have hD : va_D A [(h0, .inr (1, [.ref q1, .ref q3, .int 0, .ref q5, .ref q11, .int 0, .null, .null])), (q1, .inl (c2, 60, .inl (fun _ => 0))), (q3, .inl (c4, 60, .inl (fun _ => 0))), (q5, .inr (4, [.ref q6, .ref q7, .ref q8, .ref q9, .ref q10, .int 0, .int 0, .int 0])), (q11, .inl (c12, 180, .inl (fun _ => 0))), (q13, .inr (7, [.int (-1), .int 0, .ref q14, .ref q15, .ref q16]))] := hD
  have hK : va_K (dC, dI) vwCl [(c2, .int), (c4, .int), (c12, .int)] s := hK
  refine W.widen (k := 13) (n := 3054) (by omega) (by omega) ?_
  refine va_putF (D := (dC, dI)) (ci := 1) (v := .ref q13) (ty := .object "PageSkeleton$Walk") (C := RX1) (T := TX1) (N := 8) hx hb hts inG1 tyX1 tyX1_ok nmX1 hown hK hP hD hS 0 rfl rfl 6 (by decide) (hts _ k309) (fun _ h9 => h9) rfl hin rfl (by decide +kernel) rfl rfl (Nat.le_of_ble_eq_true rfl) dX1_init_60 (fun H locs hP hD hS => ?_)
  have hP : va_P (dC, dI) vwCl [(h0, .inr (1, [.ref q1, .ref q3, .int 0, .ref q5, .ref q11, .int 0, .ref q13, .null])), (q1, .inl (c2, 60, .inl (fun _ => 0))), (q3, .inl (c4, 60, .inl (fun _ => 0))), (q5, .inr (4, [.ref q6, .ref q7, .ref q8, .ref q9, .ref q10, .int 0, .int 0, .int 0])), (q11, .inl (c12, 180, .inl (fun _ => 0))), (q13, .inr (7, [.int (-1), .int 0, .ref q14, .ref q15, .ref q16]))] H := hP
  have hD : va_D A [(h0, .inr (1, [.ref q1, .ref q3, .int 0, .ref q5, .ref q11, .int 0, .ref q13, .null])), (q1, .inl (c2, 60, .inl (fun _ => 0))), (q3, .inl (c4, 60, .inl (fun _ => 0))), (q5, .inr (4, [.ref q6, .ref q7, .ref q8, .ref q9, .ref q10, .int 0, .int 0, .int 0])), (q11, .inl (c12, 180, .inl (fun _ => 0))), (q13, .inr (7, [.int (-1), .int 0, .ref q14, .ref q15, .ref q16]))] := hD
  refine lv_aload_n hx hb dX1_init_63 rfl (lv_at hl 0 rfl) ?_
  refine lv_bipush (v := 61) hx hb dX1_init_64 (by decide) ?_
  refine va_newa (atype := .int) (ty := .int) (N' := 61) (a0 := (61, .inl (fun _ => 0))) hx hb (hts _ k65) rfl hK hP hD hS hA (fun _ => rfl) (by decide) (by decide) (Nat.le_of_ble_eq_true rfl) (Nat.le_of_ble_eq_true rfl) (Nat.le_of_ble_eq_true rfl) dX1_init_66 (fun q17 c18 H hK hP hD hS => ?_)
  have hK : va_K (dC, dI) vwCl [(c2, .int), (c4, .int), (c12, .int), (c18, .int)] s := hK
  have hP : va_P (dC, dI) vwCl [(h0, .inr (1, [.ref q1, .ref q3, .int 0, .ref q5, .ref q11, .int 0, .ref q13, .null])), (q1, .inl (c2, 60, .inl (fun _ => 0))), (q3, .inl (c4, 60, .inl (fun _ => 0))), (q5, .inr (4, [.ref q6, .ref q7, .ref q8, .ref q9, .ref q10, .int 0, .int 0, .int 0])), (q11, .inl (c12, 180, .inl (fun _ => 0))), (q13, .inr (7, [.int (-1), .int 0, .ref q14, .ref q15, .ref q16])), (q17, .inl (c18, 61, .inl (fun _ => 0)))] H := hP
  have hD : va_D A [(h0, .inr (1, [.ref q1, .ref q3, .int 0, .ref q5, .ref q11, .int 0, .ref q13, .null])), (q1, .inl (c2, 60, .inl (fun _ => 0))), (q3, .inl (c4, 60, .inl (fun _ => 0))), (q5, .inr (4, [.ref q6, .ref q7, .ref q8, .ref q9, .ref q10, .int 0, .int 0, .int 0])), (q11, .inl (c12, 180, .inl (fun _ => 0))), (q13, .inr (7, [.int (-1), .int 0, .ref q14, .ref q15, .ref q16])), (q17, .inl (c18, 61, .inl (fun _ => 0)))] := hD
  refine W.widen (k := 14) (n := 3115) (by omega) (by omega) ?_
  refine va_putF (D := (dC, dI)) (ci := 1) (v := .ref q17) (ty := .array .int) (C := RX1) (T := TX1) (N := 8) hx hb hts inG1 tyX1 tyX1_ok nmX1 hown hK hP hD hS 0 rfl rfl 7 (by decide) (hts _ k311) (fun _ h9 => h9) rfl hin rfl (by decide +kernel) rfl rfl (Nat.le_of_ble_eq_true rfl) dX1_init_68 (fun H locs hP hD hS => ?_)
  have hP : va_P (dC, dI) vwCl [(h0, .inr (1, [.ref q1, .ref q3, .int 0, .ref q5, .ref q11, .int 0, .ref q13, .ref q17])), (q1, .inl (c2, 60, .inl (fun _ => 0))), (q3, .inl (c4, 60, .inl (fun _ => 0))), (q5, .inr (4, [.ref q6, .ref q7, .ref q8, .ref q9, .ref q10, .int 0, .int 0, .int 0])), (q11, .inl (c12, 180, .inl (fun _ => 0))), (q13, .inr (7, [.int (-1), .int 0, .ref q14, .ref q15, .ref q16])), (q17, .inl (c18, 61, .inl (fun _ => 0)))] H := hP
  have hD : va_D A [(h0, .inr (1, [.ref q1, .ref q3, .int 0, .ref q5, .ref q11, .int 0, .ref q13, .ref q17])), (q1, .inl (c2, 60, .inl (fun _ => 0))), (q3, .inl (c4, 60, .inl (fun _ => 0))), (q5, .inr (4, [.ref q6, .ref q7, .ref q8, .ref q9, .ref q10, .int 0, .int 0, .int 0])), (q11, .inl (c12, 180, .inl (fun _ => 0))), (q13, .inr (7, [.int (-1), .int 0, .ref q14, .ref q15, .ref q16])), (q17, .inl (c18, 61, .inl (fun _ => 0)))] := hD
  have hP9 := hP.sub (ws' := [(h0, .inr (1, [.ref q1, .ref q3, .int 0, .ref q5, .ref q11, .int 0, .ref q13, .ref q17]))]) [0] rfl
  have hD9 := hD.sub (ws' := [(h0, .inr (1, [.ref q1, .ref q3, .int 0, .ref q5, .ref q11, .int 0, .ref q13, .ref q17]))]) [0] (by decide) rfl
  have hK9 := hK.sub (tys' := []) [] rfl
  refine W.widen (k := 14) (n := 3115) (by omega) (by omega) ?_
  exact W.vret hx hb hr (fun t ht hW => ⟨⟨(), rfl, trivial, q1, q3, q5, q11, q13, q17, by rw [ht]; exact hP9, va_K.moved hW.alike hK9, hD9⟩, hS.F ht⟩) hS.2.2 dX1_init_71
set_option maxHeartbeats 4000000 in
set_option maxRecDepth 100000 in
theorem c_Past_init (l : Launch) (dC : Nat → ClassId) (dI : Nat → Nat → Nat) (sz : Nat) (h0 : Nat)  : Met l yX3_init (Cond.code yX3_init cX3_init 1 none :: wsG) ({ frames := 1, cells := 19, slots := 17648, locals := 14 } : Room) (va_Pc [.ref h0] (fun U => U.heap.size = sz ∧ va_P (dC, dI) vwCl [(h0, .inr (3, [.null, .null, .null, .int 0, .int 0]))] U.heap ∧ va_K (dC, dI) vwCl [] U ∧ va_D (fun _ => True) [(h0, .inr (3, [.null, .null, .null, .int 0, .int 0]))] ∧ xN U)) (va_Qv (fun (_ : Unit) => True) (fun (_ : Unit) (t : State) => ∃ (q1 : Nat) (q2 : Nat) (q4 : Nat), va_P (dC, dI) vwCl [(h0, .inr (3, [.ref q1, .ref q2, .ref q4, .int 0, .int 0]))] t.heap ∧ va_K (dC, dI) vwCl [] t ∧ va_D (va_A [(h0, .inr (3, [.null, .null, .null, .int 0, .int 0]))] sz) [(h0, .inr (3, [.ref q1, .ref q2, .ref q4, .int 0, .int 0]))]) (va_A [(h0, .inr (3, [.null, .null, .null, .int 0, .int 0]))] sz)) 19 17648 (va_A [(h0, .inr (3, [.null, .null, .null, .int 0, .int 0]))] sz) := by
  refine Met.ofW (cc := cX3_init) (maxL := 1) (ret := none) (by decide) rfl ?_
  intro p e s m args below meth c s₁ B hml hv
  obtain ⟨rfl, hsz, hP, hK, hD0, hEx⟩ := hv
  have hx := B.exec
  have hb := B.bytes
  have hr := B.returns
  have hts : ∀ w ∈ wsG, w.before _ s = true := hG_of (atoms_spec (ws := (Cond.code yX3_init cX3_init 1 none :: wsG)) B.pre)
  have hown : s.vm.findClass RX3 = some m.cls := findClass_of_methodNamed B.named
  have hlocks := B.notSynchronized
  have hin : meth.name = "<init>" := (name_of_methodNamed B.named B.method).1
  subst hsz
  have hD := hD0.self (sz := s.heap.size)
  generalize hAe : va_A [(h0, .inr (3, [.null, .null, .null, .int 0, .int 0]))] s.heap.size = A at hD ⊢
  have hA : ∀ q : Nat, s.heap.size ≤ q → A q := fun q h => by rw [← hAe]; exact Or.inr h
  have hS : va_S A s.heap s.heap [] := va_S.rf
  have hl := lv_entry ([.ref h0]) (n := 1) (Nat.le_of_ble_eq_true rfl)
  rw [lg_entry_eq]
  generalize (lg_sl ([.ref h0]) ++ List.replicate (1 - (lg_sl ([.ref h0])).length) Slot.unset).toArray = ls at hl ⊢
  have hl : lv_has ls 1 [(0, .ref h0)] := hl
  refine lv_aload_n hx hb dX3_init_0 rfl (lv_at hl 0 rfl) ?_
  refine W.objInit hx hb hown (hts _ k127) (hts _ k27) (hts _ k28) rfl (by rw [hml]; exact hl.1) rfl dX3_init_1 (Nat.le_of_ble_eq_true rfl) (Nat.le_of_ble_eq_true rfl) ?_
  refine W.eq (g2 := F0 m 4 ls []) rfl ?_
  refine lv_aload_n hx hb dX3_init_4 rfl (lv_at hl 0 rfl) ?_
  refine lv_bipush (v := 16) hx hb dX3_init_5 (by decide) ?_
  refine lv_sipush (v := 1100) hx hb dX3_init_7 (by decide) ?_
  refine va_mnX2 (kc := 17) (ks := 17616) hx hb hown (hts _ k128) hEx.2.1 hP hS (by decide +kernel) (by decide +kernel) (by decide +kernel) (Nat.le_of_ble_eq_true rfl) (Nat.le_of_ble_eq_true rfl) dX3_init_10 (fun q1 H hP hS => ?_)
  refine W.widen (k := 17) (n := 17616) (by omega) (by omega) ?_
  refine va_putF (D := (dC, dI)) (ci := 3) (v := .ref q1) (ty := .array (.array .int)) (C := RX3) (T := TX3) (N := 5) hx hb hts inG3 tyX3 tyX3_ok nmX3 hown hK hP hD hS 0 rfl rfl 0 (by decide) (hts _ k130) (fun _ h9 => h9) rfl hin rfl (by decide +kernel) rfl rfl (Nat.le_of_ble_eq_true rfl) dX3_init_14 (fun H locs hP hD hS => ?_)
  have hP : va_P (dC, dI) vwCl [(h0, .inr (3, [.ref q1, .null, .null, .int 0, .int 0]))] H := hP
  have hD : va_D A [(h0, .inr (3, [.ref q1, .null, .null, .int 0, .int 0]))] := hD
  refine lv_aload_n hx hb dX3_init_17 rfl (lv_at hl 0 rfl) ?_
  refine lv_bipush (v := 16) hx hb dX3_init_18 (by decide) ?_
  refine va_newa (atype := .int) (ty := .int) (N' := 16) (a0 := (16, .inl (fun _ => 0))) hx hb (hts _ k65) rfl hK hP hD hS hA (fun _ => rfl) (by decide) (by decide) (Nat.le_of_ble_eq_true rfl) (Nat.le_of_ble_eq_true rfl) (Nat.le_of_ble_eq_true rfl) dX3_init_20 (fun q2 c3 H hK hP hD hS => ?_)
  have hK : va_K (dC, dI) vwCl [(c3, .int)] s := hK
  have hP : va_P (dC, dI) vwCl [(h0, .inr (3, [.ref q1, .null, .null, .int 0, .int 0])), (q2, .inl (c3, 16, .inl (fun _ => 0)))] H := hP
  have hD : va_D A [(h0, .inr (3, [.ref q1, .null, .null, .int 0, .int 0])), (q2, .inl (c3, 16, .inl (fun _ => 0)))] := hD
  refine W.widen (k := 18) (n := 17632) (by omega) (by omega) ?_
  refine va_putF (D := (dC, dI)) (ci := 3) (v := .ref q2) (ty := .array .int) (C := RX3) (T := TX3) (N := 5) hx hb hts inG3 tyX3 tyX3_ok nmX3 hown hK hP hD hS 0 rfl rfl 1 (by decide) (hts _ k131) (fun _ h9 => h9) rfl hin rfl (by decide +kernel) rfl rfl (Nat.le_of_ble_eq_true rfl) dX3_init_22 (fun H locs hP hD hS => ?_)
  have hP : va_P (dC, dI) vwCl [(h0, .inr (3, [.ref q1, .ref q2, .null, .int 0, .int 0])), (q2, .inl (c3, 16, .inl (fun _ => 0)))] H := hP
  have hD : va_D A [(h0, .inr (3, [.ref q1, .ref q2, .null, .int 0, .int 0])), (q2, .inl (c3, 16, .inl (fun _ => 0)))] := hD
  refine lv_aload_n hx hb dX3_init_25 rfl (lv_at hl 0 rfl) ?_
  refine lv_bipush (v := 16) hx hb dX3_init_26 (by decide) ?_
  refine va_newa (atype := .int) (ty := .int) (N' := 16) (a0 := (16, .inl (fun _ => 0))) hx hb (hts _ k65) rfl hK hP hD hS hA (fun _ => rfl) (by decide) (by decide) (Nat.le_of_ble_eq_true rfl) (Nat.le_of_ble_eq_true rfl) (Nat.le_of_ble_eq_true rfl) dX3_init_28 (fun q4 c5 H hK hP hD hS => ?_)
  have hK : va_K (dC, dI) vwCl [(c3, .int), (c5, .int)] s := hK
  have hP : va_P (dC, dI) vwCl [(h0, .inr (3, [.ref q1, .ref q2, .null, .int 0, .int 0])), (q2, .inl (c3, 16, .inl (fun _ => 0))), (q4, .inl (c5, 16, .inl (fun _ => 0)))] H := hP
  have hD : va_D A [(h0, .inr (3, [.ref q1, .ref q2, .null, .int 0, .int 0])), (q2, .inl (c3, 16, .inl (fun _ => 0))), (q4, .inl (c5, 16, .inl (fun _ => 0)))] := hD
  refine W.widen (k := 19) (n := 17648) (by omega) (by omega) ?_
  refine va_putF (D := (dC, dI)) (ci := 3) (v := .ref q4) (ty := .array .int) (C := RX3) (T := TX3) (N := 5) hx hb hts inG3 tyX3 tyX3_ok nmX3 hown hK hP hD hS 0 rfl rfl 2 (by decide) (hts _ k132) (fun _ h9 => h9) rfl hin rfl (by decide +kernel) rfl rfl (Nat.le_of_ble_eq_true rfl) dX3_init_30 (fun H locs hP hD hS => ?_)
  have hP : va_P (dC, dI) vwCl [(h0, .inr (3, [.ref q1, .ref q2, .ref q4, .int 0, .int 0])), (q2, .inl (c3, 16, .inl (fun _ => 0))), (q4, .inl (c5, 16, .inl (fun _ => 0)))] H := hP
  have hD : va_D A [(h0, .inr (3, [.ref q1, .ref q2, .ref q4, .int 0, .int 0])), (q2, .inl (c3, 16, .inl (fun _ => 0))), (q4, .inl (c5, 16, .inl (fun _ => 0)))] := hD
  refine lv_aload_n hx hb dX3_init_33 rfl (lv_at hl 0 rfl) ?_
  refine lv_iconst (v := 0) hx hb dX3_init_34 (by decide) ?_
  refine va_put (D := (dC, dI)) (ci := 3) (v := .int 0) (ty := .int) (C := RX3) (T := TX3) (N := 5) hx hb hts inG3 tyX3 tyX3_ok nmX3 hown hK hP hD hS 0 rfl rfl 3 (by decide) (hts _ k133) (fun _ h9 => h9) rfl (by decide +kernel) rfl rfl (Nat.le_of_ble_eq_true rfl) dX3_init_35 (fun H locs hP hD hS => ?_)
  have hP : va_P (dC, dI) vwCl [(h0, .inr (3, [.ref q1, .ref q2, .ref q4, .int 0, .int 0])), (q2, .inl (c3, 16, .inl (fun _ => 0))), (q4, .inl (c5, 16, .inl (fun _ => 0)))] H := hP
  have hD : va_D A [(h0, .inr (3, [.ref q1, .ref q2, .ref q4, .int 0, .int 0])), (q2, .inl (c3, 16, .inl (fun _ => 0))), (q4, .inl (c5, 16, .inl (fun _ => 0)))] := hD
  refine lv_aload_n hx hb dX3_init_38 rfl (lv_at hl 0 rfl) ?_
  refine lv_iconst (v := 0) hx hb dX3_init_39 (by decide) ?_
  refine va_put (D := (dC, dI)) (ci := 3) (v := .int 0) (ty := .int) (C := RX3) (T := TX3) (N := 5) hx hb hts inG3 tyX3 tyX3_ok nmX3 hown hK hP hD hS 0 rfl rfl 4 (by decide) (hts _ k134) (fun _ h9 => h9) rfl (by decide +kernel) rfl rfl (Nat.le_of_ble_eq_true rfl) dX3_init_40 (fun H locs hP hD hS => ?_)
  have hP : va_P (dC, dI) vwCl [(h0, .inr (3, [.ref q1, .ref q2, .ref q4, .int 0, .int 0])), (q2, .inl (c3, 16, .inl (fun _ => 0))), (q4, .inl (c5, 16, .inl (fun _ => 0)))] H := hP
  have hD : va_D A [(h0, .inr (3, [.ref q1, .ref q2, .ref q4, .int 0, .int 0])), (q2, .inl (c3, 16, .inl (fun _ => 0))), (q4, .inl (c5, 16, .inl (fun _ => 0)))] := hD
  have hP9 := hP.sub (ws' := [(h0, .inr (3, [.ref q1, .ref q2, .ref q4, .int 0, .int 0]))]) [0] rfl
  have hD9 := hD.sub (ws' := [(h0, .inr (3, [.ref q1, .ref q2, .ref q4, .int 0, .int 0]))]) [0] (by decide) rfl
  have hK9 := hK.sub (tys' := []) [] rfl
  refine W.widen (k := 19) (n := 17648) (by omega) (by omega) ?_
  exact W.vret hx hb hr (fun t ht hW => ⟨⟨(), rfl, trivial, q1, q2, q4, by rw [ht]; exact hP9, va_K.moved hW.alike hK9, hD9⟩, hS.F ht⟩) hS.2.2 dX3_init_43
set_option maxHeartbeats 4000000 in
set_option maxRecDepth 100000 in
theorem c_Tidier_init (l : Launch) (dC : Nat → ClassId) (dI : Nat → Nat → Nat) (sz : Nat) (h0 : Nat)  : Met l yX6_init (Cond.code yX6_init cX6_init 1 none :: wsG) ({ frames := 1, cells := 2, slots := 2202, locals := 14 } : Room) (va_Pc [.ref h0] (fun U => U.heap.size = sz ∧ va_P (dC, dI) vwCl [(h0, .inr (6, [.null, .null, .int 0, .int 0, .int 0, .int 0]))] U.heap ∧ va_K (dC, dI) vwCl [] U ∧ va_D (fun _ => True) [(h0, .inr (6, [.null, .null, .int 0, .int 0, .int 0, .int 0]))])) (va_Qv (fun (_ : Unit) => True) (fun (_ : Unit) (t : State) => ∃ (q1 : Nat) (q3 : Nat) (c2 : ClassId) (c4 : ClassId), va_P (dC, dI) vwCl [(h0, .inr (6, [.ref q1, .ref q3, .int 0, .int 0, .int 0, .int 0])), (q1, .inl (c2, 1101, .inl (fun _ => 0))), (q3, .inl (c4, 1101, .inl (fun _ => 0)))] t.heap ∧ va_K (dC, dI) vwCl [(c2, .int), (c4, .int)] t ∧ va_D (va_A [(h0, .inr (6, [.null, .null, .int 0, .int 0, .int 0, .int 0]))] sz) [(h0, .inr (6, [.ref q1, .ref q3, .int 0, .int 0, .int 0, .int 0])), (q1, .inl (c2, 1101, .inl (fun _ => 0))), (q3, .inl (c4, 1101, .inl (fun _ => 0)))]) (va_A [(h0, .inr (6, [.null, .null, .int 0, .int 0, .int 0, .int 0]))] sz)) 2 2202 (va_A [(h0, .inr (6, [.null, .null, .int 0, .int 0, .int 0, .int 0]))] sz) := by
  refine Met.ofW (cc := cX6_init) (maxL := 1) (ret := none) (by decide) rfl ?_
  intro p e s m args below meth c s₁ B hml hv
  obtain ⟨rfl, hsz, hP, hK, hD0⟩ := hv
  have hx := B.exec
  have hb := B.bytes
  have hr := B.returns
  have hts : ∀ w ∈ wsG, w.before _ s = true := hG_of (atoms_spec (ws := (Cond.code yX6_init cX6_init 1 none :: wsG)) B.pre)
  have hown : s.vm.findClass RX6 = some m.cls := findClass_of_methodNamed B.named
  have hlocks := B.notSynchronized
  have hin : meth.name = "<init>" := (name_of_methodNamed B.named B.method).1
  subst hsz
  have hD := hD0.self (sz := s.heap.size)
  generalize hAe : va_A [(h0, .inr (6, [.null, .null, .int 0, .int 0, .int 0, .int 0]))] s.heap.size = A at hD ⊢
  have hA : ∀ q : Nat, s.heap.size ≤ q → A q := fun q h => by rw [← hAe]; exact Or.inr h
  have hS : va_S A s.heap s.heap [] := va_S.rf
  have hl := lv_entry ([.ref h0]) (n := 1) (Nat.le_of_ble_eq_true rfl)
  rw [lg_entry_eq]
  generalize (lg_sl ([.ref h0]) ++ List.replicate (1 - (lg_sl ([.ref h0])).length) Slot.unset).toArray = ls at hl ⊢
  have hl : lv_has ls 1 [(0, .ref h0)] := hl
  refine lv_aload_n hx hb dX6_init_0 rfl (lv_at hl 0 rfl) ?_
  refine W.objInit hx hb hown (hts _ k152) (hts _ k27) (hts _ k28) rfl (by rw [hml]; exact hl.1) rfl dX6_init_1 (Nat.le_of_ble_eq_true rfl) (Nat.le_of_ble_eq_true rfl) ?_
  refine W.eq (g2 := F0 m 4 ls []) rfl ?_
  refine lv_aload_n hx hb dX6_init_4 rfl (lv_at hl 0 rfl) ?_
  refine lv_sipush (v := 1101) hx hb dX6_init_5 (by decide) ?_
  refine va_newa (atype := .int) (ty := .int) (N' := 1101) (a0 := (1101, .inl (fun _ => 0))) hx hb (hts _ k65) rfl hK hP hD hS hA (fun _ => rfl) (by decide) (by decide) (Nat.le_of_ble_eq_true rfl) (Nat.le_of_ble_eq_true rfl) (Nat.le_of_ble_eq_true rfl) dX6_init_8 (fun q1 c2 H hK hP hD hS => ?_)
  have hK : va_K (dC, dI) vwCl [(c2, .int)] s := hK
  have hP : va_P (dC, dI) vwCl [(h0, .inr (6, [.null, .null, .int 0, .int 0, .int 0, .int 0])), (q1, .inl (c2, 1101, .inl (fun _ => 0)))] H := hP
  have hD : va_D A [(h0, .inr (6, [.null, .null, .int 0, .int 0, .int 0, .int 0])), (q1, .inl (c2, 1101, .inl (fun _ => 0)))] := hD
  refine W.widen (k := 1) (n := 1101) (by omega) (by omega) ?_
  refine va_putF (D := (dC, dI)) (ci := 6) (v := .ref q1) (ty := .array .int) (C := RX6) (T := TX6) (N := 6) hx hb hts inG6 tyX6 tyX6_ok nmX6 hown hK hP hD hS 0 rfl rfl 0 (by decide) (hts _ k153) (fun _ h9 => h9) rfl hin rfl (by decide +kernel) rfl rfl (Nat.le_of_ble_eq_true rfl) dX6_init_10 (fun H locs hP hD hS => ?_)
  have hP : va_P (dC, dI) vwCl [(h0, .inr (6, [.ref q1, .null, .int 0, .int 0, .int 0, .int 0])), (q1, .inl (c2, 1101, .inl (fun _ => 0)))] H := hP
  have hD : va_D A [(h0, .inr (6, [.ref q1, .null, .int 0, .int 0, .int 0, .int 0])), (q1, .inl (c2, 1101, .inl (fun _ => 0)))] := hD
  refine lv_aload_n hx hb dX6_init_13 rfl (lv_at hl 0 rfl) ?_
  refine lv_sipush (v := 1101) hx hb dX6_init_14 (by decide) ?_
  refine va_newa (atype := .int) (ty := .int) (N' := 1101) (a0 := (1101, .inl (fun _ => 0))) hx hb (hts _ k65) rfl hK hP hD hS hA (fun _ => rfl) (by decide) (by decide) (Nat.le_of_ble_eq_true rfl) (Nat.le_of_ble_eq_true rfl) (Nat.le_of_ble_eq_true rfl) dX6_init_17 (fun q3 c4 H hK hP hD hS => ?_)
  have hK : va_K (dC, dI) vwCl [(c2, .int), (c4, .int)] s := hK
  have hP : va_P (dC, dI) vwCl [(h0, .inr (6, [.ref q1, .null, .int 0, .int 0, .int 0, .int 0])), (q1, .inl (c2, 1101, .inl (fun _ => 0))), (q3, .inl (c4, 1101, .inl (fun _ => 0)))] H := hP
  have hD : va_D A [(h0, .inr (6, [.ref q1, .null, .int 0, .int 0, .int 0, .int 0])), (q1, .inl (c2, 1101, .inl (fun _ => 0))), (q3, .inl (c4, 1101, .inl (fun _ => 0)))] := hD
  refine W.widen (k := 2) (n := 2202) (by omega) (by omega) ?_
  refine va_putF (D := (dC, dI)) (ci := 6) (v := .ref q3) (ty := .array .int) (C := RX6) (T := TX6) (N := 6) hx hb hts inG6 tyX6 tyX6_ok nmX6 hown hK hP hD hS 0 rfl rfl 1 (by decide) (hts _ k154) (fun _ h9 => h9) rfl hin rfl (by decide +kernel) rfl rfl (Nat.le_of_ble_eq_true rfl) dX6_init_19 (fun H locs hP hD hS => ?_)
  have hP : va_P (dC, dI) vwCl [(h0, .inr (6, [.ref q1, .ref q3, .int 0, .int 0, .int 0, .int 0])), (q1, .inl (c2, 1101, .inl (fun _ => 0))), (q3, .inl (c4, 1101, .inl (fun _ => 0)))] H := hP
  have hD : va_D A [(h0, .inr (6, [.ref q1, .ref q3, .int 0, .int 0, .int 0, .int 0])), (q1, .inl (c2, 1101, .inl (fun _ => 0))), (q3, .inl (c4, 1101, .inl (fun _ => 0)))] := hD
  refine lv_aload_n hx hb dX6_init_22 rfl (lv_at hl 0 rfl) ?_
  refine lv_iconst (v := 0) hx hb dX6_init_23 (by decide) ?_
  refine va_put (D := (dC, dI)) (ci := 6) (v := .int 0) (ty := .int) (C := RX6) (T := TX6) (N := 6) hx hb hts inG6 tyX6 tyX6_ok nmX6 hown hK hP hD hS 0 rfl rfl 2 (by decide) (hts _ k155) (fun _ h9 => h9) rfl (by decide +kernel) rfl rfl (Nat.le_of_ble_eq_true rfl) dX6_init_24 (fun H locs hP hD hS => ?_)
  have hP : va_P (dC, dI) vwCl [(h0, .inr (6, [.ref q1, .ref q3, .int 0, .int 0, .int 0, .int 0])), (q1, .inl (c2, 1101, .inl (fun _ => 0))), (q3, .inl (c4, 1101, .inl (fun _ => 0)))] H := hP
  have hD : va_D A [(h0, .inr (6, [.ref q1, .ref q3, .int 0, .int 0, .int 0, .int 0])), (q1, .inl (c2, 1101, .inl (fun _ => 0))), (q3, .inl (c4, 1101, .inl (fun _ => 0)))] := hD
  refine lv_aload_n hx hb dX6_init_27 rfl (lv_at hl 0 rfl) ?_
  refine lv_iconst (v := 0) hx hb dX6_init_28 (by decide) ?_
  refine va_put (D := (dC, dI)) (ci := 6) (v := .int 0) (ty := .int) (C := RX6) (T := TX6) (N := 6) hx hb hts inG6 tyX6 tyX6_ok nmX6 hown hK hP hD hS 0 rfl rfl 3 (by decide) (hts _ k156) (fun _ h9 => h9) rfl (by decide +kernel) rfl rfl (Nat.le_of_ble_eq_true rfl) dX6_init_29 (fun H locs hP hD hS => ?_)
  have hP : va_P (dC, dI) vwCl [(h0, .inr (6, [.ref q1, .ref q3, .int 0, .int 0, .int 0, .int 0])), (q1, .inl (c2, 1101, .inl (fun _ => 0))), (q3, .inl (c4, 1101, .inl (fun _ => 0)))] H := hP
  have hD : va_D A [(h0, .inr (6, [.ref q1, .ref q3, .int 0, .int 0, .int 0, .int 0])), (q1, .inl (c2, 1101, .inl (fun _ => 0))), (q3, .inl (c4, 1101, .inl (fun _ => 0)))] := hD
  refine lv_aload_n hx hb dX6_init_32 rfl (lv_at hl 0 rfl) ?_
  refine lv_iconst (v := 0) hx hb dX6_init_33 (by decide) ?_
  refine va_put (D := (dC, dI)) (ci := 6) (v := .int 0) (ty := .int) (C := RX6) (T := TX6) (N := 6) hx hb hts inG6 tyX6 tyX6_ok nmX6 hown hK hP hD hS 0 rfl rfl 4 (by decide) (hts _ k158) (fun _ h9 => h9) rfl (by decide +kernel) rfl rfl (Nat.le_of_ble_eq_true rfl) dX6_init_34 (fun H locs hP hD hS => ?_)
  have hP : va_P (dC, dI) vwCl [(h0, .inr (6, [.ref q1, .ref q3, .int 0, .int 0, .int 0, .int 0])), (q1, .inl (c2, 1101, .inl (fun _ => 0))), (q3, .inl (c4, 1101, .inl (fun _ => 0)))] H := hP
  have hD : va_D A [(h0, .inr (6, [.ref q1, .ref q3, .int 0, .int 0, .int 0, .int 0])), (q1, .inl (c2, 1101, .inl (fun _ => 0))), (q3, .inl (c4, 1101, .inl (fun _ => 0)))] := hD
  refine lv_aload_n hx hb dX6_init_37 rfl (lv_at hl 0 rfl) ?_
  refine lv_iconst (v := 0) hx hb dX6_init_38 (by decide) ?_
  refine va_put (D := (dC, dI)) (ci := 6) (v := .int 0) (ty := .int) (C := RX6) (T := TX6) (N := 6) hx hb hts inG6 tyX6 tyX6_ok nmX6 hown hK hP hD hS 0 rfl rfl 5 (by decide) (hts _ k160) (fun _ h9 => h9) rfl (by decide +kernel) rfl rfl (Nat.le_of_ble_eq_true rfl) dX6_init_39 (fun H locs hP hD hS => ?_)
  have hP : va_P (dC, dI) vwCl [(h0, .inr (6, [.ref q1, .ref q3, .int 0, .int 0, .int 0, .int 0])), (q1, .inl (c2, 1101, .inl (fun _ => 0))), (q3, .inl (c4, 1101, .inl (fun _ => 0)))] H := hP
  have hD : va_D A [(h0, .inr (6, [.ref q1, .ref q3, .int 0, .int 0, .int 0, .int 0])), (q1, .inl (c2, 1101, .inl (fun _ => 0))), (q3, .inl (c4, 1101, .inl (fun _ => 0)))] := hD
  have hP9 := hP.sub (ws' := [(h0, .inr (6, [.ref q1, .ref q3, .int 0, .int 0, .int 0, .int 0])), (q1, .inl (c2, 1101, .inl (fun _ => 0))), (q3, .inl (c4, 1101, .inl (fun _ => 0)))]) [0, 1, 2] rfl
  have hD9 := hD.sub (ws' := [(h0, .inr (6, [.ref q1, .ref q3, .int 0, .int 0, .int 0, .int 0])), (q1, .inl (c2, 1101, .inl (fun _ => 0))), (q3, .inl (c4, 1101, .inl (fun _ => 0)))]) [0, 1, 2] (by decide) rfl
  have hK9 := hK.sub (tys' := [(c2, .int), (c4, .int)]) [0, 1] rfl
  refine W.widen (k := 2) (n := 2202) (by omega) (by omega) ?_
  exact W.vret hx hb hr (fun t ht hW => ⟨⟨(), rfl, trivial, q1, q3, c2, c4, by rw [ht]; exact hP9, va_K.moved hW.alike hK9, hD9⟩, hS.F ht⟩) hS.2.2 dX6_init_42
set_option maxHeartbeats 4000000 in
set_option maxRecDepth 100000 in
theorem c_Layer_init (l : Launch) (dC : Nat → ClassId) (dI : Nat → Nat → Nat) (sz : Nat) (h0 : Nat)  : Met l yX0_init (Cond.code yX0_init cX0_init 1 none :: wsG) ({ frames := 1, cells := 3, slots := 108999, locals := 14 } : Room) (va_Pc [.ref h0] (fun U => U.heap.size = sz ∧ va_P (dC, dI) vwCl [(h0, .inr (0, [.null, .null, .null, .int 0, .int 0, .int 0, .int 0]))] U.heap ∧ va_K (dC, dI) vwCl [] U ∧ va_D (fun _ => True) [(h0, .inr (0, [.null, .null, .null, .int 0, .int 0, .int 0, .int 0]))])) (va_Qv (fun (_ : Unit) => True) (fun (_ : Unit) (t : State) => ∃ (q1 : Nat) (q3 : Nat) (q5 : Nat), va_P (dC, dI) vwCl [(h0, .inr (0, [.ref q1, .ref q3, .ref q5, .int 1, .int 0, .int 0, .int 0]))] t.heap ∧ va_K (dC, dI) vwCl [] t ∧ va_D (va_A [(h0, .inr (0, [.null, .null, .null, .int 0, .int 0, .int 0, .int 0]))] sz) [(h0, .inr (0, [.ref q1, .ref q3, .ref q5, .int 1, .int 0, .int 0, .int 0]))]) (va_A [(h0, .inr (0, [.null, .null, .null, .int 0, .int 0, .int 0, .int 0]))] sz)) 3 108999 (va_A [(h0, .inr (0, [.null, .null, .null, .int 0, .int 0, .int 0, .int 0]))] sz) := by
  refine Met.ofW (cc := cX0_init) (maxL := 1) (ret := none) (by decide) rfl ?_
  intro p e s m args below meth c s₁ B hml hv
  obtain ⟨rfl, hsz, hP, hK, hD0⟩ := hv
  have hx := B.exec
  have hb := B.bytes
  have hr := B.returns
  have hts : ∀ w ∈ wsG, w.before _ s = true := hG_of (atoms_spec (ws := (Cond.code yX0_init cX0_init 1 none :: wsG)) B.pre)
  have hown : s.vm.findClass RX0 = some m.cls := findClass_of_methodNamed B.named
  have hlocks := B.notSynchronized
  have hin : meth.name = "<init>" := (name_of_methodNamed B.named B.method).1
  subst hsz
  have hD := hD0.self (sz := s.heap.size)
  generalize hAe : va_A [(h0, .inr (0, [.null, .null, .null, .int 0, .int 0, .int 0, .int 0]))] s.heap.size = A at hD ⊢
  have hA : ∀ q : Nat, s.heap.size ≤ q → A q := fun q h => by rw [← hAe]; exact Or.inr h
  have hS : va_S A s.heap s.heap [] := va_S.rf
  have hl := lv_entry ([.ref h0]) (n := 1) (Nat.le_of_ble_eq_true rfl)
  rw [lg_entry_eq]
  generalize (lg_sl ([.ref h0]) ++ List.replicate (1 - (lg_sl ([.ref h0])).length) Slot.unset).toArray = ls at hl ⊢
  have hl : lv_has ls 1 [(0, .ref h0)] := hl
  refine lv_aload_n hx hb dX0_init_0 rfl (lv_at hl 0 rfl) ?_
  refine W.objInit hx hb hown (hts _ k180) (hts _ k27) (hts _ k28) rfl (by rw [hml]; exact hl.1) rfl dX0_init_1 (Nat.le_of_ble_eq_true rfl) (Nat.le_of_ble_eq_true rfl) ?_
  refine W.eq (g2 := F0 m 4 ls []) rfl ?_
  refine lv_aload_n hx hb dX0_init_4 rfl (lv_at hl 0 rfl) ?_
  refine lv_ldc (v := 106797) hx hb hown (hts _ k181) dX0_init_5 ?_
  refine va_newa (atype := .int) (ty := .int) (N' := 106797) (a0 := (106797, .inl (fun _ => 0))) hx hb (hts _ k65) rfl hK hP hD hS hA (fun _ => rfl) (by decide) (by decide) (Nat.le_of_ble_eq_true rfl) (Nat.le_of_ble_eq_true rfl) (Nat.le_of_ble_eq_true rfl) dX0_init_7 (fun q1 c2 H hK hP hD hS => ?_)
  have hK : va_K (dC, dI) vwCl [(c2, .int)] s := hK
  have hP : va_P (dC, dI) vwCl [(h0, .inr (0, [.null, .null, .null, .int 0, .int 0, .int 0, .int 0])), (q1, .inl (c2, 106797, .inl (fun _ => 0)))] H := hP
  have hD : va_D A [(h0, .inr (0, [.null, .null, .null, .int 0, .int 0, .int 0, .int 0])), (q1, .inl (c2, 106797, .inl (fun _ => 0)))] := hD
  refine W.widen (k := 1) (n := 106797) (by omega) (by omega) ?_
  refine va_putF (D := (dC, dI)) (ci := 0) (v := .ref q1) (ty := .array .int) (C := RX0) (T := TX0) (N := 7) hx hb hts inG0 tyX0 tyX0_ok nmX0 hown hK hP hD hS 0 rfl rfl 0 (by decide) (hts _ k182) (fun _ h9 => h9) rfl hin rfl (by decide +kernel) rfl rfl (Nat.le_of_ble_eq_true rfl) dX0_init_9 (fun H locs hP hD hS => ?_)
  have hP : va_P (dC, dI) vwCl [(h0, .inr (0, [.ref q1, .null, .null, .int 0, .int 0, .int 0, .int 0])), (q1, .inl (c2, 106797, .inl (fun _ => 0)))] H := hP
  have hD : va_D A [(h0, .inr (0, [.ref q1, .null, .null, .int 0, .int 0, .int 0, .int 0])), (q1, .inl (c2, 106797, .inl (fun _ => 0)))] := hD
  refine lv_aload_n hx hb dX0_init_12 rfl (lv_at hl 0 rfl) ?_
  refine lv_sipush (v := 1101) hx hb dX0_init_13 (by decide) ?_
  refine va_newa (atype := .int) (ty := .int) (N' := 1101) (a0 := (1101, .inl (fun _ => 0))) hx hb (hts _ k65) rfl hK hP hD hS hA (fun _ => rfl) (by decide) (by decide) (Nat.le_of_ble_eq_true rfl) (Nat.le_of_ble_eq_true rfl) (Nat.le_of_ble_eq_true rfl) dX0_init_16 (fun q3 c4 H hK hP hD hS => ?_)
  have hK : va_K (dC, dI) vwCl [(c2, .int), (c4, .int)] s := hK
  have hP : va_P (dC, dI) vwCl [(h0, .inr (0, [.ref q1, .null, .null, .int 0, .int 0, .int 0, .int 0])), (q1, .inl (c2, 106797, .inl (fun _ => 0))), (q3, .inl (c4, 1101, .inl (fun _ => 0)))] H := hP
  have hD : va_D A [(h0, .inr (0, [.ref q1, .null, .null, .int 0, .int 0, .int 0, .int 0])), (q1, .inl (c2, 106797, .inl (fun _ => 0))), (q3, .inl (c4, 1101, .inl (fun _ => 0)))] := hD
  refine W.widen (k := 2) (n := 107898) (by omega) (by omega) ?_
  refine va_putF (D := (dC, dI)) (ci := 0) (v := .ref q3) (ty := .array .int) (C := RX0) (T := TX0) (N := 7) hx hb hts inG0 tyX0 tyX0_ok nmX0 hown hK hP hD hS 0 rfl rfl 1 (by decide) (hts _ k183) (fun _ h9 => h9) rfl hin rfl (by decide +kernel) rfl rfl (Nat.le_of_ble_eq_true rfl) dX0_init_18 (fun H locs hP hD hS => ?_)
  have hP : va_P (dC, dI) vwCl [(h0, .inr (0, [.ref q1, .ref q3, .null, .int 0, .int 0, .int 0, .int 0])), (q1, .inl (c2, 106797, .inl (fun _ => 0))), (q3, .inl (c4, 1101, .inl (fun _ => 0)))] H := hP
  have hD : va_D A [(h0, .inr (0, [.ref q1, .ref q3, .null, .int 0, .int 0, .int 0, .int 0])), (q1, .inl (c2, 106797, .inl (fun _ => 0))), (q3, .inl (c4, 1101, .inl (fun _ => 0)))] := hD
  refine lv_aload_n hx hb dX0_init_21 rfl (lv_at hl 0 rfl) ?_
  refine lv_sipush (v := 1101) hx hb dX0_init_22 (by decide) ?_
  refine va_newa (atype := .int) (ty := .int) (N' := 1101) (a0 := (1101, .inl (fun _ => 0))) hx hb (hts _ k65) rfl hK hP hD hS hA (fun _ => rfl) (by decide) (by decide) (Nat.le_of_ble_eq_true rfl) (Nat.le_of_ble_eq_true rfl) (Nat.le_of_ble_eq_true rfl) dX0_init_25 (fun q5 c6 H hK hP hD hS => ?_)
  have hK : va_K (dC, dI) vwCl [(c2, .int), (c4, .int), (c6, .int)] s := hK
  have hP : va_P (dC, dI) vwCl [(h0, .inr (0, [.ref q1, .ref q3, .null, .int 0, .int 0, .int 0, .int 0])), (q1, .inl (c2, 106797, .inl (fun _ => 0))), (q3, .inl (c4, 1101, .inl (fun _ => 0))), (q5, .inl (c6, 1101, .inl (fun _ => 0)))] H := hP
  have hD : va_D A [(h0, .inr (0, [.ref q1, .ref q3, .null, .int 0, .int 0, .int 0, .int 0])), (q1, .inl (c2, 106797, .inl (fun _ => 0))), (q3, .inl (c4, 1101, .inl (fun _ => 0))), (q5, .inl (c6, 1101, .inl (fun _ => 0)))] := hD
  refine W.widen (k := 3) (n := 108999) (by omega) (by omega) ?_
  refine va_putF (D := (dC, dI)) (ci := 0) (v := .ref q5) (ty := .array .int) (C := RX0) (T := TX0) (N := 7) hx hb hts inG0 tyX0 tyX0_ok nmX0 hown hK hP hD hS 0 rfl rfl 2 (by decide) (hts _ k184) (fun _ h9 => h9) rfl hin rfl (by decide +kernel) rfl rfl (Nat.le_of_ble_eq_true rfl) dX0_init_27 (fun H locs hP hD hS => ?_)
  have hP : va_P (dC, dI) vwCl [(h0, .inr (0, [.ref q1, .ref q3, .ref q5, .int 0, .int 0, .int 0, .int 0])), (q1, .inl (c2, 106797, .inl (fun _ => 0))), (q3, .inl (c4, 1101, .inl (fun _ => 0))), (q5, .inl (c6, 1101, .inl (fun _ => 0)))] H := hP
  have hD : va_D A [(h0, .inr (0, [.ref q1, .ref q3, .ref q5, .int 0, .int 0, .int 0, .int 0])), (q1, .inl (c2, 106797, .inl (fun _ => 0))), (q3, .inl (c4, 1101, .inl (fun _ => 0))), (q5, .inl (c6, 1101, .inl (fun _ => 0)))] := hD
  refine lv_aload_n hx hb dX0_init_30 rfl (lv_at hl 0 rfl) ?_
  refine lv_iconst (v := 1) hx hb dX0_init_31 (by decide) ?_
  refine va_put (D := (dC, dI)) (ci := 0) (v := .int 1) (ty := .int) (C := RX0) (T := TX0) (N := 7) hx hb hts inG0 tyX0 tyX0_ok nmX0 hown hK hP hD hS 0 rfl rfl 3 (by decide) (hts _ k185) (fun _ h9 => h9) rfl (by decide +kernel) rfl rfl (Nat.le_of_ble_eq_true rfl) dX0_init_32 (fun H locs hP hD hS => ?_)
  have hP : va_P (dC, dI) vwCl [(h0, .inr (0, [.ref q1, .ref q3, .ref q5, .int 1, .int 0, .int 0, .int 0])), (q1, .inl (c2, 106797, .inl (fun _ => 0))), (q3, .inl (c4, 1101, .inl (fun _ => 0))), (q5, .inl (c6, 1101, .inl (fun _ => 0)))] H := hP
  have hD : va_D A [(h0, .inr (0, [.ref q1, .ref q3, .ref q5, .int 1, .int 0, .int 0, .int 0])), (q1, .inl (c2, 106797, .inl (fun _ => 0))), (q3, .inl (c4, 1101, .inl (fun _ => 0))), (q5, .inl (c6, 1101, .inl (fun _ => 0)))] := hD
  refine lv_aload_n hx hb dX0_init_35 rfl (lv_at hl 0 rfl) ?_
  refine lv_iconst (v := 0) hx hb dX0_init_36 (by decide) ?_
  refine va_put (D := (dC, dI)) (ci := 0) (v := .int 0) (ty := .int) (C := RX0) (T := TX0) (N := 7) hx hb hts inG0 tyX0 tyX0_ok nmX0 hown hK hP hD hS 0 rfl rfl 4 (by decide) (hts _ k186) (fun _ h9 => h9) rfl (by decide +kernel) rfl rfl (Nat.le_of_ble_eq_true rfl) dX0_init_37 (fun H locs hP hD hS => ?_)
  have hP : va_P (dC, dI) vwCl [(h0, .inr (0, [.ref q1, .ref q3, .ref q5, .int 1, .int 0, .int 0, .int 0])), (q1, .inl (c2, 106797, .inl (fun _ => 0))), (q3, .inl (c4, 1101, .inl (fun _ => 0))), (q5, .inl (c6, 1101, .inl (fun _ => 0)))] H := hP
  have hD : va_D A [(h0, .inr (0, [.ref q1, .ref q3, .ref q5, .int 1, .int 0, .int 0, .int 0])), (q1, .inl (c2, 106797, .inl (fun _ => 0))), (q3, .inl (c4, 1101, .inl (fun _ => 0))), (q5, .inl (c6, 1101, .inl (fun _ => 0)))] := hD
  refine lv_aload_n hx hb dX0_init_40 rfl (lv_at hl 0 rfl) ?_
  refine lv_iconst (v := 0) hx hb dX0_init_41 (by decide) ?_
  refine va_put (D := (dC, dI)) (ci := 0) (v := .int 0) (ty := .int) (C := RX0) (T := TX0) (N := 7) hx hb hts inG0 tyX0 tyX0_ok nmX0 hown hK hP hD hS 0 rfl rfl 5 (by decide) (hts _ k187) (fun _ h9 => h9) rfl (by decide +kernel) rfl rfl (Nat.le_of_ble_eq_true rfl) dX0_init_42 (fun H locs hP hD hS => ?_)
  have hP : va_P (dC, dI) vwCl [(h0, .inr (0, [.ref q1, .ref q3, .ref q5, .int 1, .int 0, .int 0, .int 0])), (q1, .inl (c2, 106797, .inl (fun _ => 0))), (q3, .inl (c4, 1101, .inl (fun _ => 0))), (q5, .inl (c6, 1101, .inl (fun _ => 0)))] H := hP
  have hD : va_D A [(h0, .inr (0, [.ref q1, .ref q3, .ref q5, .int 1, .int 0, .int 0, .int 0])), (q1, .inl (c2, 106797, .inl (fun _ => 0))), (q3, .inl (c4, 1101, .inl (fun _ => 0))), (q5, .inl (c6, 1101, .inl (fun _ => 0)))] := hD
  refine lv_aload_n hx hb dX0_init_45 rfl (lv_at hl 0 rfl) ?_
  refine lv_iconst (v := 0) hx hb dX0_init_46 (by decide) ?_
  refine va_put (D := (dC, dI)) (ci := 0) (v := .int 0) (ty := .int) (C := RX0) (T := TX0) (N := 7) hx hb hts inG0 tyX0 tyX0_ok nmX0 hown hK hP hD hS 0 rfl rfl 6 (by decide) (hts _ k188) (fun _ h9 => h9) rfl (by decide +kernel) rfl rfl (Nat.le_of_ble_eq_true rfl) dX0_init_47 (fun H locs hP hD hS => ?_)
  have hP : va_P (dC, dI) vwCl [(h0, .inr (0, [.ref q1, .ref q3, .ref q5, .int 1, .int 0, .int 0, .int 0])), (q1, .inl (c2, 106797, .inl (fun _ => 0))), (q3, .inl (c4, 1101, .inl (fun _ => 0))), (q5, .inl (c6, 1101, .inl (fun _ => 0)))] H := hP
  have hD : va_D A [(h0, .inr (0, [.ref q1, .ref q3, .ref q5, .int 1, .int 0, .int 0, .int 0])), (q1, .inl (c2, 106797, .inl (fun _ => 0))), (q3, .inl (c4, 1101, .inl (fun _ => 0))), (q5, .inl (c6, 1101, .inl (fun _ => 0)))] := hD
  have hP9 := hP.sub (ws' := [(h0, .inr (0, [.ref q1, .ref q3, .ref q5, .int 1, .int 0, .int 0, .int 0]))]) [0] rfl
  have hD9 := hD.sub (ws' := [(h0, .inr (0, [.ref q1, .ref q3, .ref q5, .int 1, .int 0, .int 0, .int 0]))]) [0] (by decide) rfl
  have hK9 := hK.sub (tys' := []) [] rfl
  refine W.widen (k := 3) (n := 108999) (by omega) (by omega) ?_
  exact W.vret hx hb hr (fun t ht hW => ⟨⟨(), rfl, trivial, q1, q3, q5, by rw [ht]; exact hP9, va_K.moved hW.alike hK9, hD9⟩, hS.F ht⟩) hS.2.2 dX0_init_50
set_option maxHeartbeats 4000000 in
set_option maxRecDepth 100000 in
theorem c_Walker_init (l : Launch) (dC : Nat → ClassId) (dI : Nat → Nat → Nat) (sz : Nat) (h0 : Nat)  : Met l yX8_init (Cond.code yX8_init cX8_init 1 none :: wsG) ({ frames := 1, cells := 2, slots := 68262, locals := 14 } : Room) (va_Pc [.ref h0] (fun U => U.heap.size = sz ∧ va_P (dC, dI) vwCl [(h0, .inr (8, [.null, .null]))] U.heap ∧ va_K (dC, dI) vwCl [] U ∧ va_D (fun _ => True) [(h0, .inr (8, [.null, .null]))])) (va_Qv (fun (_ : Unit) => True) (fun (_ : Unit) (t : State) => ∃ (q1 : Nat) (q3 : Nat) (c2 : ClassId) (c4 : ClassId), va_P (dC, dI) vwCl [(h0, .inr (8, [.ref q1, .ref q3])), (q1, .inl (c2, 67161, .inl (fun _ => 0))), (q3, .inl (c4, 1101, .inl (fun _ => 0)))] t.heap ∧ va_K (dC, dI) vwCl [(c2, .int), (c4, .int)] t ∧ va_D (va_A [(h0, .inr (8, [.null, .null]))] sz) [(h0, .inr (8, [.ref q1, .ref q3])), (q1, .inl (c2, 67161, .inl (fun _ => 0))), (q3, .inl (c4, 1101, .inl (fun _ => 0)))]) (va_A [(h0, .inr (8, [.null, .null]))] sz)) 2 68262 (va_A [(h0, .inr (8, [.null, .null]))] sz) := by
  refine Met.ofW (cc := cX8_init) (maxL := 1) (ret := none) (by decide) rfl ?_
  intro p e s m args below meth c s₁ B hml hv
  obtain ⟨rfl, hsz, hP, hK, hD0⟩ := hv
  have hx := B.exec
  have hb := B.bytes
  have hr := B.returns
  have hts : ∀ w ∈ wsG, w.before _ s = true := hG_of (atoms_spec (ws := (Cond.code yX8_init cX8_init 1 none :: wsG)) B.pre)
  have hown : s.vm.findClass RX8 = some m.cls := findClass_of_methodNamed B.named
  have hlocks := B.notSynchronized
  have hin : meth.name = "<init>" := (name_of_methodNamed B.named B.method).1
  subst hsz
  have hD := hD0.self (sz := s.heap.size)
  generalize hAe : va_A [(h0, .inr (8, [.null, .null]))] s.heap.size = A at hD ⊢
  have hA : ∀ q : Nat, s.heap.size ≤ q → A q := fun q h => by rw [← hAe]; exact Or.inr h
  have hS : va_S A s.heap s.heap [] := va_S.rf
  have hl := lv_entry ([.ref h0]) (n := 1) (Nat.le_of_ble_eq_true rfl)
  rw [lg_entry_eq]
  generalize (lg_sl ([.ref h0]) ++ List.replicate (1 - (lg_sl ([.ref h0])).length) Slot.unset).toArray = ls at hl ⊢
  have hl : lv_has ls 1 [(0, .ref h0)] := hl
  refine lv_aload_n hx hb dX8_init_0 rfl (lv_at hl 0 rfl) ?_
  refine W.objInit hx hb hown (hts _ k209) (hts _ k27) (hts _ k28) rfl (by rw [hml]; exact hl.1) rfl dX8_init_1 (Nat.le_of_ble_eq_true rfl) (Nat.le_of_ble_eq_true rfl) ?_
  refine W.eq (g2 := F0 m 4 ls []) rfl ?_
  refine lv_aload_n hx hb dX8_init_4 rfl (lv_at hl 0 rfl) ?_
  refine lv_ldc (v := 67161) hx hb hown (hts _ k210) dX8_init_5 ?_
  refine va_newa (atype := .int) (ty := .int) (N' := 67161) (a0 := (67161, .inl (fun _ => 0))) hx hb (hts _ k65) rfl hK hP hD hS hA (fun _ => rfl) (by decide) (by decide) (Nat.le_of_ble_eq_true rfl) (Nat.le_of_ble_eq_true rfl) (Nat.le_of_ble_eq_true rfl) dX8_init_7 (fun q1 c2 H hK hP hD hS => ?_)
  have hK : va_K (dC, dI) vwCl [(c2, .int)] s := hK
  have hP : va_P (dC, dI) vwCl [(h0, .inr (8, [.null, .null])), (q1, .inl (c2, 67161, .inl (fun _ => 0)))] H := hP
  have hD : va_D A [(h0, .inr (8, [.null, .null])), (q1, .inl (c2, 67161, .inl (fun _ => 0)))] := hD
  refine W.widen (k := 1) (n := 67161) (by omega) (by omega) ?_
  refine va_putF (D := (dC, dI)) (ci := 8) (v := .ref q1) (ty := .array .int) (C := RX8) (T := TX8) (N := 2) hx hb hts inG8 tyX8 tyX8_ok nmX8 hown hK hP hD hS 0 rfl rfl 0 (by decide) (hts _ k211) (fun _ h9 => h9) rfl hin rfl (by decide +kernel) rfl rfl (Nat.le_of_ble_eq_true rfl) dX8_init_9 (fun H locs hP hD hS => ?_)
  have hP : va_P (dC, dI) vwCl [(h0, .inr (8, [.ref q1, .null])), (q1, .inl (c2, 67161, .inl (fun _ => 0)))] H := hP
  have hD : va_D A [(h0, .inr (8, [.ref q1, .null])), (q1, .inl (c2, 67161, .inl (fun _ => 0)))] := hD
  refine lv_aload_n hx hb dX8_init_12 rfl (lv_at hl 0 rfl) ?_
  refine lv_sipush (v := 1101) hx hb dX8_init_13 (by decide) ?_
  refine va_newa (atype := .int) (ty := .int) (N' := 1101) (a0 := (1101, .inl (fun _ => 0))) hx hb (hts _ k65) rfl hK hP hD hS hA (fun _ => rfl) (by decide) (by decide) (Nat.le_of_ble_eq_true rfl) (Nat.le_of_ble_eq_true rfl) (Nat.le_of_ble_eq_true rfl) dX8_init_16 (fun q3 c4 H hK hP hD hS => ?_)
  have hK : va_K (dC, dI) vwCl [(c2, .int), (c4, .int)] s := hK
  have hP : va_P (dC, dI) vwCl [(h0, .inr (8, [.ref q1, .null])), (q1, .inl (c2, 67161, .inl (fun _ => 0))), (q3, .inl (c4, 1101, .inl (fun _ => 0)))] H := hP
  have hD : va_D A [(h0, .inr (8, [.ref q1, .null])), (q1, .inl (c2, 67161, .inl (fun _ => 0))), (q3, .inl (c4, 1101, .inl (fun _ => 0)))] := hD
  refine W.widen (k := 2) (n := 68262) (by omega) (by omega) ?_
  refine va_putF (D := (dC, dI)) (ci := 8) (v := .ref q3) (ty := .array .int) (C := RX8) (T := TX8) (N := 2) hx hb hts inG8 tyX8 tyX8_ok nmX8 hown hK hP hD hS 0 rfl rfl 1 (by decide) (hts _ k212) (fun _ h9 => h9) rfl hin rfl (by decide +kernel) rfl rfl (Nat.le_of_ble_eq_true rfl) dX8_init_18 (fun H locs hP hD hS => ?_)
  have hP : va_P (dC, dI) vwCl [(h0, .inr (8, [.ref q1, .ref q3])), (q1, .inl (c2, 67161, .inl (fun _ => 0))), (q3, .inl (c4, 1101, .inl (fun _ => 0)))] H := hP
  have hD : va_D A [(h0, .inr (8, [.ref q1, .ref q3])), (q1, .inl (c2, 67161, .inl (fun _ => 0))), (q3, .inl (c4, 1101, .inl (fun _ => 0)))] := hD
  have hP9 := hP.sub (ws' := [(h0, .inr (8, [.ref q1, .ref q3])), (q1, .inl (c2, 67161, .inl (fun _ => 0))), (q3, .inl (c4, 1101, .inl (fun _ => 0)))]) [0, 1, 2] rfl
  have hD9 := hD.sub (ws' := [(h0, .inr (8, [.ref q1, .ref q3])), (q1, .inl (c2, 67161, .inl (fun _ => 0))), (q3, .inl (c4, 1101, .inl (fun _ => 0)))]) [0, 1, 2] (by decide) rfl
  have hK9 := hK.sub (tys' := [(c2, .int), (c4, .int)]) [0, 1] rfl
  refine W.widen (k := 2) (n := 68262) (by omega) (by omega) ?_
  exact W.vret hx hb hr (fun t ht hW => ⟨⟨(), rfl, trivial, q1, q3, c2, c4, by rw [ht]; exact hP9, va_K.moved hW.alike hK9, hD9⟩, hS.F ht⟩) hS.2.2 dX8_init_21
set_option maxHeartbeats 4000000 in
set_option maxRecDepth 100000 in
theorem c_Orders_init (l : Launch) (dC : Nat → ClassId) (dI : Nat → Nat → Nat) (sz : Nat) (h0 : Nat)  : Met l yX2_init (Cond.code yX2_init cX2_init 2 none :: wsG) ({ frames := 2, cells := 61, slots := 54035, locals := 36 } : Room) (va_Pc [.ref h0] (fun U => U.heap.size = sz ∧ va_P (dC, dI) vwCl [(h0, .inr (2, [.null, .null, .null, .null, .null, .null, .int 0, .int 0, .null]))] U.heap ∧ va_K (dC, dI) vwCl [] U ∧ va_D (fun _ => True) [(h0, .inr (2, [.null, .null, .null, .null, .null, .null, .int 0, .int 0, .null]))] ∧ xN U)) (va_Qv (fun (_ : Unit) => True) (fun (_ : Unit) (t : State) => ∃ (q1 : Nat) (q3 : Nat) (q5 : Nat) (q7 : Nat) (q8 : Nat) (q10 : Nat) (q12 : Nat), va_P (dC, dI) vwCl [(h0, .inr (2, [.ref q1, .ref q3, .ref q5, .ref q7, .ref q8, .ref q10, .int 0, .int 0, .ref q12]))] t.heap ∧ va_K (dC, dI) vwCl [] t ∧ va_D (va_A [(h0, .inr (2, [.null, .null, .null, .null, .null, .null, .int 0, .int 0, .null]))] sz) [(h0, .inr (2, [.ref q1, .ref q3, .ref q5, .ref q7, .ref q8, .ref q10, .int 0, .int 0, .ref q12]))]) (va_A [(h0, .inr (2, [.null, .null, .null, .null, .null, .null, .int 0, .int 0, .null]))] sz)) 61 54035 (va_A [(h0, .inr (2, [.null, .null, .null, .null, .null, .null, .int 0, .int 0, .null]))] sz) := by
  refine Met.ofW (cc := cX2_init) (maxL := 2) (ret := none) (by decide) rfl ?_
  intro p e s m args below meth c s₁ B hml hv
  obtain ⟨rfl, hsz, hP, hK, hD0, hEx⟩ := hv
  have hx := B.exec
  have hb := B.bytes
  have hr := B.returns
  have hts : ∀ w ∈ wsG, w.before _ s = true := hG_of (atoms_spec (ws := (Cond.code yX2_init cX2_init 2 none :: wsG)) B.pre)
  have hown : s.vm.findClass RX2 = some m.cls := findClass_of_methodNamed B.named
  have hlocks := B.notSynchronized
  have hin : meth.name = "<init>" := (name_of_methodNamed B.named B.method).1
  subst hsz
  have hD := hD0.self (sz := s.heap.size)
  generalize hAe : va_A [(h0, .inr (2, [.null, .null, .null, .null, .null, .null, .int 0, .int 0, .null]))] s.heap.size = A at hD ⊢
  have hA : ∀ q : Nat, s.heap.size ≤ q → A q := fun q h => by rw [← hAe]; exact Or.inr h
  have hS : va_S A s.heap s.heap [] := va_S.rf
  have hl := lv_entry ([.ref h0]) (n := 2) (Nat.le_of_ble_eq_true rfl)
  rw [lg_entry_eq]
  generalize (lg_sl ([.ref h0]) ++ List.replicate (2 - (lg_sl ([.ref h0])).length) Slot.unset).toArray = ls at hl ⊢
  have hl : lv_has ls 2 [(0, .ref h0)] := hl
  refine lv_aload_n hx hb dX2_init_0 rfl (lv_at hl 0 rfl) ?_
  refine W.objInit hx hb hown (hts _ k223) (hts _ k27) (hts _ k28) rfl (by rw [hml]; exact hl.1) rfl dX2_init_1 (Nat.le_of_ble_eq_true rfl) (Nat.le_of_ble_eq_true rfl) ?_
  refine W.eq (g2 := F0 m 4 ls []) rfl ?_
  refine lv_aload_n hx hb dX2_init_4 rfl (lv_at hl 0 rfl) ?_
  refine lv_iconst (v := 4) hx hb dX2_init_5 (by decide) ?_
  refine va_newa (atype := .int) (ty := .int) (N' := 4) (a0 := (4, .inl (fun _ => 0))) hx hb (hts _ k65) rfl hK hP hD hS hA (fun _ => rfl) (by decide) (by decide) (Nat.le_of_ble_eq_true rfl) (Nat.le_of_ble_eq_true rfl) (Nat.le_of_ble_eq_true rfl) dX2_init_6 (fun q1 c2 H hK hP hD hS => ?_)
  have hK : va_K (dC, dI) vwCl [(c2, .int)] s := hK
  have hP : va_P (dC, dI) vwCl [(h0, .inr (2, [.null, .null, .null, .null, .null, .null, .int 0, .int 0, .null])), (q1, .inl (c2, 4, .inl (fun _ => 0)))] H := hP
  have hD : va_D A [(h0, .inr (2, [.null, .null, .null, .null, .null, .null, .int 0, .int 0, .null])), (q1, .inl (c2, 4, .inl (fun _ => 0)))] := hD
  refine W.widen (k := 1) (n := 4) (by omega) (by omega) ?_
  refine va_putF (D := (dC, dI)) (ci := 2) (v := .ref q1) (ty := .array .int) (C := RX2) (T := TX2) (N := 9) hx hb hts inG2 tyX2 tyX2_ok nmX2 hown hK hP hD hS 0 rfl rfl 0 (by decide) (hts _ k228) (fun _ h9 => h9) rfl hin rfl (by decide +kernel) rfl rfl (Nat.le_of_ble_eq_true rfl) dX2_init_8 (fun H locs hP hD hS => ?_)
  have hP : va_P (dC, dI) vwCl [(h0, .inr (2, [.ref q1, .null, .null, .null, .null, .null, .int 0, .int 0, .null])), (q1, .inl (c2, 4, .inl (fun _ => 0)))] H := hP
  have hD : va_D A [(h0, .inr (2, [.ref q1, .null, .null, .null, .null, .null, .int 0, .int 0, .null])), (q1, .inl (c2, 4, .inl (fun _ => 0)))] := hD
  refine lv_aload_n hx hb dX2_init_11 rfl (lv_at hl 0 rfl) ?_
  refine lv_iconst (v := 5) hx hb dX2_init_12 (by decide) ?_
  refine va_newq (C := "PageSkeleton$Row") (N' := 5) hx hb hown (hts _ k224) hEx.2.2.2 hK hP hD hS hA (by decide) (by decide) (Nat.le_of_ble_eq_true rfl) (Nat.le_of_ble_eq_true rfl) (Nat.le_of_ble_eq_true rfl) dX2_init_13 (fun q3 c4 H hK hP hD hS => ?_)
  have hK : va_K (dC, dI) vwCl [(c2, .int), (c4, .object "PageSkeleton$Row")] s := hK
  have hP : va_P (dC, dI) vwCl [(h0, .inr (2, [.ref q1, .null, .null, .null, .null, .null, .int 0, .int 0, .null])), (q1, .inl (c2, 4, .inl (fun _ => 0))), (q3, .inl (c4, 5, .inr (.inr (.inr (.inr (fun _ => none))))))] H := hP
  have hD : va_D A [(h0, .inr (2, [.ref q1, .null, .null, .null, .null, .null, .int 0, .int 0, .null])), (q1, .inl (c2, 4, .inl (fun _ => 0))), (q3, .inl (c4, 5, .inr (.inr (.inr (.inr (fun _ => none))))))] := hD
  refine W.widen (k := 2) (n := 9) (by omega) (by omega) ?_
  refine va_putF (D := (dC, dI)) (ci := 2) (v := .ref q3) (ty := .array (.object "PageSkeleton$Row")) (C := RX2) (T := TX2) (N := 9) hx hb hts inG2 tyX2 tyX2_ok nmX2 hown hK hP hD hS 0 rfl rfl 1 (by decide) (hts _ k229) (fun _ h9 => h9) rfl hin rfl (by decide +kernel) rfl rfl (Nat.le_of_ble_eq_true rfl) dX2_init_16 (fun H locs hP hD hS => ?_)
  have hP : va_P (dC, dI) vwCl [(h0, .inr (2, [.ref q1, .ref q3, .null, .null, .null, .null, .int 0, .int 0, .null])), (q1, .inl (c2, 4, .inl (fun _ => 0))), (q3, .inl (c4, 5, .inr (.inr (.inr (.inr (fun _ => none))))))] H := hP
  have hD : va_D A [(h0, .inr (2, [.ref q1, .ref q3, .null, .null, .null, .null, .int 0, .int 0, .null])), (q1, .inl (c2, 4, .inl (fun _ => 0))), (q3, .inl (c4, 5, .inr (.inr (.inr (.inr (fun _ => none))))))] := hD
  refine lv_aload_n hx hb dX2_init_19 rfl (lv_at hl 0 rfl) ?_
  refine lv_iconst (v := 5) hx hb dX2_init_20 (by decide) ?_
  refine va_newa (atype := .int) (ty := .int) (N' := 5) (a0 := (5, .inl (fun _ => 0))) hx hb (hts _ k65) rfl hK hP hD hS hA (fun _ => rfl) (by decide) (by decide) (Nat.le_of_ble_eq_true rfl) (Nat.le_of_ble_eq_true rfl) (Nat.le_of_ble_eq_true rfl) dX2_init_21 (fun q5 c6 H hK hP hD hS => ?_)
  have hK : va_K (dC, dI) vwCl [(c2, .int), (c4, .object "PageSkeleton$Row"), (c6, .int)] s := hK
  have hP : va_P (dC, dI) vwCl [(h0, .inr (2, [.ref q1, .ref q3, .null, .null, .null, .null, .int 0, .int 0, .null])), (q1, .inl (c2, 4, .inl (fun _ => 0))), (q3, .inl (c4, 5, .inr (.inr (.inr (.inr (fun _ => none)))))), (q5, .inl (c6, 5, .inl (fun _ => 0)))] H := hP
  have hD : va_D A [(h0, .inr (2, [.ref q1, .ref q3, .null, .null, .null, .null, .int 0, .int 0, .null])), (q1, .inl (c2, 4, .inl (fun _ => 0))), (q3, .inl (c4, 5, .inr (.inr (.inr (.inr (fun _ => none)))))), (q5, .inl (c6, 5, .inl (fun _ => 0)))] := hD
  refine W.widen (k := 3) (n := 14) (by omega) (by omega) ?_
  refine va_putF (D := (dC, dI)) (ci := 2) (v := .ref q5) (ty := .array .int) (C := RX2) (T := TX2) (N := 9) hx hb hts inG2 tyX2 tyX2_ok nmX2 hown hK hP hD hS 0 rfl rfl 2 (by decide) (hts _ k230) (fun _ h9 => h9) rfl hin rfl (by decide +kernel) rfl rfl (Nat.le_of_ble_eq_true rfl) dX2_init_23 (fun H locs hP hD hS => ?_)
  have hP : va_P (dC, dI) vwCl [(h0, .inr (2, [.ref q1, .ref q3, .ref q5, .null, .null, .null, .int 0, .int 0, .null])), (q1, .inl (c2, 4, .inl (fun _ => 0))), (q3, .inl (c4, 5, .inr (.inr (.inr (.inr (fun _ => none)))))), (q5, .inl (c6, 5, .inl (fun _ => 0)))] H := hP
  have hD : va_D A [(h0, .inr (2, [.ref q1, .ref q3, .ref q5, .null, .null, .null, .int 0, .int 0, .null])), (q1, .inl (c2, 4, .inl (fun _ => 0))), (q3, .inl (c4, 5, .inr (.inr (.inr (.inr (fun _ => none)))))), (q5, .inl (c6, 5, .inl (fun _ => 0)))] := hD
  refine lv_aload_n hx hb dX2_init_26 rfl (lv_at hl 0 rfl) ?_
  refine lv_bipush (v := 24) hx hb dX2_init_27 (by decide) ?_
  refine lv_sipush (v := 1100) hx hb dX2_init_29 (by decide) ?_
  refine va_mnX2 (kc := 25) (ks := 26424) hx hb hown (hts _ k226) hEx.2.1 hP hS (by decide +kernel) (by decide +kernel) (by decide +kernel) (Nat.le_of_ble_eq_true rfl) (Nat.le_of_ble_eq_true rfl) dX2_init_32 (fun q7 H hP hS => ?_)
  refine W.widen (k := 28) (n := 26438) (by omega) (by omega) ?_
  refine va_putF (D := (dC, dI)) (ci := 2) (v := .ref q7) (ty := .array (.array .int)) (C := RX2) (T := TX2) (N := 9) hx hb hts inG2 tyX2 tyX2_ok nmX2 hown hK hP hD hS 0 rfl rfl 3 (by decide) (hts _ k231) (fun _ h9 => h9) rfl hin rfl (by decide +kernel) rfl rfl (Nat.le_of_ble_eq_true rfl) dX2_init_36 (fun H locs hP hD hS => ?_)
  have hP : va_P (dC, dI) vwCl [(h0, .inr (2, [.ref q1, .ref q3, .ref q5, .ref q7, .null, .null, .int 0, .int 0, .null])), (q1, .inl (c2, 4, .inl (fun _ => 0))), (q3, .inl (c4, 5, .inr (.inr (.inr (.inr (fun _ => none)))))), (q5, .inl (c6, 5, .inl (fun _ => 0)))] H := hP
  have hD : va_D A [(h0, .inr (2, [.ref q1, .ref q3, .ref q5, .ref q7, .null, .null, .int 0, .int 0, .null])), (q1, .inl (c2, 4, .inl (fun _ => 0))), (q3, .inl (c4, 5, .inr (.inr (.inr (.inr (fun _ => none)))))), (q5, .inl (c6, 5, .inl (fun _ => 0)))] := hD
  refine lv_aload_n hx hb dX2_init_39 rfl (lv_at hl 0 rfl) ?_
  refine lv_bipush (v := 24) hx hb dX2_init_40 (by decide) ?_
  refine va_newa (atype := .int) (ty := .int) (N' := 24) (a0 := (24, .inl (fun _ => 0))) hx hb (hts _ k65) rfl hK hP hD hS hA (fun _ => rfl) (by decide) (by decide) (Nat.le_of_ble_eq_true rfl) (Nat.le_of_ble_eq_true rfl) (Nat.le_of_ble_eq_true rfl) dX2_init_42 (fun q8 c9 H hK hP hD hS => ?_)
  have hK : va_K (dC, dI) vwCl [(c2, .int), (c4, .object "PageSkeleton$Row"), (c6, .int), (c9, .int)] s := hK
  have hP : va_P (dC, dI) vwCl [(h0, .inr (2, [.ref q1, .ref q3, .ref q5, .ref q7, .null, .null, .int 0, .int 0, .null])), (q1, .inl (c2, 4, .inl (fun _ => 0))), (q3, .inl (c4, 5, .inr (.inr (.inr (.inr (fun _ => none)))))), (q5, .inl (c6, 5, .inl (fun _ => 0))), (q8, .inl (c9, 24, .inl (fun _ => 0)))] H := hP
  have hD : va_D A [(h0, .inr (2, [.ref q1, .ref q3, .ref q5, .ref q7, .null, .null, .int 0, .int 0, .null])), (q1, .inl (c2, 4, .inl (fun _ => 0))), (q3, .inl (c4, 5, .inr (.inr (.inr (.inr (fun _ => none)))))), (q5, .inl (c6, 5, .inl (fun _ => 0))), (q8, .inl (c9, 24, .inl (fun _ => 0)))] := hD
  refine W.widen (k := 29) (n := 26462) (by omega) (by omega) ?_
  refine va_putF (D := (dC, dI)) (ci := 2) (v := .ref q8) (ty := .array .int) (C := RX2) (T := TX2) (N := 9) hx hb hts inG2 tyX2 tyX2_ok nmX2 hown hK hP hD hS 0 rfl rfl 4 (by decide) (hts _ k232) (fun _ h9 => h9) rfl hin rfl (by decide +kernel) rfl rfl (Nat.le_of_ble_eq_true rfl) dX2_init_44 (fun H locs hP hD hS => ?_)
  have hP : va_P (dC, dI) vwCl [(h0, .inr (2, [.ref q1, .ref q3, .ref q5, .ref q7, .ref q8, .null, .int 0, .int 0, .null])), (q1, .inl (c2, 4, .inl (fun _ => 0))), (q3, .inl (c4, 5, .inr (.inr (.inr (.inr (fun _ => none)))))), (q5, .inl (c6, 5, .inl (fun _ => 0))), (q8, .inl (c9, 24, .inl (fun _ => 0)))] H := hP
  have hD : va_D A [(h0, .inr (2, [.ref q1, .ref q3, .ref q5, .ref q7, .ref q8, .null, .int 0, .int 0, .null])), (q1, .inl (c2, 4, .inl (fun _ => 0))), (q3, .inl (c4, 5, .inr (.inr (.inr (.inr (fun _ => none)))))), (q5, .inl (c6, 5, .inl (fun _ => 0))), (q8, .inl (c9, 24, .inl (fun _ => 0)))] := hD
  refine lv_aload_n hx hb dX2_init_47 rfl (lv_at hl 0 rfl) ?_
  refine lv_bipush (v := 24) hx hb dX2_init_48 (by decide) ?_
  refine va_newa (atype := .int) (ty := .int) (N' := 24) (a0 := (24, .inl (fun _ => 0))) hx hb (hts _ k65) rfl hK hP hD hS hA (fun _ => rfl) (by decide) (by decide) (Nat.le_of_ble_eq_true rfl) (Nat.le_of_ble_eq_true rfl) (Nat.le_of_ble_eq_true rfl) dX2_init_50 (fun q10 c11 H hK hP hD hS => ?_)
  have hK : va_K (dC, dI) vwCl [(c2, .int), (c4, .object "PageSkeleton$Row"), (c6, .int), (c9, .int), (c11, .int)] s := hK
  have hP : va_P (dC, dI) vwCl [(h0, .inr (2, [.ref q1, .ref q3, .ref q5, .ref q7, .ref q8, .null, .int 0, .int 0, .null])), (q1, .inl (c2, 4, .inl (fun _ => 0))), (q3, .inl (c4, 5, .inr (.inr (.inr (.inr (fun _ => none)))))), (q5, .inl (c6, 5, .inl (fun _ => 0))), (q8, .inl (c9, 24, .inl (fun _ => 0))), (q10, .inl (c11, 24, .inl (fun _ => 0)))] H := hP
  have hD : va_D A [(h0, .inr (2, [.ref q1, .ref q3, .ref q5, .ref q7, .ref q8, .null, .int 0, .int 0, .null])), (q1, .inl (c2, 4, .inl (fun _ => 0))), (q3, .inl (c4, 5, .inr (.inr (.inr (.inr (fun _ => none)))))), (q5, .inl (c6, 5, .inl (fun _ => 0))), (q8, .inl (c9, 24, .inl (fun _ => 0))), (q10, .inl (c11, 24, .inl (fun _ => 0)))] := hD
  refine W.widen (k := 30) (n := 26486) (by omega) (by omega) ?_
  refine va_putF (D := (dC, dI)) (ci := 2) (v := .ref q10) (ty := .array .int) (C := RX2) (T := TX2) (N := 9) hx hb hts inG2 tyX2 tyX2_ok nmX2 hown hK hP hD hS 0 rfl rfl 5 (by decide) (hts _ k233) (fun _ h9 => h9) rfl hin rfl (by decide +kernel) rfl rfl (Nat.le_of_ble_eq_true rfl) dX2_init_52 (fun H locs hP hD hS => ?_)
  have hP : va_P (dC, dI) vwCl [(h0, .inr (2, [.ref q1, .ref q3, .ref q5, .ref q7, .ref q8, .ref q10, .int 0, .int 0, .null])), (q1, .inl (c2, 4, .inl (fun _ => 0))), (q3, .inl (c4, 5, .inr (.inr (.inr (.inr (fun _ => none)))))), (q5, .inl (c6, 5, .inl (fun _ => 0))), (q8, .inl (c9, 24, .inl (fun _ => 0))), (q10, .inl (c11, 24, .inl (fun _ => 0)))] H := hP
  have hD : va_D A [(h0, .inr (2, [.ref q1, .ref q3, .ref q5, .ref q7, .ref q8, .ref q10, .int 0, .int 0, .null])), (q1, .inl (c2, 4, .inl (fun _ => 0))), (q3, .inl (c4, 5, .inr (.inr (.inr (.inr (fun _ => none)))))), (q5, .inl (c6, 5, .inl (fun _ => 0))), (q8, .inl (c9, 24, .inl (fun _ => 0))), (q10, .inl (c11, 24, .inl (fun _ => 0)))] := hD
  refine lv_aload_n hx hb dX2_init_55 rfl (lv_at hl 0 rfl) ?_
  refine lv_iconst (v := 0) hx hb dX2_init_56 (by decide) ?_
  refine va_put (D := (dC, dI)) (ci := 2) (v := .int 0) (ty := .int) (C := RX2) (T := TX2) (N := 9) hx hb hts inG2 tyX2 tyX2_ok nmX2 hown hK hP hD hS 0 rfl rfl 6 (by decide) (hts _ k234) (fun _ h9 => h9) rfl (by decide +kernel) rfl rfl (Nat.le_of_ble_eq_true rfl) dX2_init_57 (fun H locs hP hD hS => ?_)
  have hP : va_P (dC, dI) vwCl [(h0, .inr (2, [.ref q1, .ref q3, .ref q5, .ref q7, .ref q8, .ref q10, .int 0, .int 0, .null])), (q1, .inl (c2, 4, .inl (fun _ => 0))), (q3, .inl (c4, 5, .inr (.inr (.inr (.inr (fun _ => none)))))), (q5, .inl (c6, 5, .inl (fun _ => 0))), (q8, .inl (c9, 24, .inl (fun _ => 0))), (q10, .inl (c11, 24, .inl (fun _ => 0)))] H := hP
  have hD : va_D A [(h0, .inr (2, [.ref q1, .ref q3, .ref q5, .ref q7, .ref q8, .ref q10, .int 0, .int 0, .null])), (q1, .inl (c2, 4, .inl (fun _ => 0))), (q3, .inl (c4, 5, .inr (.inr (.inr (.inr (fun _ => none)))))), (q5, .inl (c6, 5, .inl (fun _ => 0))), (q8, .inl (c9, 24, .inl (fun _ => 0))), (q10, .inl (c11, 24, .inl (fun _ => 0)))] := hD
  refine lv_aload_n hx hb dX2_init_60 rfl (lv_at hl 0 rfl) ?_
  refine lv_iconst (v := 0) hx hb dX2_init_61 (by decide) ?_
  refine va_put (D := (dC, dI)) (ci := 2) (v := .int 0) (ty := .int) (C := RX2) (T := TX2) (N := 9) hx hb hts inG2 tyX2 tyX2_ok nmX2 hown hK hP hD hS 0 rfl rfl 7 (by decide) (hts _ k235) (fun _ h9 => h9) rfl (by decide +kernel) rfl rfl (Nat.le_of_ble_eq_true rfl) dX2_init_62 (fun H locs hP hD hS => ?_)
  have hP : va_P (dC, dI) vwCl [(h0, .inr (2, [.ref q1, .ref q3, .ref q5, .ref q7, .ref q8, .ref q10, .int 0, .int 0, .null])), (q1, .inl (c2, 4, .inl (fun _ => 0))), (q3, .inl (c4, 5, .inr (.inr (.inr (.inr (fun _ => none)))))), (q5, .inl (c6, 5, .inl (fun _ => 0))), (q8, .inl (c9, 24, .inl (fun _ => 0))), (q10, .inl (c11, 24, .inl (fun _ => 0)))] H := hP
  have hD : va_D A [(h0, .inr (2, [.ref q1, .ref q3, .ref q5, .ref q7, .ref q8, .ref q10, .int 0, .int 0, .null])), (q1, .inl (c2, 4, .inl (fun _ => 0))), (q3, .inl (c4, 5, .inr (.inr (.inr (.inr (fun _ => none)))))), (q5, .inl (c6, 5, .inl (fun _ => 0))), (q8, .inl (c9, 24, .inl (fun _ => 0))), (q10, .inl (c11, 24, .inl (fun _ => 0)))] := hD
  refine lv_aload_n hx hb dX2_init_65 rfl (lv_at hl 0 rfl) ?_
  refine lv_iconst (v := 4) hx hb dX2_init_66 (by decide) ?_
  refine va_newa (atype := .int) (ty := .int) (N' := 4) (a0 := (4, .inl (fun _ => 0))) hx hb (hts _ k65) rfl hK hP hD hS hA (fun _ => rfl) (by decide) (by decide) (Nat.le_of_ble_eq_true rfl) (Nat.le_of_ble_eq_true rfl) (Nat.le_of_ble_eq_true rfl) dX2_init_67 (fun q12 c13 H hK hP hD hS => ?_)
  have hK : va_K (dC, dI) vwCl [(c2, .int), (c4, .object "PageSkeleton$Row"), (c6, .int), (c9, .int), (c11, .int), (c13, .int)] s := hK
  have hP : va_P (dC, dI) vwCl [(h0, .inr (2, [.ref q1, .ref q3, .ref q5, .ref q7, .ref q8, .ref q10, .int 0, .int 0, .null])), (q1, .inl (c2, 4, .inl (fun _ => 0))), (q3, .inl (c4, 5, .inr (.inr (.inr (.inr (fun _ => none)))))), (q5, .inl (c6, 5, .inl (fun _ => 0))), (q8, .inl (c9, 24, .inl (fun _ => 0))), (q10, .inl (c11, 24, .inl (fun _ => 0))), (q12, .inl (c13, 4, .inl (fun _ => 0)))] H := hP
  have hD : va_D A [(h0, .inr (2, [.ref q1, .ref q3, .ref q5, .ref q7, .ref q8, .ref q10, .int 0, .int 0, .null])), (q1, .inl (c2, 4, .inl (fun _ => 0))), (q3, .inl (c4, 5, .inr (.inr (.inr (.inr (fun _ => none)))))), (q5, .inl (c6, 5, .inl (fun _ => 0))), (q8, .inl (c9, 24, .inl (fun _ => 0))), (q10, .inl (c11, 24, .inl (fun _ => 0))), (q12, .inl (c13, 4, .inl (fun _ => 0)))] := hD
  refine W.widen (k := 31) (n := 26490) (by omega) (by omega) ?_
  refine va_putF (D := (dC, dI)) (ci := 2) (v := .ref q12) (ty := .array .int) (C := RX2) (T := TX2) (N := 9) hx hb hts inG2 tyX2 tyX2_ok nmX2 hown hK hP hD hS 0 rfl rfl 8 (by decide) (hts _ k237) (fun _ h9 => h9) rfl hin rfl (by decide +kernel) rfl rfl (Nat.le_of_ble_eq_true rfl) dX2_init_69 (fun H locs hP hD hS => ?_)
  have hP : va_P (dC, dI) vwCl [(h0, .inr (2, [.ref q1, .ref q3, .ref q5, .ref q7, .ref q8, .ref q10, .int 0, .int 0, .ref q12])), (q1, .inl (c2, 4, .inl (fun _ => 0))), (q3, .inl (c4, 5, .inr (.inr (.inr (.inr (fun _ => none)))))), (q5, .inl (c6, 5, .inl (fun _ => 0))), (q8, .inl (c9, 24, .inl (fun _ => 0))), (q10, .inl (c11, 24, .inl (fun _ => 0))), (q12, .inl (c13, 4, .inl (fun _ => 0)))] H := hP
  have hD : va_D A [(h0, .inr (2, [.ref q1, .ref q3, .ref q5, .ref q7, .ref q8, .ref q10, .int 0, .int 0, .ref q12])), (q1, .inl (c2, 4, .inl (fun _ => 0))), (q3, .inl (c4, 5, .inr (.inr (.inr (.inr (fun _ => none)))))), (q5, .inl (c6, 5, .inl (fun _ => 0))), (q8, .inl (c9, 24, .inl (fun _ => 0))), (q10, .inl (c11, 24, .inl (fun _ => 0))), (q12, .inl (c13, 4, .inl (fun _ => 0)))] := hD
  refine lv_iconst (v := 0) hx hb dX2_init_72 (by decide) ?_
  refine lv_istore_n (lv' := [(1, .int 0), (0, .ref h0)]) hx hb dX2_init_73 rfl hl (by decide) rfl (fun ls hl => ?_)
  have hP := hP.sub (ws' := [(h0, .inr (2, [.ref q1, .ref q3, .ref q5, .ref q7, .ref q8, .ref q10, .int 0, .int 0, .ref q12])), (q3, .inl (c4, 5, .inr (.inr (.inr (.inr (fun _ => none))))))]) [0, 2] rfl
  have hD := hD.sub (ws' := [(h0, .inr (2, [.ref q1, .ref q3, .ref q5, .ref q7, .ref q8, .ref q10, .int 0, .int 0, .ref q12])), (q3, .inl (c4, 5, .inr (.inr (.inr (.inr (fun _ => none))))))]) [0, 2] (by decide) rfl
  have hK := hK.sub (tys' := [(c4, .object "PageSkeleton$Row")]) [1] rfl
  refine lv_iload_n hx hb dX2_init_74 rfl (lv_at hl 0 rfl) ?_
  refine lv_iconst (v := 4) hx hb dX2_init_75 (by decide) ?_
  refine lv_icmp_gt (tgt := 101) hx hb dX2_init_76 (by decide) (fun c9 => absurd c9 (by decide +kernel)) (fun _ => ?_)
  refine lv_aload_n hx hb dX2_init_79 rfl (lv_at hl 1 rfl) ?_
  refine va_get (D := (dC, dI)) (ci := 2) (v := .ref q3) (C := RX2) (T := TX2) (N := 9) hx hb hts inG2 hown hK hP 0 rfl rfl 1 (by decide) (hts _ k229) (fun _ h9 => h9) rfl dX2_init_80 ?_
  refine lv_iload_n hx hb dX2_init_83 rfl (lv_at hl 0 rfl) ?_
  refine va_new (ci := 4) (fs := [.null, .null, .null, .null, .null, .int 0, .int 0, .int 0]) (C := RX4) (T := TX4) (N := 8) hx hb hts inG4 tyX4 tyX4_ok hown (hts _ k224) (hts _ k69) (hts _ k3) hK hP hD hS hA rfl (fun j hj => by rcases (show j = 0 ∨ j = 1 ∨ j = 2 ∨ j = 3 ∨ j = 4 ∨ j = 5 ∨ j = 6 ∨ j = 7 by omega) with rfl | rfl | rfl | rfl | rfl | rfl | rfl | rfl <;> rfl) (Nat.le_of_ble_eq_true rfl) (Nat.le_of_ble_eq_true rfl) dX2_init_84 (fun q14 H hP hD hS => ?_)
  have hP : va_P (dC, dI) vwCl [(h0, .inr (2, [.ref q1, .ref q3, .ref q5, .ref q7, .ref q8, .ref q10, .int 0, .int 0, .ref q12])), (q3, .inl (c4, 5, .inr (.inr (.inr (.inr (fun _ => none)))))), (q14, .inr (4, [.null, .null, .null, .null, .null, .int 0, .int 0, .int 0]))] H := hP
  have hD : va_D A [(h0, .inr (2, [.ref q1, .ref q3, .ref q5, .ref q7, .ref q8, .ref q10, .int 0, .int 0, .ref q12])), (q3, .inl (c4, 5, .inr (.inr (.inr (.inr (fun _ => none)))))), (q14, .inr (4, [.null, .null, .null, .null, .null, .int 0, .int 0, .int 0]))] := hD
  refine W.widen (k := 32) (n := 26498) (by omega) (by omega) ?_
  refine lv_dup hx hb dX2_init_87 rfl ?_
  refine lv_sipush (v := 1100) hx hb dX2_init_88 (by decide) ?_
  have hPc := hP.sub (ws' := [(q14, .inr (4, [.null, .null, .null, .null, .null, .int 0, .int 0, .int 0]))]) [2] rfl
  have hDc := hD.sub (ws' := [(q14, .inr (4, [.null, .null, .null, .null, .null, .int 0, .int 0, .int 0]))]) [2] (by decide) rfl
  have hKc := hK.sub (tys' := []) [] rfl
  have hFc := va_free (wc := [(q14, .inr (4, [.null, .null, .null, .null, .null, .int 0, .int 0, .int 0]))]) hD hS hA [2] rfl
  refine va_callv (va_runI (As := [.int 1100]) (rest := [.ref q14, .int 0, .ref q3]) ⟨hx, hb, hml, hown, hts⟩ (c_Row_init l dC dI H.size (q14)) (cwI 1 hts (gI_G k72) rfl rfl rfl (hts _ k3) (hts _ k227) (hts _ k71) rfl (by decide +kernel) ⟨Nat.le_of_ble_eq_true rfl, Nat.le_of_ble_eq_true rfl⟩) ⟨fun a U g mk q => by obtain ⟨q0, q1, qP, qK, qD⟩ := q; exact ⟨q0, q1, qP, va_K.moved (u := U) (U := U.calling g mk a) (Vm.Alike.refl U.vm) qK, qD⟩, fun U hU hW => ⟨rfl, by rw [hU], by rw [hU]; exact hPc, va_K.moved hW.alike hKc, hDc.weaken (fun _ _ _ _ => trivial)⟩⟩ rfl rfl hl.1 rfl (lv_room (Nat.le_of_ble_eq_true rfl)) dX2_init_91 ⟨Nat.le_of_ble_eq_true rfl, Nat.le_of_ble_eq_true rfl⟩) hS (fun q _ h => hFc q h) hFc (fun u t H1 locs ht hvm hw hB hz1 hk1 hS => ?_)
  obtain ⟨q15, q16, q17, q18, q19, c20, hP1, hK1, hD1⟩ := hB
  rw [ht] at hP1
  have hK1 := va_K.moved hvm.symm hK1
  try dsimp only at hw
  obtain ⟨hP, hD⟩ := va_join (wr := [(h0, .inr (2, [.ref q1, .ref q3, .ref q5, .ref q7, .ref q8, .ref q10, .int 0, .int 0, .ref q12])), (q3, .inl (c4, 5, .inr (.inr (.inr (.inr (fun _ => none))))))]) (w1 := [(q14, .inr (4, [.ref q15, .ref q16, .ref q17, .ref q18, .ref q19, .int 0, .int 0, .int 0])), (q17, .inl (c20, 1101, .inl (fun _ => 0)))]) hP hD [2] [0, 1] rfl rfl (by decide) (by decide) hk1 hFc hP1 hD1
  have hK := hK.app hK1
  generalize H1 = H at hP hS ⊢
  have hP : va_P (dC, dI) vwCl [(h0, .inr (2, [.ref q1, .ref q3, .ref q5, .ref q7, .ref q8, .ref q10, .int 0, .int 0, .ref q12])), (q3, .inl (c4, 5, .inr (.inr (.inr (.inr (fun _ => none)))))), (q14, .inr (4, [.ref q15, .ref q16, .ref q17, .ref q18, .ref q19, .int 0, .int 0, .int 0])), (q17, .inl (c20, 1101, .inl (fun _ => 0)))] H := hP
  have hD : va_D A [(h0, .inr (2, [.ref q1, .ref q3, .ref q5, .ref q7, .ref q8, .ref q10, .int 0, .int 0, .ref q12])), (q3, .inl (c4, 5, .inr (.inr (.inr (.inr (fun _ => none)))))), (q14, .inr (4, [.ref q15, .ref q16, .ref q17, .ref q18, .ref q19, .int 0, .int 0, .int 0])), (q17, .inl (c20, 1101, .inl (fun _ => 0)))] := hD
  have hK : va_K (dC, dI) vwCl [(c4, .object "PageSkeleton$Row"), (c20, .int)] s := hK
  refine W.widen (k := 37) (n := 31999) (by omega) (by omega) ?_
  refine va_astq (r := (RX4, TX4, 8)) hx hb hK hP hD hS 1 0 2 4 rfl rfl rfl rfl (by unfold vp_in; decide +kernel) dX2_init_94 (fun H locs hP hD hS => ?_)
  have hP : va_P (dC, dI) vwCl [(h0, .inr (2, [.ref q1, .ref q3, .ref q5, .ref q7, .ref q8, .ref q10, .int 0, .int 0, .ref q12])), (q3, .inl (c4, 5, .inr (.inr (.inr (.inr (va_up (fun _ => none) (0 : Int32).toNatClampNeg (some q14))))))), (q14, .inr (4, [.ref q15, .ref q16, .ref q17, .ref q18, .ref q19, .int 0, .int 0, .int 0])), (q17, .inl (c20, 1101, .inl (fun _ => 0)))] H := hP
  have hD : va_D A [(h0, .inr (2, [.ref q1, .ref q3, .ref q5, .ref q7, .ref q8, .ref q10, .int 0, .int 0, .ref q12])), (q3, .inl (c4, 5, .inr (.inr (.inr (.inr (va_up (fun _ => none) (0 : Int32).toNatClampNeg (some q14))))))), (q14, .inr (4, [.ref q15, .ref q16, .ref q17, .ref q18, .ref q19, .int 0, .int 0, .int 0])), (q17, .inl (c20, 1101, .inl (fun _ => 0)))] := hD
  generalize va_up (fun _ => none) (0 : Int32).toNatClampNeg (some q14) = f21 at hP hD
  refine lv_iinc (v := 1) (lv' := [(1, .int 1), (0, .ref h0)]) hx hb dX2_init_95 hl (k := 0) rfl (by decide +kernel) (by decide) rfl (fun ls hl => ?_)
  refine lv_goto (tgt := 74) hx hb dX2_init_98 (by decide) ?_
  have hP := hP.sub (ws' := [(h0, .inr (2, [.ref q1, .ref q3, .ref q5, .ref q7, .ref q8, .ref q10, .int 0, .int 0, .ref q12])), (q3, .inl (c4, 5, .inr (.inr (.inr (.inr (f21))))))]) [0, 1] rfl
  have hD := hD.sub (ws' := [(h0, .inr (2, [.ref q1, .ref q3, .ref q5, .ref q7, .ref q8, .ref q10, .int 0, .int 0, .ref q12])), (q3, .inl (c4, 5, .inr (.inr (.inr (.inr (f21))))))]) [0, 1] (by decide) rfl
  have hK := hK.sub (tys' := [(c4, .object "PageSkeleton$Row")]) [0] rfl
  refine lv_iload_n hx hb dX2_init_74 rfl (lv_at hl 0 rfl) ?_
  refine lv_iconst (v := 4) hx hb dX2_init_75 (by decide) ?_
  refine lv_icmp_gt (tgt := 101) hx hb dX2_init_76 (by decide) (fun c9 => absurd c9 (by decide +kernel)) (fun _ => ?_)
  refine lv_aload_n hx hb dX2_init_79 rfl (lv_at hl 1 rfl) ?_
  refine va_get (D := (dC, dI)) (ci := 2) (v := .ref q3) (C := RX2) (T := TX2) (N := 9) hx hb hts inG2 hown hK hP 0 rfl rfl 1 (by decide) (hts _ k229) (fun _ h9 => h9) rfl dX2_init_80 ?_
  refine lv_iload_n hx hb dX2_init_83 rfl (lv_at hl 0 rfl) ?_
  refine va_new (ci := 4) (fs := [.null, .null, .null, .null, .null, .int 0, .int 0, .int 0]) (C := RX4) (T := TX4) (N := 8) hx hb hts inG4 tyX4 tyX4_ok hown (hts _ k224) (hts _ k69) (hts _ k3) hK hP hD hS hA rfl (fun j hj => by rcases (show j = 0 ∨ j = 1 ∨ j = 2 ∨ j = 3 ∨ j = 4 ∨ j = 5 ∨ j = 6 ∨ j = 7 by omega) with rfl | rfl | rfl | rfl | rfl | rfl | rfl | rfl <;> rfl) (Nat.le_of_ble_eq_true rfl) (Nat.le_of_ble_eq_true rfl) dX2_init_84 (fun q22 H hP hD hS => ?_)
  have hP : va_P (dC, dI) vwCl [(h0, .inr (2, [.ref q1, .ref q3, .ref q5, .ref q7, .ref q8, .ref q10, .int 0, .int 0, .ref q12])), (q3, .inl (c4, 5, .inr (.inr (.inr (.inr (f21)))))), (q22, .inr (4, [.null, .null, .null, .null, .null, .int 0, .int 0, .int 0]))] H := hP
  have hD : va_D A [(h0, .inr (2, [.ref q1, .ref q3, .ref q5, .ref q7, .ref q8, .ref q10, .int 0, .int 0, .ref q12])), (q3, .inl (c4, 5, .inr (.inr (.inr (.inr (f21)))))), (q22, .inr (4, [.null, .null, .null, .null, .null, .int 0, .int 0, .int 0]))] := hD
  refine W.widen (k := 38) (n := 32007) (by omega) (by omega) ?_
  refine lv_dup hx hb dX2_init_87 rfl ?_
  refine lv_sipush (v := 1100) hx hb dX2_init_88 (by decide) ?_
  have hPc := hP.sub (ws' := [(q22, .inr (4, [.null, .null, .null, .null, .null, .int 0, .int 0, .int 0]))]) [2] rfl
  have hDc := hD.sub (ws' := [(q22, .inr (4, [.null, .null, .null, .null, .null, .int 0, .int 0, .int 0]))]) [2] (by decide) rfl
  have hKc := hK.sub (tys' := []) [] rfl
  have hFc := va_free (wc := [(q22, .inr (4, [.null, .null, .null, .null, .null, .int 0, .int 0, .int 0]))]) hD hS hA [2] rfl
  refine va_callv (va_runI (As := [.int 1100]) (rest := [.ref q22, .int 1, .ref q3]) ⟨hx, hb, hml, hown, hts⟩ (c_Row_init l dC dI H.size (q22)) (cwI 1 hts (gI_G k72) rfl rfl rfl (hts _ k3) (hts _ k227) (hts _ k71) rfl (by decide +kernel) ⟨Nat.le_of_ble_eq_true rfl, Nat.le_of_ble_eq_true rfl⟩) ⟨fun a U g mk q => by obtain ⟨q0, q1, qP, qK, qD⟩ := q; exact ⟨q0, q1, qP, va_K.moved (u := U) (U := U.calling g mk a) (Vm.Alike.refl U.vm) qK, qD⟩, fun U hU hW => ⟨rfl, by rw [hU], by rw [hU]; exact hPc, va_K.moved hW.alike hKc, hDc.weaken (fun _ _ _ _ => trivial)⟩⟩ rfl rfl hl.1 rfl (lv_room (Nat.le_of_ble_eq_true rfl)) dX2_init_91 ⟨Nat.le_of_ble_eq_true rfl, Nat.le_of_ble_eq_true rfl⟩) hS (fun q _ h => hFc q h) hFc (fun u t H1 locs ht hvm hw hB hz1 hk1 hS => ?_)
  obtain ⟨q23, q24, q25, q26, q27, c28, hP1, hK1, hD1⟩ := hB
  rw [ht] at hP1
  have hK1 := va_K.moved hvm.symm hK1
  try dsimp only at hw
  obtain ⟨hP, hD⟩ := va_join (wr := [(h0, .inr (2, [.ref q1, .ref q3, .ref q5, .ref q7, .ref q8, .ref q10, .int 0, .int 0, .ref q12])), (q3, .inl (c4, 5, .inr (.inr (.inr (.inr (f21))))))]) (w1 := [(q22, .inr (4, [.ref q23, .ref q24, .ref q25, .ref q26, .ref q27, .int 0, .int 0, .int 0])), (q25, .inl (c28, 1101, .inl (fun _ => 0)))]) hP hD [2] [0, 1] rfl rfl (by decide) (by decide) hk1 hFc hP1 hD1
  have hK := hK.app hK1
  generalize H1 = H at hP hS ⊢
  have hP : va_P (dC, dI) vwCl [(h0, .inr (2, [.ref q1, .ref q3, .ref q5, .ref q7, .ref q8, .ref q10, .int 0, .int 0, .ref q12])), (q3, .inl (c4, 5, .inr (.inr (.inr (.inr (f21)))))), (q22, .inr (4, [.ref q23, .ref q24, .ref q25, .ref q26, .ref q27, .int 0, .int 0, .int 0])), (q25, .inl (c28, 1101, .inl (fun _ => 0)))] H := hP
  have hD : va_D A [(h0, .inr (2, [.ref q1, .ref q3, .ref q5, .ref q7, .ref q8, .ref q10, .int 0, .int 0, .ref q12])), (q3, .inl (c4, 5, .inr (.inr (.inr (.inr (f21)))))), (q22, .inr (4, [.ref q23, .ref q24, .ref q25, .ref q26, .ref q27, .int 0, .int 0, .int 0])), (q25, .inl (c28, 1101, .inl (fun _ => 0)))] := hD
  have hK : va_K (dC, dI) vwCl [(c4, .object "PageSkeleton$Row"), (c28, .int)] s := hK
  refine W.widen (k := 43) (n := 37508) (by omega) (by omega) ?_
  refine va_astq (r := (RX4, TX4, 8)) hx hb hK hP hD hS 1 0 2 4 rfl rfl rfl rfl (by unfold vp_in; decide +kernel) dX2_init_94 (fun H locs hP hD hS => ?_)
  have hP : va_P (dC, dI) vwCl [(h0, .inr (2, [.ref q1, .ref q3, .ref q5, .ref q7, .ref q8, .ref q10, .int 0, .int 0, .ref q12])), (q3, .inl (c4, 5, .inr (.inr (.inr (.inr (va_up (f21) (1 : Int32).toNatClampNeg (some q22))))))), (q22, .inr (4, [.ref q23, .ref q24, .ref q25, .ref q26, .ref q27, .int 0, .int 0, .int 0])), (q25, .inl (c28, 1101, .inl (fun _ => 0)))] H := hP
  have hD : va_D A [(h0, .inr (2, [.ref q1, .ref q3, .ref q5, .ref q7, .ref q8, .ref q10, .int 0, .int 0, .ref q12])), (q3, .inl (c4, 5, .inr (.inr (.inr (.inr (va_up (f21) (1 : Int32).toNatClampNeg (some q22))))))), (q22, .inr (4, [.ref q23, .ref q24, .ref q25, .ref q26, .ref q27, .int 0, .int 0, .int 0])), (q25, .inl (c28, 1101, .inl (fun _ => 0)))] := hD
  generalize va_up (f21) (1 : Int32).toNatClampNeg (some q22) = f29 at hP hD
  refine lv_iinc (v := 2) (lv' := [(1, .int 2), (0, .ref h0)]) hx hb dX2_init_95 hl (k := 0) rfl (by decide +kernel) (by decide) rfl (fun ls hl => ?_)
  refine lv_goto (tgt := 74) hx hb dX2_init_98 (by decide) ?_
  have hP := hP.sub (ws' := [(h0, .inr (2, [.ref q1, .ref q3, .ref q5, .ref q7, .ref q8, .ref q10, .int 0, .int 0, .ref q12])), (q3, .inl (c4, 5, .inr (.inr (.inr (.inr (f29))))))]) [0, 1] rfl
  have hD := hD.sub (ws' := [(h0, .inr (2, [.ref q1, .ref q3, .ref q5, .ref q7, .ref q8, .ref q10, .int 0, .int 0, .ref q12])), (q3, .inl (c4, 5, .inr (.inr (.inr (.inr (f29))))))]) [0, 1] (by decide) rfl
  have hK := hK.sub (tys' := [(c4, .object "PageSkeleton$Row")]) [0] rfl
  refine lv_iload_n hx hb dX2_init_74 rfl (lv_at hl 0 rfl) ?_
  refine lv_iconst (v := 4) hx hb dX2_init_75 (by decide) ?_
  refine lv_icmp_gt (tgt := 101) hx hb dX2_init_76 (by decide) (fun c9 => absurd c9 (by decide +kernel)) (fun _ => ?_)
  refine lv_aload_n hx hb dX2_init_79 rfl (lv_at hl 1 rfl) ?_
  refine va_get (D := (dC, dI)) (ci := 2) (v := .ref q3) (C := RX2) (T := TX2) (N := 9) hx hb hts inG2 hown hK hP 0 rfl rfl 1 (by decide) (hts _ k229) (fun _ h9 => h9) rfl dX2_init_80 ?_
  refine lv_iload_n hx hb dX2_init_83 rfl (lv_at hl 0 rfl) ?_
  refine va_new (ci := 4) (fs := [.null, .null, .null, .null, .null, .int 0, .int 0, .int 0]) (C := RX4) (T := TX4) (N := 8) hx hb hts inG4 tyX4 tyX4_ok hown (hts _ k224) (hts _ k69) (hts _ k3) hK hP hD hS hA rfl (fun j hj => by rcases (show j = 0 ∨ j = 1 ∨ j = 2 ∨ j = 3 ∨ j = 4 ∨ j = 5 ∨ j = 6 ∨ j = 7 by omega) with rfl | rfl | rfl | rfl | rfl | rfl | rfl | rfl <;> rfl) (Nat.le_of_ble_eq_true rfl) (Nat.le_of_ble_eq_true rfl) dX2_init_84 (fun q30 H hP hD hS => ?_)
  have hP : va_P (dC, dI) vwCl [(h0, .inr (2, [.ref q1, .ref q3, .ref q5, .ref q7, .ref q8, .ref q10, .int 0, .int 0, .ref q12])), (q3, .inl (c4, 5, .inr (.inr (.inr (.inr (f29)))))), (q30, .inr (4, [.null, .null, .null, .null, .null, .int 0, .int 0, .int 0]))] H := hP
  have hD : va_D A [(h0, .inr (2, [.ref q1, .ref q3, .ref q5, .ref q7, .ref q8, .ref q10, .int 0, .int 0, .ref q12])), (q3, .inl (c4, 5, .inr (.inr (.inr (.inr (f29)))))), (q30, .inr (4, [.null, .null, .null, .null, .null, .int 0, .int 0, .int 0]))] := hD
  refine W.widen (k := 44) (n := 37516) (by omega) (by omega) ?_
  refine lv_dup hx hb dX2_init_87 rfl ?_
  refine lv_sipush (v := 1100) hx hb dX2_init_88 (by decide) ?_
  have hPc := hP.sub (ws' := [(q30, .inr (4, [.null, .null, .null, .null, .null, .int 0, .int 0, .int 0]))]) [2] rfl
  have hDc := hD.sub (ws' := [(q30, .inr (4, [.null, .null, .null, .null, .null, .int 0, .int 0, .int 0]))]) [2] (by decide) rfl
  have hKc := hK.sub (tys' := []) [] rfl
  have hFc := va_free (wc := [(q30, .inr (4, [.null, .null, .null, .null, .null, .int 0, .int 0, .int 0]))]) hD hS hA [2] rfl
  refine va_callv (va_runI (As := [.int 1100]) (rest := [.ref q30, .int 2, .ref q3]) ⟨hx, hb, hml, hown, hts⟩ (c_Row_init l dC dI H.size (q30)) (cwI 1 hts (gI_G k72) rfl rfl rfl (hts _ k3) (hts _ k227) (hts _ k71) rfl (by decide +kernel) ⟨Nat.le_of_ble_eq_true rfl, Nat.le_of_ble_eq_true rfl⟩) ⟨fun a U g mk q => by obtain ⟨q0, q1, qP, qK, qD⟩ := q; exact ⟨q0, q1, qP, va_K.moved (u := U) (U := U.calling g mk a) (Vm.Alike.refl U.vm) qK, qD⟩, fun U hU hW => ⟨rfl, by rw [hU], by rw [hU]; exact hPc, va_K.moved hW.alike hKc, hDc.weaken (fun _ _ _ _ => trivial)⟩⟩ rfl rfl hl.1 rfl (lv_room (Nat.le_of_ble_eq_true rfl)) dX2_init_91 ⟨Nat.le_of_ble_eq_true rfl, Nat.le_of_ble_eq_true rfl⟩) hS (fun q _ h => hFc q h) hFc (fun u t H1 locs ht hvm hw hB hz1 hk1 hS => ?_)
  obtain ⟨q31, q32, q33, q34, q35, c36, hP1, hK1, hD1⟩ := hB
  rw [ht] at hP1
  have hK1 := va_K.moved hvm.symm hK1
  try dsimp only at hw
  obtain ⟨hP, hD⟩ := va_join (wr := [(h0, .inr (2, [.ref q1, .ref q3, .ref q5, .ref q7, .ref q8, .ref q10, .int 0, .int 0, .ref q12])), (q3, .inl (c4, 5, .inr (.inr (.inr (.inr (f29))))))]) (w1 := [(q30, .inr (4, [.ref q31, .ref q32, .ref q33, .ref q34, .ref q35, .int 0, .int 0, .int 0])), (q33, .inl (c36, 1101, .inl (fun _ => 0)))]) hP hD [2] [0, 1] rfl rfl (by decide) (by decide) hk1 hFc hP1 hD1
  have hK := hK.app hK1
  generalize H1 = H at hP hS ⊢
  have hP : va_P (dC, dI) vwCl [(h0, .inr (2, [.ref q1, .ref q3, .ref q5, .ref q7, .ref q8, .ref q10, .int 0, .int 0, .ref q12])), (q3, .inl (c4, 5, .inr (.inr (.inr (.inr (f29)))))), (q30, .inr (4, [.ref q31, .ref q32, .ref q33, .ref q34, .ref q35, .int 0, .int 0, .int 0])), (q33, .inl (c36, 1101, .inl (fun _ => 0)))] H := hP
  have hD : va_D A [(h0, .inr (2, [.ref q1, .ref q3, .ref q5, .ref q7, .ref q8, .ref q10, .int 0, .int 0, .ref q12])), (q3, .inl (c4, 5, .inr (.inr (.inr (.inr (f29)))))), (q30, .inr (4, [.ref q31, .ref q32, .ref q33, .ref q34, .ref q35, .int 0, .int 0, .int 0])), (q33, .inl (c36, 1101, .inl (fun _ => 0)))] := hD
  have hK : va_K (dC, dI) vwCl [(c4, .object "PageSkeleton$Row"), (c36, .int)] s := hK
  refine W.widen (k := 49) (n := 43017) (by omega) (by omega) ?_
  refine va_astq (r := (RX4, TX4, 8)) hx hb hK hP hD hS 1 0 2 4 rfl rfl rfl rfl (by unfold vp_in; decide +kernel) dX2_init_94 (fun H locs hP hD hS => ?_)
  have hP : va_P (dC, dI) vwCl [(h0, .inr (2, [.ref q1, .ref q3, .ref q5, .ref q7, .ref q8, .ref q10, .int 0, .int 0, .ref q12])), (q3, .inl (c4, 5, .inr (.inr (.inr (.inr (va_up (f29) (2 : Int32).toNatClampNeg (some q30))))))), (q30, .inr (4, [.ref q31, .ref q32, .ref q33, .ref q34, .ref q35, .int 0, .int 0, .int 0])), (q33, .inl (c36, 1101, .inl (fun _ => 0)))] H := hP
  have hD : va_D A [(h0, .inr (2, [.ref q1, .ref q3, .ref q5, .ref q7, .ref q8, .ref q10, .int 0, .int 0, .ref q12])), (q3, .inl (c4, 5, .inr (.inr (.inr (.inr (va_up (f29) (2 : Int32).toNatClampNeg (some q30))))))), (q30, .inr (4, [.ref q31, .ref q32, .ref q33, .ref q34, .ref q35, .int 0, .int 0, .int 0])), (q33, .inl (c36, 1101, .inl (fun _ => 0)))] := hD
  generalize va_up (f29) (2 : Int32).toNatClampNeg (some q30) = f37 at hP hD
  refine lv_iinc (v := 3) (lv' := [(1, .int 3), (0, .ref h0)]) hx hb dX2_init_95 hl (k := 0) rfl (by decide +kernel) (by decide) rfl (fun ls hl => ?_)
  refine lv_goto (tgt := 74) hx hb dX2_init_98 (by decide) ?_
  have hP := hP.sub (ws' := [(h0, .inr (2, [.ref q1, .ref q3, .ref q5, .ref q7, .ref q8, .ref q10, .int 0, .int 0, .ref q12])), (q3, .inl (c4, 5, .inr (.inr (.inr (.inr (f37))))))]) [0, 1] rfl
  have hD := hD.sub (ws' := [(h0, .inr (2, [.ref q1, .ref q3, .ref q5, .ref q7, .ref q8, .ref q10, .int 0, .int 0, .ref q12])), (q3, .inl (c4, 5, .inr (.inr (.inr (.inr (f37))))))]) [0, 1] (by decide) rfl
  have hK := hK.sub (tys' := [(c4, .object "PageSkeleton$Row")]) [0] rfl
  refine lv_iload_n hx hb dX2_init_74 rfl (lv_at hl 0 rfl) ?_
  refine lv_iconst (v := 4) hx hb dX2_init_75 (by decide) ?_
  refine lv_icmp_gt (tgt := 101) hx hb dX2_init_76 (by decide) (fun c9 => absurd c9 (by decide +kernel)) (fun _ => ?_)
  refine lv_aload_n hx hb dX2_init_79 rfl (lv_at hl 1 rfl) ?_
  refine va_get (D := (dC, dI)) (ci := 2) (v := .ref q3) (C := RX2) (T := TX2) (N := 9) hx hb hts inG2 hown hK hP 0 rfl rfl 1 (by decide) (hts _ k229) (fun _ h9 => h9) rfl dX2_init_80 ?_
  refine lv_iload_n hx hb dX2_init_83 rfl (lv_at hl 0 rfl) ?_
  refine va_new (ci := 4) (fs := [.null, .null, .null, .null, .null, .int 0, .int 0, .int 0]) (C := RX4) (T := TX4) (N := 8) hx hb hts inG4 tyX4 tyX4_ok hown (hts _ k224) (hts _ k69) (hts _ k3) hK hP hD hS hA rfl (fun j hj => by rcases (show j = 0 ∨ j = 1 ∨ j = 2 ∨ j = 3 ∨ j = 4 ∨ j = 5 ∨ j = 6 ∨ j = 7 by omega) with rfl | rfl | rfl | rfl | rfl | rfl | rfl | rfl <;> rfl) (Nat.le_of_ble_eq_true rfl) (Nat.le_of_ble_eq_true rfl) dX2_init_84 (fun q38 H hP hD hS => ?_)
  have hP : va_P (dC, dI) vwCl [(h0, .inr (2, [.ref q1, .ref q3, .ref q5, .ref q7, .ref q8, .ref q10, .int 0, .int 0, .ref q12])), (q3, .inl (c4, 5, .inr (.inr (.inr (.inr (f37)))))), (q38, .inr (4, [.null, .null, .null, .null, .null, .int 0, .int 0, .int 0]))] H := hP
  have hD : va_D A [(h0, .inr (2, [.ref q1, .ref q3, .ref q5, .ref q7, .ref q8, .ref q10, .int 0, .int 0, .ref q12])), (q3, .inl (c4, 5, .inr (.inr (.inr (.inr (f37)))))), (q38, .inr (4, [.null, .null, .null, .null, .null, .int 0, .int 0, .int 0]))] := hD
  refine W.widen (k := 50) (n := 43025) (by omega) (by omega) ?_
  refine lv_dup hx hb dX2_init_87 rfl ?_
  refine lv_sipush (v := 1100) hx hb dX2_init_88 (by decide) ?_
  have hPc := hP.sub (ws' := [(q38, .inr (4, [.null, .null, .null, .null, .null, .int 0, .int 0, .int 0]))]) [2] rfl
  have hDc := hD.sub (ws' := [(q38, .inr (4, [.null, .null, .null, .null, .null, .int 0, .int 0, .int 0]))]) [2] (by decide) rfl
  have hKc := hK.sub (tys' := []) [] rfl
  have hFc := va_free (wc := [(q38, .inr (4, [.null, .null, .null, .null, .null, .int 0, .int 0, .int 0]))]) hD hS hA [2] rfl
  refine va_callv (va_runI (As := [.int 1100]) (rest := [.ref q38, .int 3, .ref q3]) ⟨hx, hb, hml, hown, hts⟩ (c_Row_init l dC dI H.size (q38)) (cwI 1 hts (gI_G k72) rfl rfl rfl (hts _ k3) (hts _ k227) (hts _ k71) rfl (by decide +kernel) ⟨Nat.le_of_ble_eq_true rfl, Nat.le_of_ble_eq_true rfl⟩) ⟨fun a U g mk q => by obtain ⟨q0, q1, qP, qK, qD⟩ := q; exact ⟨q0, q1, qP, va_K.moved (u := U) (U := U.calling g mk a) (Vm.Alike.refl U.vm) qK, qD⟩, fun U hU hW => ⟨rfl, by rw [hU], by rw [hU]; exact hPc, va_K.moved hW.alike hKc, hDc.weaken (fun _ _ _ _ => trivial)⟩⟩ rfl rfl hl.1 rfl (lv_room (Nat.le_of_ble_eq_true rfl)) dX2_init_91 ⟨Nat.le_of_ble_eq_true rfl, Nat.le_of_ble_eq_true rfl⟩) hS (fun q _ h => hFc q h) hFc (fun u t H1 locs ht hvm hw hB hz1 hk1 hS => ?_)
  obtain ⟨q39, q40, q41, q42, q43, c44, hP1, hK1, hD1⟩ := hB
  rw [ht] at hP1
  have hK1 := va_K.moved hvm.symm hK1
  try dsimp only at hw
  obtain ⟨hP, hD⟩ := va_join (wr := [(h0, .inr (2, [.ref q1, .ref q3, .ref q5, .ref q7, .ref q8, .ref q10, .int 0, .int 0, .ref q12])), (q3, .inl (c4, 5, .inr (.inr (.inr (.inr (f37))))))]) (w1 := [(q38, .inr (4, [.ref q39, .ref q40, .ref q41, .ref q42, .ref q43, .int 0, .int 0, .int 0])), (q41, .inl (c44, 1101, .inl (fun _ => 0)))]) hP hD [2] [0, 1] rfl rfl (by decide) (by decide) hk1 hFc hP1 hD1
  have hK := hK.app hK1
  generalize H1 = H at hP hS ⊢
  have hP : va_P (dC, dI) vwCl [(h0, .inr (2, [.ref q1, .ref q3, .ref q5, .ref q7, .ref q8, .ref q10, .int 0, .int 0, .ref q12])), (q3, .inl (c4, 5, .inr (.inr (.inr (.inr (f37)))))), (q38, .inr (4, [.ref q39, .ref q40, .ref q41, .ref q42, .ref q43, .int 0, .int 0, .int 0])), (q41, .inl (c44, 1101, .inl (fun _ => 0)))] H := hP
  have hD : va_D A [(h0, .inr (2, [.ref q1, .ref q3, .ref q5, .ref q7, .ref q8, .ref q10, .int 0, .int 0, .ref q12])), (q3, .inl (c4, 5, .inr (.inr (.inr (.inr (f37)))))), (q38, .inr (4, [.ref q39, .ref q40, .ref q41, .ref q42, .ref q43, .int 0, .int 0, .int 0])), (q41, .inl (c44, 1101, .inl (fun _ => 0)))] := hD
  have hK : va_K (dC, dI) vwCl [(c4, .object "PageSkeleton$Row"), (c44, .int)] s := hK
  refine W.widen (k := 55) (n := 48526) (by omega) (by omega) ?_
  refine va_astq (r := (RX4, TX4, 8)) hx hb hK hP hD hS 1 0 2 4 rfl rfl rfl rfl (by unfold vp_in; decide +kernel) dX2_init_94 (fun H locs hP hD hS => ?_)
  have hP : va_P (dC, dI) vwCl [(h0, .inr (2, [.ref q1, .ref q3, .ref q5, .ref q7, .ref q8, .ref q10, .int 0, .int 0, .ref q12])), (q3, .inl (c4, 5, .inr (.inr (.inr (.inr (va_up (f37) (3 : Int32).toNatClampNeg (some q38))))))), (q38, .inr (4, [.ref q39, .ref q40, .ref q41, .ref q42, .ref q43, .int 0, .int 0, .int 0])), (q41, .inl (c44, 1101, .inl (fun _ => 0)))] H := hP
  have hD : va_D A [(h0, .inr (2, [.ref q1, .ref q3, .ref q5, .ref q7, .ref q8, .ref q10, .int 0, .int 0, .ref q12])), (q3, .inl (c4, 5, .inr (.inr (.inr (.inr (va_up (f37) (3 : Int32).toNatClampNeg (some q38))))))), (q38, .inr (4, [.ref q39, .ref q40, .ref q41, .ref q42, .ref q43, .int 0, .int 0, .int 0])), (q41, .inl (c44, 1101, .inl (fun _ => 0)))] := hD
  generalize va_up (f37) (3 : Int32).toNatClampNeg (some q38) = f45 at hP hD
  refine lv_iinc (v := 4) (lv' := [(1, .int 4), (0, .ref h0)]) hx hb dX2_init_95 hl (k := 0) rfl (by decide +kernel) (by decide) rfl (fun ls hl => ?_)
  refine lv_goto (tgt := 74) hx hb dX2_init_98 (by decide) ?_
  have hP := hP.sub (ws' := [(h0, .inr (2, [.ref q1, .ref q3, .ref q5, .ref q7, .ref q8, .ref q10, .int 0, .int 0, .ref q12])), (q3, .inl (c4, 5, .inr (.inr (.inr (.inr (f45))))))]) [0, 1] rfl
  have hD := hD.sub (ws' := [(h0, .inr (2, [.ref q1, .ref q3, .ref q5, .ref q7, .ref q8, .ref q10, .int 0, .int 0, .ref q12])), (q3, .inl (c4, 5, .inr (.inr (.inr (.inr (f45))))))]) [0, 1] (by decide) rfl
  have hK := hK.sub (tys' := [(c4, .object "PageSkeleton$Row")]) [0] rfl
  refine lv_iload_n hx hb dX2_init_74 rfl (lv_at hl 0 rfl) ?_
  refine lv_iconst (v := 4) hx hb dX2_init_75 (by decide) ?_
  refine lv_icmp_gt (tgt := 101) hx hb dX2_init_76 (by decide) (fun c9 => absurd c9 (by decide +kernel)) (fun _ => ?_)
  refine lv_aload_n hx hb dX2_init_79 rfl (lv_at hl 1 rfl) ?_
  refine va_get (D := (dC, dI)) (ci := 2) (v := .ref q3) (C := RX2) (T := TX2) (N := 9) hx hb hts inG2 hown hK hP 0 rfl rfl 1 (by decide) (hts _ k229) (fun _ h9 => h9) rfl dX2_init_80 ?_
  refine lv_iload_n hx hb dX2_init_83 rfl (lv_at hl 0 rfl) ?_
  refine va_new (ci := 4) (fs := [.null, .null, .null, .null, .null, .int 0, .int 0, .int 0]) (C := RX4) (T := TX4) (N := 8) hx hb hts inG4 tyX4 tyX4_ok hown (hts _ k224) (hts _ k69) (hts _ k3) hK hP hD hS hA rfl (fun j hj => by rcases (show j = 0 ∨ j = 1 ∨ j = 2 ∨ j = 3 ∨ j = 4 ∨ j = 5 ∨ j = 6 ∨ j = 7 by omega) with rfl | rfl | rfl | rfl | rfl | rfl | rfl | rfl <;> rfl) (Nat.le_of_ble_eq_true rfl) (Nat.le_of_ble_eq_true rfl) dX2_init_84 (fun q46 H hP hD hS => ?_)
  have hP : va_P (dC, dI) vwCl [(h0, .inr (2, [.ref q1, .ref q3, .ref q5, .ref q7, .ref q8, .ref q10, .int 0, .int 0, .ref q12])), (q3, .inl (c4, 5, .inr (.inr (.inr (.inr (f45)))))), (q46, .inr (4, [.null, .null, .null, .null, .null, .int 0, .int 0, .int 0]))] H := hP
  have hD : va_D A [(h0, .inr (2, [.ref q1, .ref q3, .ref q5, .ref q7, .ref q8, .ref q10, .int 0, .int 0, .ref q12])), (q3, .inl (c4, 5, .inr (.inr (.inr (.inr (f45)))))), (q46, .inr (4, [.null, .null, .null, .null, .null, .int 0, .int 0, .int 0]))] := hD
  refine W.widen (k := 56) (n := 48534) (by omega) (by omega) ?_
  refine lv_dup hx hb dX2_init_87 rfl ?_
  refine lv_sipush (v := 1100) hx hb dX2_init_88 (by decide) ?_
  have hPc := hP.sub (ws' := [(q46, .inr (4, [.null, .null, .null, .null, .null, .int 0, .int 0, .int 0]))]) [2] rfl
  have hDc := hD.sub (ws' := [(q46, .inr (4, [.null, .null, .null, .null, .null, .int 0, .int 0, .int 0]))]) [2] (by decide) rfl
  have hKc := hK.sub (tys' := []) [] rfl
  have hFc := va_free (wc := [(q46, .inr (4, [.null, .null, .null, .null, .null, .int 0, .int 0, .int 0]))]) hD hS hA [2] rfl
  refine va_callv (va_runI (As := [.int 1100]) (rest := [.ref q46, .int 4, .ref q3]) ⟨hx, hb, hml, hown, hts⟩ (c_Row_init l dC dI H.size (q46)) (cwI 1 hts (gI_G k72) rfl rfl rfl (hts _ k3) (hts _ k227) (hts _ k71) rfl (by decide +kernel) ⟨Nat.le_of_ble_eq_true rfl, Nat.le_of_ble_eq_true rfl⟩) ⟨fun a U g mk q => by obtain ⟨q0, q1, qP, qK, qD⟩ := q; exact ⟨q0, q1, qP, va_K.moved (u := U) (U := U.calling g mk a) (Vm.Alike.refl U.vm) qK, qD⟩, fun U hU hW => ⟨rfl, by rw [hU], by rw [hU]; exact hPc, va_K.moved hW.alike hKc, hDc.weaken (fun _ _ _ _ => trivial)⟩⟩ rfl rfl hl.1 rfl (lv_room (Nat.le_of_ble_eq_true rfl)) dX2_init_91 ⟨Nat.le_of_ble_eq_true rfl, Nat.le_of_ble_eq_true rfl⟩) hS (fun q _ h => hFc q h) hFc (fun u t H1 locs ht hvm hw hB hz1 hk1 hS => ?_)
  obtain ⟨q47, q48, q49, q50, q51, c52, hP1, hK1, hD1⟩ := hB
  rw [ht] at hP1
  have hK1 := va_K.moved hvm.symm hK1
  try dsimp only at hw
  obtain ⟨hP, hD⟩ := va_join (wr := [(h0, .inr (2, [.ref q1, .ref q3, .ref q5, .ref q7, .ref q8, .ref q10, .int 0, .int 0, .ref q12])), (q3, .inl (c4, 5, .inr (.inr (.inr (.inr (f45))))))]) (w1 := [(q46, .inr (4, [.ref q47, .ref q48, .ref q49, .ref q50, .ref q51, .int 0, .int 0, .int 0])), (q49, .inl (c52, 1101, .inl (fun _ => 0)))]) hP hD [2] [0, 1] rfl rfl (by decide) (by decide) hk1 hFc hP1 hD1
  have hK := hK.app hK1
  generalize H1 = H at hP hS ⊢
  have hP : va_P (dC, dI) vwCl [(h0, .inr (2, [.ref q1, .ref q3, .ref q5, .ref q7, .ref q8, .ref q10, .int 0, .int 0, .ref q12])), (q3, .inl (c4, 5, .inr (.inr (.inr (.inr (f45)))))), (q46, .inr (4, [.ref q47, .ref q48, .ref q49, .ref q50, .ref q51, .int 0, .int 0, .int 0])), (q49, .inl (c52, 1101, .inl (fun _ => 0)))] H := hP
  have hD : va_D A [(h0, .inr (2, [.ref q1, .ref q3, .ref q5, .ref q7, .ref q8, .ref q10, .int 0, .int 0, .ref q12])), (q3, .inl (c4, 5, .inr (.inr (.inr (.inr (f45)))))), (q46, .inr (4, [.ref q47, .ref q48, .ref q49, .ref q50, .ref q51, .int 0, .int 0, .int 0])), (q49, .inl (c52, 1101, .inl (fun _ => 0)))] := hD
  have hK : va_K (dC, dI) vwCl [(c4, .object "PageSkeleton$Row"), (c52, .int)] s := hK
  refine W.widen (k := 61) (n := 54035) (by omega) (by omega) ?_
  refine va_astq (r := (RX4, TX4, 8)) hx hb hK hP hD hS 1 0 2 4 rfl rfl rfl rfl (by unfold vp_in; decide +kernel) dX2_init_94 (fun H locs hP hD hS => ?_)
  have hP : va_P (dC, dI) vwCl [(h0, .inr (2, [.ref q1, .ref q3, .ref q5, .ref q7, .ref q8, .ref q10, .int 0, .int 0, .ref q12])), (q3, .inl (c4, 5, .inr (.inr (.inr (.inr (va_up (f45) (4 : Int32).toNatClampNeg (some q46))))))), (q46, .inr (4, [.ref q47, .ref q48, .ref q49, .ref q50, .ref q51, .int 0, .int 0, .int 0])), (q49, .inl (c52, 1101, .inl (fun _ => 0)))] H := hP
  have hD : va_D A [(h0, .inr (2, [.ref q1, .ref q3, .ref q5, .ref q7, .ref q8, .ref q10, .int 0, .int 0, .ref q12])), (q3, .inl (c4, 5, .inr (.inr (.inr (.inr (va_up (f45) (4 : Int32).toNatClampNeg (some q46))))))), (q46, .inr (4, [.ref q47, .ref q48, .ref q49, .ref q50, .ref q51, .int 0, .int 0, .int 0])), (q49, .inl (c52, 1101, .inl (fun _ => 0)))] := hD
  generalize va_up (f45) (4 : Int32).toNatClampNeg (some q46) = f53 at hP hD
  refine lv_iinc (v := 5) (lv' := [(1, .int 5), (0, .ref h0)]) hx hb dX2_init_95 hl (k := 0) rfl (by decide +kernel) (by decide) rfl (fun ls hl => ?_)
  refine lv_goto (tgt := 74) hx hb dX2_init_98 (by decide) ?_
  have hP := hP.sub (ws' := [(h0, .inr (2, [.ref q1, .ref q3, .ref q5, .ref q7, .ref q8, .ref q10, .int 0, .int 0, .ref q12])), (q3, .inl (c4, 5, .inr (.inr (.inr (.inr (f53))))))]) [0, 1] rfl
  have hD := hD.sub (ws' := [(h0, .inr (2, [.ref q1, .ref q3, .ref q5, .ref q7, .ref q8, .ref q10, .int 0, .int 0, .ref q12])), (q3, .inl (c4, 5, .inr (.inr (.inr (.inr (f53))))))]) [0, 1] (by decide) rfl
  have hK := hK.sub (tys' := [(c4, .object "PageSkeleton$Row")]) [0] rfl
  refine lv_iload_n hx hb dX2_init_74 rfl (lv_at hl 0 rfl) ?_
  refine lv_iconst (v := 4) hx hb dX2_init_75 (by decide) ?_
  refine lv_icmp_gt (tgt := 101) hx hb dX2_init_76 (by decide) (fun _ => ?_) (fun c9 => absurd (by decide +kernel) c9)
  have hP9 := hP.sub (ws' := [(h0, .inr (2, [.ref q1, .ref q3, .ref q5, .ref q7, .ref q8, .ref q10, .int 0, .int 0, .ref q12]))]) [0] rfl
  have hD9 := hD.sub (ws' := [(h0, .inr (2, [.ref q1, .ref q3, .ref q5, .ref q7, .ref q8, .ref q10, .int 0, .int 0, .ref q12]))]) [0] (by decide) rfl
  have hK9 := hK.sub (tys' := []) [] rfl
  refine W.widen (k := 61) (n := 54035) (by omega) (by omega) ?_
  exact W.vret hx hb hr (fun t ht hW => ⟨⟨(), rfl, trivial, q1, q3, q5, q7, q8, q10, q12, by rw [ht]; exact hP9, va_K.moved hW.alike hK9, hD9⟩, hS.F ht⟩) hS.2.2 dX2_init_101

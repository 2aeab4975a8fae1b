-- ===== PART A: goes FIRST, ahead of the names: the tables' words, and 'selects' of the private methods out of them =====
/-- a private method of a class that the tables say can be made, by its rows of tables_1 -/
def lw_okq (q : MethodName × Nat) : Prop := (q.1.cls ≠ "java/lang/invoke/MethodHandle" ∧ q.1.cls ≠ "java/lang/invoke/VarHandle") ∧ Cond.instantiable q.1.cls q.2 ∈ tables_1 ∧ Cond.privateMethod q.1 ∈ tables_1 ∧ Cond.instanceMethod q.1 ∈ tables_1
theorem tbm1 (i : Nat) {w : Cond} (h : tables_1_1[i]? = some w) : w ∈ tables_1 := List.mem_append_left _ (List.mem_of_getElem? h)
theorem tbm2 (i : Nat) {w : Cond} (h : tables_1_2[i]? = some w) : w ∈ tables_1 := List.mem_append_right _ (List.mem_append_left _ (List.mem_of_getElem? h))
theorem tbm3 (i : Nat) {w : Cond} (h : tables_1_3[i]? = some w) : w ∈ tables_1 := List.mem_append_right _ (List.mem_append_right _ (List.mem_append_left _ (List.mem_of_getElem? h)))
theorem tbm4 (i : Nat) {w : Cond} (h : tables_1_4[i]? = some w) : w ∈ tables_1 := List.mem_append_right _ (List.mem_append_right _ (List.mem_append_right _ (List.mem_append_left _ (List.mem_of_getElem? h))))
theorem tbm5 (i : Nat) {w : Cond} (h : tables_1_5[i]? = some w) : w ∈ tables_1 := List.mem_append_right _ (List.mem_append_right _ (List.mem_append_right _ (List.mem_append_right _ (List.mem_append_left _ (List.mem_of_getElem? h)))))
theorem tbm6 (i : Nat) {w : Cond} (h : tables_1_6[i]? = some w) : w ∈ tables_1 := List.mem_append_right _ (List.mem_append_right _ (List.mem_append_right _ (List.mem_append_right _ (List.mem_append_right _ (List.mem_append_left _ (List.mem_of_getElem? h))))))
theorem tbm7 (i : Nat) {w : Cond} (h : tables_1_7[i]? = some w) : w ∈ tables_1 := List.mem_append_right _ (List.mem_append_right _ (List.mem_append_right _ (List.mem_append_right _ (List.mem_append_right _ (List.mem_append_right _ (List.mem_append_left _ (List.mem_of_getElem? h)))))))
theorem tbm8 (i : Nat) {w : Cond} (h : tables_1_8[i]? = some w) : w ∈ tables_1 := List.mem_append_right _ (List.mem_append_right _ (List.mem_append_right _ (List.mem_append_right _ (List.mem_append_right _ (List.mem_append_right _ (List.mem_append_right _ (List.mem_of_getElem? h)))))))
set_option maxRecDepth 100000 in
theorem lw_p0 : lw_okq (⟨"PageSkeleton", "tryToTidy", "()I"⟩, 15) := ⟨⟨by decide +kernel, by decide +kernel⟩, tbm1 22 rfl, tbm2 155 rfl, tbm2 156 rfl⟩
set_option maxRecDepth 100000 in
theorem lw_p1 : lw_okq (⟨"PageSkeleton$Tidier", "tidyRange", "(LPageSkeleton$Row;II)I"⟩, 6) := ⟨⟨by decide +kernel, by decide +kernel⟩, tbm1 148 rfl, tbm2 190 rfl, tbm2 191 rfl⟩
set_option maxRecDepth 100000 in
theorem lw_p2 : lw_okq (⟨"PageSkeleton$Tidier", "joinTwins", "(LPageSkeleton$Row;II)Z"⟩, 6) := ⟨⟨by decide +kernel, by decide +kernel⟩, tbm1 148 rfl, tbm2 194 rfl, tbm2 195 rfl⟩
set_option maxRecDepth 100000 in
theorem lw_p3 : lw_okq (⟨"PageSkeleton$Tidier", "join", "(LPageSkeleton$Row;III)Z"⟩, 6) := ⟨⟨by decide +kernel, by decide +kernel⟩, tbm1 148 rfl, tbm2 209 rfl, tbm2 210 rfl⟩
set_option maxRecDepth 100000 in
theorem lw_p4 : lw_okq (⟨"PageSkeleton$Tidier", "joinAhead", "(LPageSkeleton$Row;II)Z"⟩, 6) := ⟨⟨by decide +kernel, by decide +kernel⟩, tbm1 148 rfl, tbm2 229 rfl, tbm2 230 rfl⟩
set_option maxRecDepth 100000 in
theorem lw_p5 : lw_okq (⟨"PageSkeleton$Tidier", "joinBehind", "(LPageSkeleton$Row;II)Z"⟩, 6) := ⟨⟨by decide +kernel, by decide +kernel⟩, tbm1 148 rfl, tbm2 233 rfl, tbm2 234 rfl⟩
set_option maxRecDepth 100000 in
theorem lw_p6 : lw_okq (⟨"PageSkeleton$Tidier", "findItems", "(LPageSkeleton$Row;II)V"⟩, 6) := ⟨⟨by decide +kernel, by decide +kernel⟩, tbm1 148 rfl, tbm3 1 rfl, tbm3 2 rfl⟩
set_option maxRecDepth 100000 in
theorem lw_p7 : lw_okq (⟨"PageSkeleton$Tidier", "foldAt", "(LPageSkeleton$Row;III)I"⟩, 6) := ⟨⟨by decide +kernel, by decide +kernel⟩, tbm1 148 rfl, tbm3 8 rfl, tbm3 9 rfl⟩
set_option maxRecDepth 100000 in
theorem lw_p8 : lw_okq (⟨"PageSkeleton", "walkOf", "(I)LPageSkeleton$Walk;"⟩, 15) := ⟨⟨by decide +kernel, by decide +kernel⟩, tbm1 22 rfl, tbm3 56 rfl, tbm3 57 rfl⟩
set_option maxRecDepth 100000 in
theorem lw_p9 : lw_okq (⟨"PageSkeleton$Walker", "goInward", "(LPageSkeleton$Row;I[IIII)V"⟩, 2) := ⟨⟨by decide +kernel, by decide +kernel⟩, tbm1 205 rfl, tbm3 75 rfl, tbm3 76 rfl⟩
set_option maxRecDepth 100000 in
theorem lw_p10 : lw_okq (⟨"PageSkeleton$Walker", "goOn", "(LPageSkeleton$Row;III)V"⟩, 2) := ⟨⟨by decide +kernel, by decide +kernel⟩, tbm1 205 rfl, tbm3 91 rfl, tbm3 92 rfl⟩
set_option maxRecDepth 100000 in
theorem lw_p11 : lw_okq (⟨"PageSkeleton$Walker", "chooseAt", "(LPageSkeleton$Row;IILPageSkeleton$Walk;)I"⟩, 2) := ⟨⟨by decide +kernel, by decide +kernel⟩, tbm1 205 rfl, tbm3 96 rfl, tbm3 97 rfl⟩
set_option maxRecDepth 100000 in
theorem lw_p12 : lw_okq (⟨"PageSkeleton", "needArgument", "(Z)V"⟩, 15) := ⟨⟨by decide +kernel, by decide +kernel⟩, tbm1 22 rfl, tbm3 117 rfl, tbm3 118 rfl⟩
set_option maxRecDepth 100000 in
theorem lw_p13 : lw_okq (⟨"java/lang/Throwable", "fillInStackTrace", "(I)Ljava/lang/Throwable;"⟩, 6) := ⟨⟨by decide +kernel, by decide +kernel⟩, tbm3 159 rfl, tbm3 157 rfl, tbm3 158 rfl⟩
set_option maxRecDepth 100000 in
theorem lw_p14 : lw_okq (⟨"PageSkeleton", "needState", "(Z)V"⟩, 15) := ⟨⟨by decide +kernel, by decide +kernel⟩, tbm1 22 rfl, tbm3 184 rfl, tbm3 185 rfl⟩
set_option maxRecDepth 100000 in
theorem lw_p15 : lw_okq (⟨"PageSkeleton$Texts", "readNext", "(I)I"⟩, 8) := ⟨⟨by decide +kernel, by decide +kernel⟩, tbm1 30 rfl, tbm3 207 rfl, tbm3 208 rfl⟩
def lw_privs_1 : List (MethodName × Nat) := [(⟨"PageSkeleton", "tryToTidy", "()I"⟩, 15), (⟨"PageSkeleton$Tidier", "tidyRange", "(LPageSkeleton$Row;II)I"⟩, 6), (⟨"PageSkeleton$Tidier", "joinTwins", "(LPageSkeleton$Row;II)Z"⟩, 6), (⟨"PageSkeleton$Tidier", "join", "(LPageSkeleton$Row;III)Z"⟩, 6), (⟨"PageSkeleton$Tidier", "joinAhead", "(LPageSkeleton$Row;II)Z"⟩, 6), (⟨"PageSkeleton$Tidier", "joinBehind", "(LPageSkeleton$Row;II)Z"⟩, 6), (⟨"PageSkeleton$Tidier", "findItems", "(LPageSkeleton$Row;II)V"⟩, 6), (⟨"PageSkeleton$Tidier", "foldAt", "(LPageSkeleton$Row;III)I"⟩, 6), (⟨"PageSkeleton", "walkOf", "(I)LPageSkeleton$Walk;"⟩, 15), (⟨"PageSkeleton$Walker", "goInward", "(LPageSkeleton$Row;I[IIII)V"⟩, 2), (⟨"PageSkeleton$Walker", "goOn", "(LPageSkeleton$Row;III)V"⟩, 2), (⟨"PageSkeleton$Walker", "chooseAt", "(LPageSkeleton$Row;IILPageSkeleton$Walk;)I"⟩, 2), (⟨"PageSkeleton", "needArgument", "(Z)V"⟩, 15), (⟨"java/lang/Throwable", "fillInStackTrace", "(I)Ljava/lang/Throwable;"⟩, 6), (⟨"PageSkeleton", "needState", "(Z)V"⟩, 15), (⟨"PageSkeleton$Texts", "readNext", "(I)I"⟩, 8)]
theorem lw_r1 : ∀ q ∈ lw_privs_1, lw_okq q := List.forall_mem_cons.mpr ⟨lw_p0, List.forall_mem_cons.mpr ⟨lw_p1, List.forall_mem_cons.mpr ⟨lw_p2, List.forall_mem_cons.mpr ⟨lw_p3, List.forall_mem_cons.mpr ⟨lw_p4, List.forall_mem_cons.mpr ⟨lw_p5, List.forall_mem_cons.mpr ⟨lw_p6, List.forall_mem_cons.mpr ⟨lw_p7, List.forall_mem_cons.mpr ⟨lw_p8, List.forall_mem_cons.mpr ⟨lw_p9, List.forall_mem_cons.mpr ⟨lw_p10, List.forall_mem_cons.mpr ⟨lw_p11, List.forall_mem_cons.mpr ⟨lw_p12, List.forall_mem_cons.mpr ⟨lw_p13, List.forall_mem_cons.mpr ⟨lw_p14, List.forall_mem_cons.mpr ⟨lw_p15, fun _ h => absurd h List.not_mem_nil⟩⟩⟩⟩⟩⟩⟩⟩⟩⟩⟩⟩⟩⟩⟩⟩
set_option maxRecDepth 100000 in
theorem lw_p16 : lw_okq (⟨"PageSkeleton$Texts", "readSort", "(I)I"⟩, 8) := ⟨⟨by decide +kernel, by decide +kernel⟩, tbm1 30 rfl, tbm3 211 rfl, tbm3 212 rfl⟩
set_option maxRecDepth 100000 in
theorem lw_p17 : lw_okq (⟨"PageSkeleton$Texts", "readName", "(I)I"⟩, 8) := ⟨⟨by decide +kernel, by decide +kernel⟩, tbm1 30 rfl, tbm3 215 rfl, tbm3 216 rfl⟩
set_option maxRecDepth 100000 in
theorem lw_p18 : lw_okq (⟨"PageSkeleton$Texts", "letterAt", "(I)I"⟩, 8) := ⟨⟨by decide +kernel, by decide +kernel⟩, tbm1 30 rfl, tbm3 219 rfl, tbm3 220 rfl⟩
set_option maxRecDepth 100000 in
theorem lw_p19 : lw_okq (⟨"PageSkeleton$Texts", "faulty", "(II)I"⟩, 8) := ⟨⟨by decide +kernel, by decide +kernel⟩, tbm1 30 rfl, tbm3 223 rfl, tbm3 224 rfl⟩
set_option maxRecDepth 100000 in
theorem lw_p20 : lw_okq (⟨"PageSkeleton$Texts", "keep", "(II)I"⟩, 8) := ⟨⟨by decide +kernel, by decide +kernel⟩, tbm1 30 rfl, tbm3 227 rfl, tbm3 228 rfl⟩
set_option maxRecDepth 100000 in
theorem lw_p21 : lw_okq (⟨"PageSkeleton", "needPage", "(I)V"⟩, 15) := ⟨⟨by decide +kernel, by decide +kernel⟩, tbm1 22 rfl, tbm4 16 rfl, tbm4 17 rfl⟩
set_option maxRecDepth 100000 in
theorem lw_p22 : lw_okq (⟨"PageSkeleton", "needElement", "(Z)V"⟩, 15) := ⟨⟨by decide +kernel, by decide +kernel⟩, tbm1 22 rfl, tbm4 20 rfl, tbm4 21 rfl⟩
set_option maxRecDepth 100000 in
theorem lw_p23 : lw_okq (⟨"PageSkeleton", "tryToLay", "(I)I"⟩, 15) := ⟨⟨by decide +kernel, by decide +kernel⟩, tbm1 22 rfl, tbm4 39 rfl, tbm4 40 rfl⟩
set_option maxRecDepth 100000 in
theorem lw_p24 : lw_okq (⟨"PageSkeleton$Layer", "findLevels", "(LPageSkeleton$Row;[I)V"⟩, 7) := ⟨⟨by decide +kernel, by decide +kernel⟩, tbm1 176 rfl, tbm4 47 rfl, tbm4 48 rfl⟩
set_option maxRecDepth 100000 in
theorem lw_p25 : lw_okq (⟨"PageSkeleton$Layer", "best", "(LPageSkeleton$Row;LPageSkeleton$Row;II)I"⟩, 7) := ⟨⟨by decide +kernel, by decide +kernel⟩, tbm1 176 rfl, tbm4 51 rfl, tbm4 52 rfl⟩
set_option maxRecDepth 100000 in
theorem lw_p26 : lw_okq (⟨"PageSkeleton$Layer", "both", "(LPageSkeleton$Row;LPageSkeleton$Row;II)I"⟩, 7) := ⟨⟨by decide +kernel, by decide +kernel⟩, tbm1 176 rfl, tbm4 60 rfl, tbm4 61 rfl⟩
set_option maxRecDepth 100000 in
theorem lw_p27 : lw_okq (⟨"PageSkeleton$Layer", "intoRow", "(LPageSkeleton$Row;LPageSkeleton$Row;II)I"⟩, 7) := ⟨⟨by decide +kernel, by decide +kernel⟩, tbm1 176 rfl, tbm4 73 rfl, tbm4 74 rfl⟩
set_option maxRecDepth 100000 in
theorem lw_p28 : lw_okq (⟨"PageSkeleton$Layer", "intoPage", "(LPageSkeleton$Row;LPageSkeleton$Row;II)I"⟩, 7) := ⟨⟨by decide +kernel, by decide +kernel⟩, tbm1 176 rfl, tbm4 84 rfl, tbm4 85 rfl⟩
set_option maxRecDepth 100000 in
theorem lw_p29 : lw_okq (⟨"PageSkeleton$Layer", "leaveOut", "(LPageSkeleton$Row;LPageSkeleton$Row;ILPageSkeleton$Row;)V"⟩, 7) := ⟨⟨by decide +kernel, by decide +kernel⟩, tbm1 176 rfl, tbm4 101 rfl, tbm4 102 rfl⟩
set_option maxRecDepth 100000 in
theorem lw_p30 : lw_okq (⟨"PageSkeleton$Layer", "fuseNext", "(LPageSkeleton$Row;LPageSkeleton$Row;ILPageSkeleton$Row;)V"⟩, 7) := ⟨⟨by decide +kernel, by decide +kernel⟩, tbm1 176 rfl, tbm4 109 rfl, tbm4 110 rfl⟩
set_option maxRecDepth 100000 in
theorem lw_p31 : lw_okq (⟨"PageSkeleton", "countFitting", "(LPageSkeleton$Row;)I"⟩, 15) := ⟨⟨by decide +kernel, by decide +kernel⟩, tbm1 22 rfl, tbm4 125 rfl, tbm4 126 rfl⟩
def lw_privs_2 : List (MethodName × Nat) := [(⟨"PageSkeleton$Texts", "readSort", "(I)I"⟩, 8), (⟨"PageSkeleton$Texts", "readName", "(I)I"⟩, 8), (⟨"PageSkeleton$Texts", "letterAt", "(I)I"⟩, 8), (⟨"PageSkeleton$Texts", "faulty", "(II)I"⟩, 8), (⟨"PageSkeleton$Texts", "keep", "(II)I"⟩, 8), (⟨"PageSkeleton", "needPage", "(I)V"⟩, 15), (⟨"PageSkeleton", "needElement", "(Z)V"⟩, 15), (⟨"PageSkeleton", "tryToLay", "(I)I"⟩, 15), (⟨"PageSkeleton$Layer", "findLevels", "(LPageSkeleton$Row;[I)V"⟩, 7), (⟨"PageSkeleton$Layer", "best", "(LPageSkeleton$Row;LPageSkeleton$Row;II)I"⟩, 7), (⟨"PageSkeleton$Layer", "both", "(LPageSkeleton$Row;LPageSkeleton$Row;II)I"⟩, 7), (⟨"PageSkeleton$Layer", "intoRow", "(LPageSkeleton$Row;LPageSkeleton$Row;II)I"⟩, 7), (⟨"PageSkeleton$Layer", "intoPage", "(LPageSkeleton$Row;LPageSkeleton$Row;II)I"⟩, 7), (⟨"PageSkeleton$Layer", "leaveOut", "(LPageSkeleton$Row;LPageSkeleton$Row;ILPageSkeleton$Row;)V"⟩, 7), (⟨"PageSkeleton$Layer", "fuseNext", "(LPageSkeleton$Row;LPageSkeleton$Row;ILPageSkeleton$Row;)V"⟩, 7), (⟨"PageSkeleton", "countFitting", "(LPageSkeleton$Row;)I"⟩, 15)]
theorem lw_r2 : ∀ q ∈ lw_privs_2, lw_okq q := List.forall_mem_cons.mpr ⟨lw_p16, List.forall_mem_cons.mpr ⟨lw_p17, List.forall_mem_cons.mpr ⟨lw_p18, List.forall_mem_cons.mpr ⟨lw_p19, List.forall_mem_cons.mpr ⟨lw_p20, List.forall_mem_cons.mpr ⟨lw_p21, List.forall_mem_cons.mpr ⟨lw_p22, List.forall_mem_cons.mpr ⟨lw_p23, List.forall_mem_cons.mpr ⟨lw_p24, List.forall_mem_cons.mpr ⟨lw_p25, List.forall_mem_cons.mpr ⟨lw_p26, List.forall_mem_cons.mpr ⟨lw_p27, List.forall_mem_cons.mpr ⟨lw_p28, List.forall_mem_cons.mpr ⟨lw_p29, List.forall_mem_cons.mpr ⟨lw_p30, List.forall_mem_cons.mpr ⟨lw_p31, fun _ h => absurd h List.not_mem_nil⟩⟩⟩⟩⟩⟩⟩⟩⟩⟩⟩⟩⟩⟩⟩⟩
set_option maxRecDepth 100000 in
theorem lw_p32 : lw_okq (⟨"PageSkeleton", "needPlace", "(II)V"⟩, 15) := ⟨⟨by decide +kernel, by decide +kernel⟩, tbm1 22 rfl, tbm4 159 rfl, tbm4 160 rfl⟩
set_option maxRecDepth 100000 in
theorem lw_p33 : lw_okq (⟨"PageSkeleton", "pagesWith", "(I)I"⟩, 15) := ⟨⟨by decide +kernel, by decide +kernel⟩, tbm1 22 rfl, tbm4 175 rfl, tbm4 176 rfl⟩
set_option maxRecDepth 100000 in
theorem lw_p34 : lw_okq (⟨"PageSkeleton", "needNode", "(LPageSkeleton$Row;I)V"⟩, 15) := ⟨⟨by decide +kernel, by decide +kernel⟩, tbm1 22 rfl, tbm4 195 rfl, tbm4 196 rfl⟩
set_option maxRecDepth 100000 in
theorem lw_p35 : lw_okq (⟨"PageSkeleton$Row", "sortAt", "(I)I"⟩, 8) := ⟨⟨by decide +kernel, by decide +kernel⟩, tbm1 69 rfl, tbm4 203 rfl, tbm4 204 rfl⟩
set_option maxRecDepth 100000 in
theorem lw_p36 : lw_okq (⟨"PageSkeleton$Row", "depthOf", "(I)I"⟩, 8) := ⟨⟨by decide +kernel, by decide +kernel⟩, tbm1 69 rfl, tbm4 209 rfl, tbm4 210 rfl⟩
set_option maxRecDepth 100000 in
theorem lw_p37 : lw_okq (⟨"PageSkeleton$Row", "parentOf", "(I)I"⟩, 8) := ⟨⟨by decide +kernel, by decide +kernel⟩, tbm1 69 rfl, tbm4 213 rfl, tbm4 214 rfl⟩
set_option maxRecDepth 100000 in
theorem lw_p38 : lw_okq (⟨"PageSkeleton$Row", "itemsIn", "(I)I"⟩, 8) := ⟨⟨by decide +kernel, by decide +kernel⟩, tbm1 69 rfl, tbm4 218 rfl, tbm4 219 rfl⟩
set_option maxRecDepth 100000 in
theorem lw_p39 : lw_okq (⟨"PageSkeleton", "seeWords", "(II)I"⟩, 15) := ⟨⟨by decide +kernel, by decide +kernel⟩, tbm1 22 rfl, tbm5 49 rfl, tbm5 50 rfl⟩
set_option maxRecDepth 100000 in
theorem lw_p40 : lw_okq (⟨"PageSkeleton", "costBetween", "(II)I"⟩, 15) := ⟨⟨by decide +kernel, by decide +kernel⟩, tbm1 22 rfl, tbm5 67 rfl, tbm5 68 rfl⟩
set_option maxRecDepth 100000 in
theorem lw_p41 : lw_okq (⟨"PageSkeleton$Orders", "keepEnd", "(LPageSkeleton$Row;I)V"⟩, 9) := ⟨⟨by decide +kernel, by decide +kernel⟩, tbm1 219 rfl, tbm5 97 rfl, tbm5 98 rfl⟩
set_option maxRecDepth 100000 in
theorem lw_p42 : lw_okq (⟨"PageSkeleton$Orders", "goToNextOrder", "()I"⟩, 9) := ⟨⟨by decide +kernel, by decide +kernel⟩, tbm1 219 rfl, tbm5 102 rfl, tbm5 103 rfl⟩
set_option maxRecDepth 100000 in
theorem lw_p43 : lw_okq (⟨"PageSkeleton$Orders", "swap", "(II)V"⟩, 9) := ⟨⟨by decide +kernel, by decide +kernel⟩, tbm1 219 rfl, tbm5 106 rfl, tbm5 107 rfl⟩
set_option maxRecDepth 100000 in
theorem lw_p44 : lw_okq (⟨"PageSkeleton$Orders", "findAnswers", "()V"⟩, 9) := ⟨⟨by decide +kernel, by decide +kernel⟩, tbm1 219 rfl, tbm5 110 rfl, tbm5 111 rfl⟩
set_option maxRecDepth 100000 in
theorem lw_p45 : lw_okq (⟨"PageSkeleton$Orders", "countUnlike", "()I"⟩, 9) := ⟨⟨by decide +kernel, by decide +kernel⟩, tbm1 219 rfl, tbm5 114 rfl, tbm5 115 rfl⟩
set_option maxRecDepth 100000 in
theorem lw_p46 : lw_okq (⟨"PageSkeleton$Orders", "countLike", "(II)I"⟩, 9) := ⟨⟨by decide +kernel, by decide +kernel⟩, tbm1 219 rfl, tbm5 118 rfl, tbm5 119 rfl⟩
set_option maxRecDepth 100000 in
theorem lw_p47 : lw_okq (⟨"PageSkeleton$Orders", "sameEnds", "(II)Z"⟩, 9) := ⟨⟨by decide +kernel, by decide +kernel⟩, tbm1 219 rfl, tbm5 122 rfl, tbm5 123 rfl⟩
def lw_privs_3 : List (MethodName × Nat) := [(⟨"PageSkeleton", "needPlace", "(II)V"⟩, 15), (⟨"PageSkeleton", "pagesWith", "(I)I"⟩, 15), (⟨"PageSkeleton", "needNode", "(LPageSkeleton$Row;I)V"⟩, 15), (⟨"PageSkeleton$Row", "sortAt", "(I)I"⟩, 8), (⟨"PageSkeleton$Row", "depthOf", "(I)I"⟩, 8), (⟨"PageSkeleton$Row", "parentOf", "(I)I"⟩, 8), (⟨"PageSkeleton$Row", "itemsIn", "(I)I"⟩, 8), (⟨"PageSkeleton", "seeWords", "(II)I"⟩, 15), (⟨"PageSkeleton", "costBetween", "(II)I"⟩, 15), (⟨"PageSkeleton$Orders", "keepEnd", "(LPageSkeleton$Row;I)V"⟩, 9), (⟨"PageSkeleton$Orders", "goToNextOrder", "()I"⟩, 9), (⟨"PageSkeleton$Orders", "swap", "(II)V"⟩, 9), (⟨"PageSkeleton$Orders", "findAnswers", "()V"⟩, 9), (⟨"PageSkeleton$Orders", "countUnlike", "()I"⟩, 9), (⟨"PageSkeleton$Orders", "countLike", "(II)I"⟩, 9), (⟨"PageSkeleton$Orders", "sameEnds", "(II)Z"⟩, 9)]
theorem lw_r3 : ∀ q ∈ lw_privs_3, lw_okq q := List.forall_mem_cons.mpr ⟨lw_p32, List.forall_mem_cons.mpr ⟨lw_p33, List.forall_mem_cons.mpr ⟨lw_p34, List.forall_mem_cons.mpr ⟨lw_p35, List.forall_mem_cons.mpr ⟨lw_p36, List.forall_mem_cons.mpr ⟨lw_p37, List.forall_mem_cons.mpr ⟨lw_p38, List.forall_mem_cons.mpr ⟨lw_p39, List.forall_mem_cons.mpr ⟨lw_p40, List.forall_mem_cons.mpr ⟨lw_p41, List.forall_mem_cons.mpr ⟨lw_p42, List.forall_mem_cons.mpr ⟨lw_p43, List.forall_mem_cons.mpr ⟨lw_p44, List.forall_mem_cons.mpr ⟨lw_p45, List.forall_mem_cons.mpr ⟨lw_p46, List.forall_mem_cons.mpr ⟨lw_p47, fun _ h => absurd h List.not_mem_nil⟩⟩⟩⟩⟩⟩⟩⟩⟩⟩⟩⟩⟩⟩⟩⟩
set_option maxRecDepth 100000 in
theorem lw_p48 : lw_okq (⟨"PageSkeletonModel", "bad", "(ZII)Z"⟩, 53) := ⟨⟨by decide +kernel, by decide +kernel⟩, tbm5 198 rfl, tbm6 143 rfl, tbm6 144 rfl⟩
set_option maxRecDepth 100000 in
theorem lw_p49 : lw_okq (⟨"PageSkeletonModel", "blanks", "()I"⟩, 53) := ⟨⟨by decide +kernel, by decide +kernel⟩, tbm5 198 rfl, tbm6 147 rfl, tbm6 148 rfl⟩
set_option maxRecDepth 100000 in
theorem lw_p50 : lw_okq (⟨"PageSkeletonModel", "byteAt", "(I)I"⟩, 53) := ⟨⟨by decide +kernel, by decide +kernel⟩, tbm5 198 rfl, tbm6 151 rfl, tbm6 152 rfl⟩
set_option maxRecDepth 100000 in
theorem lw_p51 : lw_okq (⟨"PageSkeletonModel", "wrong", "(II)V"⟩, 53) := ⟨⟨by decide +kernel, by decide +kernel⟩, tbm5 198 rfl, tbm6 158 rfl, tbm6 159 rfl⟩
set_option maxRecDepth 100000 in
theorem lw_p52 : lw_okq (⟨"PageSkeletonModel", "readsToken", "()I"⟩, 53) := ⟨⟨by decide +kernel, by decide +kernel⟩, tbm5 198 rfl, tbm6 162 rfl, tbm6 163 rfl⟩
set_option maxRecDepth 100000 in
theorem lw_p53 : lw_okq (⟨"PageSkeletonModel", "readsSort", "()I"⟩, 53) := ⟨⟨by decide +kernel, by decide +kernel⟩, tbm5 198 rfl, tbm6 166 rfl, tbm6 167 rfl⟩
set_option maxRecDepth 100000 in
theorem lw_p54 : lw_okq (⟨"PageSkeletonModel", "readsName", "()V"⟩, 53) := ⟨⟨by decide +kernel, by decide +kernel⟩, tbm5 198 rfl, tbm6 170 rfl, tbm6 171 rfl⟩
set_option maxRecDepth 100000 in
theorem lw_p55 : lw_okq (⟨"PageSkeletonModel", "folds", "(I)V"⟩, 53) := ⟨⟨by decide +kernel, by decide +kernel⟩, tbm5 198 rfl, tbm6 174 rfl, tbm6 175 rfl⟩
set_option maxRecDepth 100000 in
theorem lw_p56 : lw_okq (⟨"PageSkeletonModel", "empties", "(I)V"⟩, 53) := ⟨⟨by decide +kernel, by decide +kernel⟩, tbm5 198 rfl, tbm6 178 rfl, tbm6 179 rfl⟩
set_option maxRecDepth 100000 in
theorem lw_p57 : lw_okq (⟨"PageSkeletonModel", "adds", "(III)I"⟩, 53) := ⟨⟨by decide +kernel, by decide +kernel⟩, tbm5 198 rfl, tbm6 182 rfl, tbm6 183 rfl⟩
set_option maxRecDepth 100000 in
theorem lw_p58 : lw_okq (⟨"PageSkeletonModel", "foldsOne", "(I)Z"⟩, 53) := ⟨⟨by decide +kernel, by decide +kernel⟩, tbm5 198 rfl, tbm6 186 rfl, tbm6 187 rfl⟩
set_option maxRecDepth 100000 in
theorem lw_p59 : lw_okq (⟨"PageSkeletonModel", "lists", "(III[I)I"⟩, 53) := ⟨⟨by decide +kernel, by decide +kernel⟩, tbm5 198 rfl, tbm6 190 rfl, tbm6 191 rfl⟩
set_option maxRecDepth 100000 in
theorem lw_p60 : lw_okq (⟨"PageSkeletonModel", "areRowsAlike", "(I[IIII)Z"⟩, 53) := ⟨⟨by decide +kernel, by decide +kernel⟩, tbm5 198 rfl, tbm6 194 rfl, tbm6 195 rfl⟩
set_option maxRecDepth 100000 in
theorem lw_p61 : lw_okq (⟨"PageSkeletonModel", "areAlike", "(IIII)Z"⟩, 53) := ⟨⟨by decide +kernel, by decide +kernel⟩, tbm5 198 rfl, tbm6 198 rfl, tbm6 199 rfl⟩
set_option maxRecDepth 100000 in
theorem lw_p62 : lw_okq (⟨"PageSkeletonModel", "itemsIn", "(II)I"⟩, 53) := ⟨⟨by decide +kernel, by decide +kernel⟩, tbm5 198 rfl, tbm6 205 rfl, tbm6 206 rfl⟩
set_option maxRecDepth 100000 in
theorem lw_p63 : lw_okq (⟨"PageSkeletonModel", "hasFirm", "(I[III)Z"⟩, 53) := ⟨⟨by decide +kernel, by decide +kernel⟩, tbm5 198 rfl, tbm6 209 rfl, tbm6 210 rfl⟩
def lw_privs_4 : List (MethodName × Nat) := [(⟨"PageSkeletonModel", "bad", "(ZII)Z"⟩, 53), (⟨"PageSkeletonModel", "blanks", "()I"⟩, 53), (⟨"PageSkeletonModel", "byteAt", "(I)I"⟩, 53), (⟨"PageSkeletonModel", "wrong", "(II)V"⟩, 53), (⟨"PageSkeletonModel", "readsToken", "()I"⟩, 53), (⟨"PageSkeletonModel", "readsSort", "()I"⟩, 53), (⟨"PageSkeletonModel", "readsName", "()V"⟩, 53), (⟨"PageSkeletonModel", "folds", "(I)V"⟩, 53), (⟨"PageSkeletonModel", "empties", "(I)V"⟩, 53), (⟨"PageSkeletonModel", "adds", "(III)I"⟩, 53), (⟨"PageSkeletonModel", "foldsOne", "(I)Z"⟩, 53), (⟨"PageSkeletonModel", "lists", "(III[I)I"⟩, 53), (⟨"PageSkeletonModel", "areRowsAlike", "(I[IIII)Z"⟩, 53), (⟨"PageSkeletonModel", "areAlike", "(IIII)Z"⟩, 53), (⟨"PageSkeletonModel", "itemsIn", "(II)I"⟩, 53), (⟨"PageSkeletonModel", "hasFirm", "(I[III)Z"⟩, 53)]
theorem lw_r4 : ∀ q ∈ lw_privs_4, lw_okq q := List.forall_mem_cons.mpr ⟨lw_p48, List.forall_mem_cons.mpr ⟨lw_p49, List.forall_mem_cons.mpr ⟨lw_p50, List.forall_mem_cons.mpr ⟨lw_p51, List.forall_mem_cons.mpr ⟨lw_p52, List.forall_mem_cons.mpr ⟨lw_p53, List.forall_mem_cons.mpr ⟨lw_p54, List.forall_mem_cons.mpr ⟨lw_p55, List.forall_mem_cons.mpr ⟨lw_p56, List.forall_mem_cons.mpr ⟨lw_p57, List.forall_mem_cons.mpr ⟨lw_p58, List.forall_mem_cons.mpr ⟨lw_p59, List.forall_mem_cons.mpr ⟨lw_p60, List.forall_mem_cons.mpr ⟨lw_p61, List.forall_mem_cons.mpr ⟨lw_p62, List.forall_mem_cons.mpr ⟨lw_p63, fun _ h => absurd h List.not_mem_nil⟩⟩⟩⟩⟩⟩⟩⟩⟩⟩⟩⟩⟩⟩⟩⟩
set_option maxRecDepth 100000 in
theorem lw_p64 : lw_okq (⟨"PageSkeletonModel", "putsRepeat", "(I[IIIII)V"⟩, 53) := ⟨⟨by decide +kernel, by decide +kernel⟩, tbm5 198 rfl, tbm6 213 rfl, tbm6 214 rfl⟩
set_option maxRecDepth 100000 in
theorem lw_p65 : lw_okq (⟨"PageSkeletonModel", "copies", "(III)V"⟩, 53) := ⟨⟨by decide +kernel, by decide +kernel⟩, tbm5 198 rfl, tbm6 217 rfl, tbm6 218 rfl⟩
set_option maxRecDepth 100000 in
theorem lw_p66 : lw_okq (⟨"PageSkeletonModel", "fuses", "(IIIII)I"⟩, 53) := ⟨⟨by decide +kernel, by decide +kernel⟩, tbm5 198 rfl, tbm6 221 rfl, tbm6 222 rfl⟩
set_option maxRecDepth 100000 in
theorem lw_p67 : lw_okq (⟨"PageSkeletonModel", "closes", "(II)V"⟩, 53) := ⟨⟨by decide +kernel, by decide +kernel⟩, tbm5 198 rfl, tbm6 225 rfl, tbm6 226 rfl⟩
set_option maxRecDepth 100000 in
theorem lw_p68 : lw_okq (⟨"PageSkeletonModel", "copiesAll", "(II)V"⟩, 53) := ⟨⟨by decide +kernel, by decide +kernel⟩, tbm5 198 rfl, tbm6 229 rfl, tbm6 230 rfl⟩
set_option maxRecDepth 100000 in
theorem lw_p69 : lw_okq (⟨"PageSkeletonModel", "tidiesAll", "()I"⟩, 53) := ⟨⟨by decide +kernel, by decide +kernel⟩, tbm5 198 rfl, tbm7 1 rfl, tbm7 2 rfl⟩
set_option maxRecDepth 100000 in
theorem lw_p70 : lw_okq (⟨"PageSkeletonModel", "tidies", "(IIII)V"⟩, 53) := ⟨⟨by decide +kernel, by decide +kernel⟩, tbm5 198 rfl, tbm7 5 rfl, tbm7 6 rfl⟩
set_option maxRecDepth 100000 in
theorem lw_p71 : lw_okq (⟨"PageSkeletonModel", "tidiesOne", "(I)Z"⟩, 53) := ⟨⟨by decide +kernel, by decide +kernel⟩, tbm5 198 rfl, tbm7 9 rfl, tbm7 10 rfl⟩
set_option maxRecDepth 100000 in
theorem lw_p72 : lw_okq (⟨"PageSkeletonModel", "isRepeat", "(II)Z"⟩, 53) := ⟨⟨by decide +kernel, by decide +kernel⟩, tbm5 198 rfl, tbm7 13 rfl, tbm7 14 rfl⟩
set_option maxRecDepth 100000 in
theorem lw_p73 : lw_okq (⟨"PageSkeletonModel", "joinsTwo", "(III)V"⟩, 53) := ⟨⟨by decide +kernel, by decide +kernel⟩, tbm5 198 rfl, tbm7 17 rfl, tbm7 18 rfl⟩
set_option maxRecDepth 100000 in
theorem lw_p74 : lw_okq (⟨"PageSkeletonModel", "hasAt", "(IIII)Z"⟩, 53) := ⟨⟨by decide +kernel, by decide +kernel⟩, tbm5 198 rfl, tbm7 21 rfl, tbm7 22 rfl⟩
set_option maxRecDepth 100000 in
theorem lw_p75 : lw_okq (⟨"PageSkeletonModel", "areNext", "(III[III)Z"⟩, 53) := ⟨⟨by decide +kernel, by decide +kernel⟩, tbm5 198 rfl, tbm7 25 rfl, tbm7 26 rfl⟩
set_option maxRecDepth 100000 in
theorem lw_p76 : lw_okq (⟨"PageSkeletonModel", "takesIn", "(IIIZ)Z"⟩, 53) := ⟨⟨by decide +kernel, by decide +kernel⟩, tbm5 198 rfl, tbm7 29 rfl, tbm7 30 rfl⟩
set_option maxRecDepth 100000 in
theorem lw_p77 : lw_okq (⟨"PageSkeletonModel", "fusesRow", "(III[III)I"⟩, 53) := ⟨⟨by decide +kernel, by decide +kernel⟩, tbm5 198 rfl, tbm7 33 rfl, tbm7 34 rfl⟩
set_option maxRecDepth 100000 in
theorem lw_p78 : lw_okq (⟨"PageSkeletonModel", "remembers", "(I)V"⟩, 53) := ⟨⟨by decide +kernel, by decide +kernel⟩, tbm5 198 rfl, tbm7 37 rfl, tbm7 38 rfl⟩
set_option maxRecDepth 100000 in
theorem lw_p79 : lw_okq (⟨"PageSkeletonModel", "dropsOldest", "()V"⟩, 53) := ⟨⟨by decide +kernel, by decide +kernel⟩, tbm5 198 rfl, tbm7 41 rfl, tbm7 42 rfl⟩
def lw_privs_5 : List (MethodName × Nat) := [(⟨"PageSkeletonModel", "putsRepeat", "(I[IIIII)V"⟩, 53), (⟨"PageSkeletonModel", "copies", "(III)V"⟩, 53), (⟨"PageSkeletonModel", "fuses", "(IIIII)I"⟩, 53), (⟨"PageSkeletonModel", "closes", "(II)V"⟩, 53), (⟨"PageSkeletonModel", "copiesAll", "(II)V"⟩, 53), (⟨"PageSkeletonModel", "tidiesAll", "()I"⟩, 53), (⟨"PageSkeletonModel", "tidies", "(IIII)V"⟩, 53), (⟨"PageSkeletonModel", "tidiesOne", "(I)Z"⟩, 53), (⟨"PageSkeletonModel", "isRepeat", "(II)Z"⟩, 53), (⟨"PageSkeletonModel", "joinsTwo", "(III)V"⟩, 53), (⟨"PageSkeletonModel", "hasAt", "(IIII)Z"⟩, 53), (⟨"PageSkeletonModel", "areNext", "(III[III)Z"⟩, 53), (⟨"PageSkeletonModel", "takesIn", "(IIIZ)Z"⟩, 53), (⟨"PageSkeletonModel", "fusesRow", "(III[III)I"⟩, 53), (⟨"PageSkeletonModel", "remembers", "(I)V"⟩, 53), (⟨"PageSkeletonModel", "dropsOldest", "()V"⟩, 53)]
theorem lw_r5 : ∀ q ∈ lw_privs_5, lw_okq q := List.forall_mem_cons.mpr ⟨lw_p64, List.forall_mem_cons.mpr ⟨lw_p65, List.forall_mem_cons.mpr ⟨lw_p66, List.forall_mem_cons.mpr ⟨lw_p67, List.forall_mem_cons.mpr ⟨lw_p68, List.forall_mem_cons.mpr ⟨lw_p69, List.forall_mem_cons.mpr ⟨lw_p70, List.forall_mem_cons.mpr ⟨lw_p71, List.forall_mem_cons.mpr ⟨lw_p72, List.forall_mem_cons.mpr ⟨lw_p73, List.forall_mem_cons.mpr ⟨lw_p74, List.forall_mem_cons.mpr ⟨lw_p75, List.forall_mem_cons.mpr ⟨lw_p76, List.forall_mem_cons.mpr ⟨lw_p77, List.forall_mem_cons.mpr ⟨lw_p78, List.forall_mem_cons.mpr ⟨lw_p79, fun _ h => absurd h List.not_mem_nil⟩⟩⟩⟩⟩⟩⟩⟩⟩⟩⟩⟩⟩⟩⟩⟩
set_option maxRecDepth 100000 in
theorem lw_p80 : lw_okq (⟨"PageSkeletonModel", "sizeOfAll", "(I)I"⟩, 53) := ⟨⟨by decide +kernel, by decide +kernel⟩, tbm5 198 rfl, tbm7 49 rfl, tbm7 50 rfl⟩
set_option maxRecDepth 100000 in
theorem lw_p81 : lw_okq (⟨"PageSkeletonModel", "sizeOf", "(III)I"⟩, 53) := ⟨⟨by decide +kernel, by decide +kernel⟩, tbm5 198 rfl, tbm7 53 rfl, tbm7 54 rfl⟩
set_option maxRecDepth 100000 in
theorem lw_p82 : lw_okq (⟨"PageSkeletonModel", "fitMany", "()I"⟩, 53) := ⟨⟨by decide +kernel, by decide +kernel⟩, tbm5 198 rfl, tbm7 57 rfl, tbm7 58 rfl⟩
set_option maxRecDepth 100000 in
theorem lw_p83 : lw_okq (⟨"PageSkeletonModel", "isFit", "(I)Z"⟩, 53) := ⟨⟨by decide +kernel, by decide +kernel⟩, tbm5 198 rfl, tbm7 61 rfl, tbm7 62 rfl⟩
set_option maxRecDepth 100000 in
theorem lw_p84 : lw_okq (⟨"PageSkeletonModel", "laysWays", "(I)V"⟩, 53) := ⟨⟨by decide +kernel, by decide +kernel⟩, tbm5 198 rfl, tbm7 65 rfl, tbm7 66 rfl⟩
set_option maxRecDepth 100000 in
theorem lw_p85 : lw_okq (⟨"PageSkeletonModel", "laysStates", "()V"⟩, 53) := ⟨⟨by decide +kernel, by decide +kernel⟩, tbm5 198 rfl, tbm7 69 rfl, tbm7 70 rfl⟩
set_option maxRecDepth 100000 in
theorem lw_p86 : lw_okq (⟨"PageSkeletonModel", "isLeaf", "(I)Z"⟩, 53) := ⟨⟨by decide +kernel, by decide +kernel⟩, tbm5 198 rfl, tbm7 73 rfl, tbm7 74 rfl⟩
set_option maxRecDepth 100000 in
theorem lw_p87 : lw_okq (⟨"PageSkeletonModel", "takes", "(II)Z"⟩, 53) := ⟨⟨by decide +kernel, by decide +kernel⟩, tbm5 198 rfl, tbm7 77 rfl, tbm7 78 rfl⟩
set_option maxRecDepth 100000 in
theorem lw_p88 : lw_okq (⟨"PageSkeletonModel", "waysFrom", "(III)I"⟩, 53) := ⟨⟨by decide +kernel, by decide +kernel⟩, tbm5 198 rfl, tbm7 81 rfl, tbm7 82 rfl⟩
set_option maxRecDepth 100000 in
theorem lw_p89 : lw_okq (⟨"PageSkeletonModel", "isOption", "(I)Z"⟩, 53) := ⟨⟨by decide +kernel, by decide +kernel⟩, tbm5 198 rfl, tbm7 85 rfl, tbm7 86 rfl⟩
set_option maxRecDepth 100000 in
theorem lw_p90 : lw_okq (⟨"PageSkeletonModel", "asIf", "(I)I"⟩, 53) := ⟨⟨by decide +kernel, by decide +kernel⟩, tbm5 198 rfl, tbm7 100 rfl, tbm7 101 rfl⟩
set_option maxRecDepth 100000 in
theorem lw_p91 : lw_okq (⟨"PageSkeletonModel", "lays", "(III)I"⟩, 53) := ⟨⟨by decide +kernel, by decide +kernel⟩, tbm5 198 rfl, tbm7 104 rfl, tbm7 105 rfl⟩
set_option maxRecDepth 100000 in
theorem lw_p92 : lw_okq (⟨"PageSkeletonModel", "laysRow", "(IIIIIIII)I"⟩, 53) := ⟨⟨by decide +kernel, by decide +kernel⟩, tbm5 198 rfl, tbm7 108 rfl, tbm7 109 rfl⟩
set_option maxRecDepth 100000 in
theorem lw_p93 : lw_okq (⟨"PageSkeletonModel", "costOf", "(IIII)I"⟩, 53) := ⟨⟨by decide +kernel, by decide +kernel⟩, tbm5 198 rfl, tbm7 113 rfl, tbm7 114 rfl⟩
set_option maxRecDepth 100000 in
theorem lw_p94 : lw_okq (⟨"PageSkeletonModel", "meets", "(IIII)I"⟩, 53) := ⟨⟨by decide +kernel, by decide +kernel⟩, tbm5 198 rfl, tbm7 117 rfl, tbm7 118 rfl⟩
set_option maxRecDepth 100000 in
theorem lw_p95 : lw_okq (⟨"PageSkeletonModel", "walks", "(II)V"⟩, 53) := ⟨⟨by decide +kernel, by decide +kernel⟩, tbm5 198 rfl, tbm7 121 rfl, tbm7 122 rfl⟩
def lw_privs_6 : List (MethodName × Nat) := [(⟨"PageSkeletonModel", "sizeOfAll", "(I)I"⟩, 53), (⟨"PageSkeletonModel", "sizeOf", "(III)I"⟩, 53), (⟨"PageSkeletonModel", "fitMany", "()I"⟩, 53), (⟨"PageSkeletonModel", "isFit", "(I)Z"⟩, 53), (⟨"PageSkeletonModel", "laysWays", "(I)V"⟩, 53), (⟨"PageSkeletonModel", "laysStates", "()V"⟩, 53), (⟨"PageSkeletonModel", "isLeaf", "(I)Z"⟩, 53), (⟨"PageSkeletonModel", "takes", "(II)Z"⟩, 53), (⟨"PageSkeletonModel", "waysFrom", "(III)I"⟩, 53), (⟨"PageSkeletonModel", "isOption", "(I)Z"⟩, 53), (⟨"PageSkeletonModel", "asIf", "(I)I"⟩, 53), (⟨"PageSkeletonModel", "lays", "(III)I"⟩, 53), (⟨"PageSkeletonModel", "laysRow", "(IIIIIIII)I"⟩, 53), (⟨"PageSkeletonModel", "costOf", "(IIII)I"⟩, 53), (⟨"PageSkeletonModel", "meets", "(IIII)I"⟩, 53), (⟨"PageSkeletonModel", "walks", "(II)V"⟩, 53)]
theorem lw_r6 : ∀ q ∈ lw_privs_6, lw_okq q := List.forall_mem_cons.mpr ⟨lw_p80, List.forall_mem_cons.mpr ⟨lw_p81, List.forall_mem_cons.mpr ⟨lw_p82, List.forall_mem_cons.mpr ⟨lw_p83, List.forall_mem_cons.mpr ⟨lw_p84, List.forall_mem_cons.mpr ⟨lw_p85, List.forall_mem_cons.mpr ⟨lw_p86, List.forall_mem_cons.mpr ⟨lw_p87, List.forall_mem_cons.mpr ⟨lw_p88, List.forall_mem_cons.mpr ⟨lw_p89, List.forall_mem_cons.mpr ⟨lw_p90, List.forall_mem_cons.mpr ⟨lw_p91, List.forall_mem_cons.mpr ⟨lw_p92, List.forall_mem_cons.mpr ⟨lw_p93, List.forall_mem_cons.mpr ⟨lw_p94, List.forall_mem_cons.mpr ⟨lw_p95, fun _ h => absurd h List.not_mem_nil⟩⟩⟩⟩⟩⟩⟩⟩⟩⟩⟩⟩⟩⟩⟩⟩
set_option maxRecDepth 100000 in
theorem lw_p96 : lw_okq (⟨"PageSkeletonModel", "firstWay", "(III)I"⟩, 53) := ⟨⟨by decide +kernel, by decide +kernel⟩, tbm5 198 rfl, tbm7 125 rfl, tbm7 126 rfl⟩
set_option maxRecDepth 100000 in
theorem lw_p97 : lw_okq (⟨"PageSkeletonModel", "ofSort", "(II)I"⟩, 53) := ⟨⟨by decide +kernel, by decide +kernel⟩, tbm5 198 rfl, tbm7 141 rfl, tbm7 142 rfl⟩
set_option maxRecDepth 100000 in
theorem lw_p98 : lw_okq (⟨"PageSkeletonModel", "isPage", "(I)Z"⟩, 53) := ⟨⟨by decide +kernel, by decide +kernel⟩, tbm5 198 rfl, tbm7 149 rfl, tbm7 150 rfl⟩
set_option maxRecDepth 100000 in
theorem lw_p99 : lw_okq (⟨"PageSkeletonModel", "deepest", "(I)I"⟩, 53) := ⟨⟨by decide +kernel, by decide +kernel⟩, tbm5 198 rfl, tbm7 153 rfl, tbm7 154 rfl⟩
set_option maxRecDepth 100000 in
theorem lw_p100 : lw_okq (⟨"PageSkeletonModel", "depthOf", "(III)I"⟩, 53) := ⟨⟨by decide +kernel, by decide +kernel⟩, tbm5 198 rfl, tbm7 157 rfl, tbm7 158 rfl⟩
set_option maxRecDepth 100000 in
theorem lw_p101 : lw_okq (⟨"PageSkeletonModel", "letter", "(II)I"⟩, 53) := ⟨⟨by decide +kernel, by decide +kernel⟩, tbm5 198 rfl, tbm7 172 rfl, tbm7 173 rfl⟩
set_option maxRecDepth 100000 in
theorem lw_p102 : lw_okq (⟨"PageSkeletonModel", "pagesWith", "(I)I"⟩, 53) := ⟨⟨by decide +kernel, by decide +kernel⟩, tbm5 198 rfl, tbm7 176 rfl, tbm7 177 rfl⟩
set_option maxRecDepth 100000 in
theorem lw_p103 : lw_okq (⟨"PageSkeletonModel", "isNode", "(I)Z"⟩, 53) := ⟨⟨by decide +kernel, by decide +kernel⟩, tbm5 198 rfl, tbm7 184 rfl, tbm7 185 rfl⟩
set_option maxRecDepth 100000 in
theorem lw_p104 : lw_okq (⟨"PageSkeletonModel", "of", "(III)I"⟩, 53) := ⟨⟨by decide +kernel, by decide +kernel⟩, tbm5 198 rfl, tbm7 188 rfl, tbm7 189 rfl⟩
set_option maxRecDepth 100000 in
theorem lw_p105 : lw_okq (⟨"PageSkeletonModel", "parentOf", "(II)I"⟩, 53) := ⟨⟨by decide +kernel, by decide +kernel⟩, tbm5 198 rfl, tbm7 192 rfl, tbm7 193 rfl⟩
set_option maxRecDepth 100000 in
theorem lw_p106 : lw_okq (⟨"PageSkeletonModel", "opensOn", "()Z"⟩, 53) := ⟨⟨by decide +kernel, by decide +kernel⟩, tbm5 198 rfl, tbm7 216 rfl, tbm7 217 rfl⟩
set_option maxRecDepth 100000 in
theorem lw_p107 : lw_okq (⟨"PageSkeletonModel", "turnsOn", "(I)Z"⟩, 53) := ⟨⟨by decide +kernel, by decide +kernel⟩, tbm5 198 rfl, tbm7 220 rfl, tbm7 221 rfl⟩
set_option maxRecDepth 100000 in
theorem lw_p108 : lw_okq (⟨"PageSkeletonModel", "walksPage", "(I)Z"⟩, 53) := ⟨⟨by decide +kernel, by decide +kernel⟩, tbm5 198 rfl, tbm7 228 rfl, tbm7 229 rfl⟩
set_option maxRecDepth 100000 in
theorem lw_p109 : lw_okq (⟨"PageSkeletonModel", "far", "(II)I"⟩, 53) := ⟨⟨by decide +kernel, by decide +kernel⟩, tbm5 198 rfl, tbm8 24 rfl, tbm8 25 rfl⟩
set_option maxRecDepth 100000 in
theorem lw_p110 : lw_okq (⟨"PageSkeletonModel", "goesInOrder", "(II)V"⟩, 53) := ⟨⟨by decide +kernel, by decide +kernel⟩, tbm5 198 rfl, tbm8 36 rfl, tbm8 37 rfl⟩
set_option maxRecDepth 100000 in
theorem lw_p111 : lw_okq (⟨"PageSkeletonModel", "laysOrder", "(II)V"⟩, 53) := ⟨⟨by decide +kernel, by decide +kernel⟩, tbm5 198 rfl, tbm8 40 rfl, tbm8 41 rfl⟩
def lw_privs_7 : List (MethodName × Nat) := [(⟨"PageSkeletonModel", "firstWay", "(III)I"⟩, 53), (⟨"PageSkeletonModel", "ofSort", "(II)I"⟩, 53), (⟨"PageSkeletonModel", "isPage", "(I)Z"⟩, 53), (⟨"PageSkeletonModel", "deepest", "(I)I"⟩, 53), (⟨"PageSkeletonModel", "depthOf", "(III)I"⟩, 53), (⟨"PageSkeletonModel", "letter", "(II)I"⟩, 53), (⟨"PageSkeletonModel", "pagesWith", "(I)I"⟩, 53), (⟨"PageSkeletonModel", "isNode", "(I)Z"⟩, 53), (⟨"PageSkeletonModel", "of", "(III)I"⟩, 53), (⟨"PageSkeletonModel", "parentOf", "(II)I"⟩, 53), (⟨"PageSkeletonModel", "opensOn", "()Z"⟩, 53), (⟨"PageSkeletonModel", "turnsOn", "(I)Z"⟩, 53), (⟨"PageSkeletonModel", "walksPage", "(I)Z"⟩, 53), (⟨"PageSkeletonModel", "far", "(II)I"⟩, 53), (⟨"PageSkeletonModel", "goesInOrder", "(II)V"⟩, 53), (⟨"PageSkeletonModel", "laysOrder", "(II)V"⟩, 53)]
theorem lw_r7 : ∀ q ∈ lw_privs_7, lw_okq q := List.forall_mem_cons.mpr ⟨lw_p96, List.forall_mem_cons.mpr ⟨lw_p97, List.forall_mem_cons.mpr ⟨lw_p98, List.forall_mem_cons.mpr ⟨lw_p99, List.forall_mem_cons.mpr ⟨lw_p100, List.forall_mem_cons.mpr ⟨lw_p101, List.forall_mem_cons.mpr ⟨lw_p102, List.forall_mem_cons.mpr ⟨lw_p103, List.forall_mem_cons.mpr ⟨lw_p104, List.forall_mem_cons.mpr ⟨lw_p105, List.forall_mem_cons.mpr ⟨lw_p106, List.forall_mem_cons.mpr ⟨lw_p107, List.forall_mem_cons.mpr ⟨lw_p108, List.forall_mem_cons.mpr ⟨lw_p109, List.forall_mem_cons.mpr ⟨lw_p110, List.forall_mem_cons.mpr ⟨lw_p111, fun _ h => absurd h List.not_mem_nil⟩⟩⟩⟩⟩⟩⟩⟩⟩⟩⟩⟩⟩⟩⟩⟩
set_option maxRecDepth 100000 in
theorem lw_p112 : lw_okq (⟨"PageSkeletonModel", "areSame", "(II)Z"⟩, 53) := ⟨⟨by decide +kernel, by decide +kernel⟩, tbm5 198 rfl, tbm8 44 rfl, tbm8 45 rfl⟩
set_option maxRecDepth 100000 in
theorem lw_p113 : lw_okq (⟨"PageSkeletonModel", "cutsFrom", "(III)I"⟩, 53) := ⟨⟨by decide +kernel, by decide +kernel⟩, tbm5 198 rfl, tbm8 64 rfl, tbm8 65 rfl⟩
def lw_privs_8 : List (MethodName × Nat) := [(⟨"PageSkeletonModel", "areSame", "(II)Z"⟩, 53), (⟨"PageSkeletonModel", "cutsFrom", "(III)I"⟩, 53)]
theorem lw_r8 : ∀ q ∈ lw_privs_8, lw_okq q := List.forall_mem_cons.mpr ⟨lw_p112, List.forall_mem_cons.mpr ⟨lw_p113, fun _ h => absurd h List.not_mem_nil⟩⟩
def lw_privs : List (MethodName × Nat) := lw_privs_1 ++ (lw_privs_2 ++ (lw_privs_3 ++ (lw_privs_4 ++ (lw_privs_5 ++ (lw_privs_6 ++ (lw_privs_7 ++ (lw_privs_8)))))))
def lw_tbl : List Cond := k2_sels lw_privs ++ tables_1
theorem lw_privs_ok : ∀ q ∈ lw_privs, lw_okq q := by
  show ∀ q ∈ lw_privs_1 ++ (lw_privs_2 ++ (lw_privs_3 ++ (lw_privs_4 ++ (lw_privs_5 ++ (lw_privs_6 ++ (lw_privs_7 ++ (lw_privs_8))))))), lw_okq q
  exact List.forall_mem_append.mpr ⟨lw_r1, List.forall_mem_append.mpr ⟨lw_r2, List.forall_mem_append.mpr ⟨lw_r3, List.forall_mem_append.mpr ⟨lw_r4, List.forall_mem_append.mpr ⟨lw_r5, List.forall_mem_append.mpr ⟨lw_r6, List.forall_mem_append.mpr ⟨lw_r7, lw_r8⟩⟩⟩⟩⟩⟩⟩

/-! ===== BEGIN words of one list among another's, by their places ===== -/
theorem goodIn_r {big : List Cond} (ws : List Cond) (ps : List Nat) (hp : ws = ps.filterMap (fun i => big[i]?)) (h : ws.all goodWord = true) : GoodIn big ws := by
  intro w hw
  have h1 := List.all_eq_true.mp h w hw
  rw [hp] at hw
  obtain ⟨i, -, hi⟩ := List.mem_filterMap.mp hw
  have hm : w ∈ big := by first | exact List.mem_of_getElem? hi | exact List.getElem?_mem hi
  exact ⟨hm, good_of_word h1⟩
theorem goodIn_app {big a b : List Cond} (ha : GoodIn big a) (hb : GoodIn big b) : GoodIn big (a ++ b) := fun w h => (List.mem_append.mp h).elim (ha w) (hb w)
theorem goodIn_ca {big a b : List Cond} {c : Cond} (ha : GoodIn big (c :: a)) (hb : GoodIn big b) : GoodIn big (c :: (a ++ b)) := fun w h => (List.mem_cons.mp h).elim (fun e => ha w (List.mem_cons.mpr (Or.inl e))) (fun h => (List.mem_append.mp h).elim (fun h => ha w (List.mem_cons.mpr (Or.inr h))) (hb w))
theorem goodIn_sub {big ws : List Cond} (hm : ∀ w ∈ ws, w ∈ big) (h : ws.all goodWord = true) : GoodIn big ws := fun w hw => ⟨hm w hw, good_of_word (List.all_eq_true.mp h w hw)⟩
/-! ===== END ===== -/

/-! ===== BEGIN exceptions that leave a method, and their catching by the caller (launches without stack traces) ===== -/
section VXA
/-! The laws vx_back, vx_callV, vx_callS, vx_callSW, vx_throw0, vx_throwS follow proofs of the library, with one case more: JvmDerived/Free/Laws.lean (Back.of_free), Shelf42/LK1.lean (callV, callS), Shelf/KitTraced.lean (throwNew0V, throwNewS). -/
/-- where a method has thrown q: the class by its name, the cell, what was written, the world -/
def vx_T (XC : String → State → State → Prop) (st : State) (q : Addr) (t : State) (mc ms : Nat) (free : Addr → Prop) : Prop :=
  ∃ (E : String) (ce : Cell) (L : List Loc), XC E st t ∧ t.heap[q]? = some ce ∧ ce.vm = .none ∧ st.vm.findClass E = some ce.cls ∧ st.WarmedH t.vm ∧ st.sameButNew ({ t with vm := st.vm } : State) L mc ms ∧ ∀ z ∈ L, free z.base
def vx_Q (Qc : Array Value → State → Outcome → State → Prop) (XC : String → State → State → Prop) (mc ms : Nat) (free : Addr → Prop) : Array Value → State → Outcome → State → Prop := fun a st o t =>
  (Qc a st o t ∧ ∃ L, FrameEnd st o t L mc ms ∧ ∀ q ∈ L, free q.base) ∨ ∃ q, o = .threw q ∧ vx_T XC st q t mc ms free
/-- a callee that returns or throws -/
def vx_Met (l : Launch) (y : MethodName) (ws : List Cond) (rm : Room) (Pc : Array Value → State → Prop) (Qc : Array Value → State → Outcome → State → Prop) (XC : String → State → State → Prop) (mc ms : Nat) (free : Addr → Prop) : Prop :=
  MetFree l y (headSpec ws rm) Pc (fun _ _ _ _ _ => True) (vx_Q Qc XC mc ms free)
def vx_Post (XC : String → State → State → Prop) (mc ms : Nat) (free : Addr → Prop) : Pt → Array Value → Addr → Pt → Prop := fun A a q B =>
  ∃ (g : JFrame) (mk : MethodId) (t : State) (L : List Loc) (E : String) (ce : Cell), B.U.heap = t.heap ∧ B.U.vm = t.vm ∧ XC E (A.U.calling g mk a) t ∧ t.heap[q]? = some ce ∧ ce.vm = .none ∧ A.U.vm.findClass E = some ce.cls ∧ B.locs = A.locs ++ L ∧ (∀ z ∈ L, free z.base) ∧ B.cells = A.cells + mc ∧ B.slots = A.slots + ms
def vx_Back (l : Launch) (R : Room) (p : Program) (e : Env) (below : List Frame) (s : State) (sargs : Array Value) (y : MethodName) (len W9 : Nat)
    (Pre : Pt → Array Value → Prop) (Post : Pt → Array Value → Option Value → Pt → Prop) (PostX : Pt → Array Value → Addr → Pt → Prop) : Prop :=
  ∀ (m : MethodId) (meth : Method) (c : Code) (A : Pt) (g : JFrame) (ig : Instr) (mk : MethodId) (a : Array Value),
    Stand p l e R s m sargs below meth c A.U A.locs A.cells A.slots → g.method = m → g.locals.size = c.maxLocals → decode c.code g.pc = .ok (ig, len) →
    2 * g.monitorRoom + (g.stack.map fun v => v.category).sum ≤ W9 → A.U.methodNamed? y = some mk → Pre A a →
    (∃ (v : Option Value) (B : Pt), Stand p l e R s m sargs below meth c B.U B.locs B.cells B.slots ∧ Post A a v B ∧
      Steps p.tables e below (doInvoke e (A.U.setTop g) [] mk a).1 (B.U.setTop { g with pc := g.pc + len, stack := v.toList ++ g.stack })) ∨
    (∃ (q : Addr) (B : Pt), Stand p l e R s m sargs below meth c B.U B.locs B.cells B.slots ∧ PostX A a q B ∧
      Steps p.tables e below (doInvoke e (A.U.setTop g) [] mk a).1 ((B.U.setTop g).pushFrame (.throwing q)))
section Payer
variable {l : Launch} {R : Room} {p : Program} {e : Env} {below : List Frame} {s : State} {sargs : Array Value} {y : MethodName} {len W9 : Nat}
theorem vx_back {ws : List Cond} {rm : Room} {Pc : Array Value → State → Prop} {Qc : Array Value → State → Outcome → State → Prop} {XC : String → State → State → Prop} {mc ms : Nat} {free : Addr → Prop} {bytes : ByteArray} {maxL : Nat} {ret : Option FieldType}
    (hM : vx_Met l y ws rm Pc Qc XC mc ms free) (hblind : FrameBlind Pc) (hrc : rm.cells = mc) (hrs : rm.slots = ms)
    (hframes : rm.frames + 1 ≤ R.frames) (hlocals : W9 + (maxL + 11) + rm.locals ≤ R.locals)
    (hws : ∀ w ∈ ws, ∀ a' U, s.WarmedH U.vm → w.before a' U = true) (hcode : Cond.code y bytes maxL ret ∈ ws) (hinit : ∀ a' U, s.WarmedH U.vm → (Cond.initialized y.cls).before a' U = true) :
    vx_Back l R p e below s sargs y len W9 (PreOf R mc ms Pc) (PostOf Qc mc ms free) (vx_Post XC mc ms free) := by
  intro m meth c A g ig mk a X hg hsize hdg hW hn hp
  have h1 : (headSpec ws rm).pre.before a A.U = true := atoms_intro fun w hw => hws w hw _ _ X.warmed
  have h2 : (Cond.code y bytes maxL ret).before a A.U = true := hws _ hcode _ _ X.warmed
  have h3 : (Cond.initialized y.cls).before a A.U = true := hinit _ _ X.warmed
  have h4 : A.cells + (headSpec ws rm).room.cells ≤ R.cells := by rw [show (headSpec ws rm).room.cells = mc from hrc]; exact hp.1
  have h5 : A.slots + (headSpec ws rm).room.slots ≤ R.slots := by rw [show (headSpec ws rm).room.slots = ms from hrs]; exact hp.2.1
  have hPc : Pc a (A.U.calling g mk a) := hblind _ _ _ _ hp.2.2
  obtain ⟨U, Ls, c0, s0⟩ := A
  dsimp only [Pt.U, Pt.locs, Pt.cells, Pt.slots] at h1 h2 h3 h4 h5 X hn hPc ⊢
  obtain ⟨methY, cY, hmY, hcY, -, hlY, -, -, -, -⟩ := Cond.code_spec hn h2
  obtain ⟨kY, hkY, -⟩ := className_of_methodNamed hn
  have hinitY : kY.init = .initialized := Cond.initialized_spec (findClass_of_methodNamed hn) hkY h3
  have h : At U g.method c below := by rw [hg]; exact X.here
  have hlocals9 : W9 + (maxL + 11) + (headSpec ws rm).room.locals ≤ R.locals := hlocals
  have happ : (headSpec ws rm).appliesLoose y e.platform (U.calling g mk a) = true :=
    Spec.appliesLoose_calling (g := g) h hdg hn hkY hinitY
      (X.room_calling (g := g) (R' := (headSpec ws rm).room) hsize hmY hcY hframes (by rw [hlY]; omega) h4 h5) h1
  obtain ⟨mid, hmid⟩ := h.above
  have hfr : (U.setTop g).frames = (.java g :: mid) ++ below := by rw [State.frames_setTop' g h.top, hmid]; rfl
  obtain ⟨o, s₂, hsteps, -, hend, hq⟩ := Steps.callFree hM p X.admits X.cas X.clock (acts := []) hfr happ hPc trivial
  have hq' : vx_Q Qc XC mc ms free a (U.calling g mk a) o s₂ := hq
  rw [State.frames_setTop' g h.top] at hend
  obtain ⟨g₀, hg0⟩ := Option.isSome_iff_exists.mp h.top
  obtain ⟨r, hr⟩ := State.topJava?_eq_some.mp hg0
  have hr' : (({ U with heap := s₂.heap, slotsUsed := s₂.slotsUsed } : State).setVm s₂.vm).frames = .java g₀ :: r := hr
  rcases hq' with ⟨hqc, L, hfe, hL⟩ | ⟨q, rfl, E, ce, L, hx, hce, hcv, hcl, hW₂, hsm, hL⟩
  · obtain ⟨⟨v, rfl⟩, hW₂, e2, q2, q3, q4, q5, q6⟩ := id hfe
    have e3 : s₂ = ({ (U.calling g mk a).setFrames s₂.frames with heap := s₂.heap, slotsUsed := s₂.slotsUsed } : State).setVm s₂.vm := by
      have : s₂ = ({ s₂ with vm := (U.calling g mk a).vm } : State).setVm s₂.vm := rfl
      rw [e2] at this
      exact this
    obtain ⟨c₂, i₂, len₂, hc₂, hd₂, hf₂⟩ := hend
    have hW' : U.WarmedH s₂.vm := hW₂
    have hcc : c₂ = c := by
      have h1 : s₂.code? g.method = U.code? g.method := by
        rw [State.code?_eq, State.code?_eq, hW'.alike.method?]
      exact Option.some.inj (hc₂.symm.trans (h1.trans h.code))
    subst hcc
    have hlen : len₂ = len := by rw [hdg] at hd₂; cases hd₂; rfl
    subst hlen
    have hs₂ : s₂ = (({ U with heap := s₂.heap, slotsUsed := s₂.slotsUsed } : State).setVm s₂.vm).setTop { g with pc := g.pc + len₂, stack := v.toList ++ g.stack } := by
      refine e3.trans ?_
      rw [hf₂, State.calling_eq h.top, State.setFrames_setFrames, State.setTop_of_frames _ hr', hr]
      rfl
    have hsame : U.sameButNew ({ U with heap := s₂.heap, slotsUsed := s₂.slotsUsed } : State) L mc ms := by
      refine ⟨?_, q2, q3, q4, q5, q6⟩
      obtain ⟨t, ht, -⟩ := State.frames_cons hr
      show ({ U with heap := s₂.heap, slotsUsed := s₂.slotsUsed } : State) = { U.setFrames U.frames with heap := s₂.heap, slotsUsed := s₂.slotsUsed }
      rw [State.setFrames_self ht]
    subst hg
    refine Or.inl ⟨v, ⟨(({ U with heap := s₂.heap, slotsUsed := s₂.slotsUsed } : State).setVm s₂.vm), Ls ++ L, c0 + mc, s0 + ms⟩,
      ⟨X.admits, X.cas, X.clock, X.frames, X.room, X.hears, X.method, X.code, (X.here.setHeapUsed s₂.heap s₂.slotsUsed).setVm hW'.alike, X.tail, State.WarmedH.trans X.warmed hW', X.limits, X.bytes, X.same.trans (hsame.setVm s.vm)⟩,
      ⟨g, mk, s₂, L, rfl, rfl, hqc, rfl, hL, rfl, rfl⟩, ?_⟩
    show Steps p.tables e below _ ((({ U with heap := s₂.heap, slotsUsed := s₂.slotsUsed } : State).setVm s₂.vm).setTop { g with pc := g.pc + len₂, stack := v.toList ++ g.stack })
    rw [← hs₂]
    exact hsteps
  · obtain ⟨e2, q2, q3, q4, q5, q6⟩ := id hsm
    have e3 : s₂ = ({ (U.calling g mk a).setFrames s₂.frames with heap := s₂.heap, slotsUsed := s₂.slotsUsed } : State).setVm s₂.vm := by
      have : s₂ = ({ s₂ with vm := (U.calling g mk a).vm } : State).setVm s₂.vm := rfl
      rw [e2] at this
      exact this
    have hf₂ : s₂.frames = .throwing q :: .java g :: U.frames.tail := hend
    have hW' : U.WarmedH s₂.vm := hW₂
    have hs₂ : s₂ = ((({ U with heap := s₂.heap, slotsUsed := s₂.slotsUsed } : State).setVm s₂.vm).setTop g).pushFrame (.throwing q) := by
      refine e3.trans ?_
      rw [hf₂, State.calling_eq h.top, State.setFrames_setFrames, State.pushFrame, State.frames_setTop _ hr', State.setTop_of_frames _ hr', State.setFrames_setFrames, hr]
      rfl
    have hsame : U.sameButNew ({ U with heap := s₂.heap, slotsUsed := s₂.slotsUsed } : State) L mc ms := by
      refine ⟨?_, q2, q3, q4, q5, q6⟩
      obtain ⟨t, ht, -⟩ := State.frames_cons hr
      show ({ U with heap := s₂.heap, slotsUsed := s₂.slotsUsed } : State) = { U.setFrames U.frames with heap := s₂.heap, slotsUsed := s₂.slotsUsed }
      rw [State.setFrames_self ht]
    subst hg
    refine Or.inr ⟨q, ⟨(({ U with heap := s₂.heap, slotsUsed := s₂.slotsUsed } : State).setVm s₂.vm), Ls ++ L, c0 + mc, s0 + ms⟩,
      ⟨X.admits, X.cas, X.clock, X.frames, X.room, X.hears, X.method, X.code, (X.here.setHeapUsed s₂.heap s₂.slotsUsed).setVm hW'.alike, X.tail, State.WarmedH.trans X.warmed hW', X.limits, X.bytes, X.same.trans (hsame.setVm s.vm)⟩,
      ⟨g, mk, s₂, L, E, ce, rfl, rfl, hx, hce, hcv, hcl, rfl, hL, rfl, rfl⟩, ?_⟩
    show Steps p.tables e below _ (((({ U with heap := s₂.heap, slotsUsed := s₂.slotsUsed } : State).setVm s₂.vm).setTop g).pushFrame (.throwing q))
    rw [← hs₂]
    exact hsteps
end Payer
section Calls
variable {p : Program} {l : Launch} {e : Env} {R : Room} {s : State} {m : MethodId} {args : Array Value} {below : List Frame} {meth : Method} {c : Code} {T : State} {locs : List Loc} {cells slots : Nat}
theorem vx_callV (X : Stand p l e R s m args below meth c T locs cells slots) (hexec : p.tables.exec = Jvm.exec) {own C : String} {index : Nat} {y : MethodName} {bytes : ByteArray} {maxL : Nat} {ret : Option FieldType}
    (hown : s.vm.findClass own = some m.cls) (hlink : (Cond.methodLink own index y).before args s = true) (hinst : (Cond.instanceMethod y).before args s = true) (hsel : (Cond.selects C y y).before args s = true)
    (hcode : (Cond.code y bytes maxL ret).before args s = true) (hy : y.cls ≠ "java/lang/invoke/MethodHandle" ∧ y.cls ≠ "java/lang/invoke/VarHandle")
    {W9 : Nat} {Pre : Pt → Array Value → Prop} {Post : Pt → Array Value → Option Value → Pt → Prop} {PostX : Pt → Array Value → Addr → Pt → Prop} (hK : vx_Back l R p e below s args y 3 W9 Pre Post PostX)
    {b : Addr} {cellB : Cell} (hcell : T.heap[b]? = some cellB) (hobj : cellB.vm.isStatics = false) (hcls : s.vm.findClass C = some cellB.cls)
    {g : JFrame} (hg : g.method = m) (hsize : g.locals.size = c.maxLocals) {argsL rest : List Value} (hlen : ∀ sig, parseMethodDescriptor y.desc = some sig → argsL.length = sig.parameters.length)
    (hstack : g.stack = argsL.reverse ++ .ref b :: rest) (hW : 2 * g.monitorRoom + (rest.map fun v => v.category).sum ≤ W9) (hdg : decode c.code g.pc = .ok (.invokevirtual index, 3))
    (hpre : ∀ vm₁, s.WarmedH vm₁ → Pre ⟨T.setVm vm₁, locs, cells, slots⟩ (Value.ref b :: argsL).toArray) :
    (∃ (v : Option Value) (vm₁ : Vm) (B : Pt), s.WarmedH vm₁ ∧ Stand p l e R s m args below meth c B.U B.locs B.cells B.slots ∧ Post ⟨T.setVm vm₁, locs, cells, slots⟩ (Value.ref b :: argsL).toArray v B ∧
      ∀ target, Steps p.tables e below (B.U.setTop { g with pc := g.pc + 3, stack := v.toList ++ rest }) target → Steps p.tables e below (T.setTop g) target) ∨
    (∃ (q : Addr) (vm₁ : Vm) (B : Pt), s.WarmedH vm₁ ∧ Stand p l e R s m args below meth c B.U B.locs B.cells B.slots ∧ PostX ⟨T.setVm vm₁, locs, cells, slots⟩ (Value.ref b :: argsL).toArray q B ∧
      Steps p.tables e below (T.setTop g) ((B.U.setTop { g with stack := rest }).pushFrame (.throwing q))) := by
  obtain ⟨mk, methM, hnamed, hmethM, hstM, habM⟩ := Cond.instanceMethod_spec hinst
  obtain ⟨methM', cM, hmethM', -, -, -, -, -, -, hsigM⟩ := Cond.code_spec hnamed hcode
  cases hmethM.symm.trans hmethM'
  obtain ⟨c2, r2, m2, q1, q2, q3, q4, kP, hkP, hkPi⟩ := Cond.selects_spec hsel
  cases hcls.symm.trans q1
  cases (State.methodFound?_of_named hnamed hy).symm.trans q2
  cases hnamed.symm.trans q3
  have hselP : selectMethod e.platform s.vm cellB.cls mk = .method mk := by rw [Launch.admits_selectMethod X.admits]; exact q4
  obtain ⟨vm₁, X₁, hstep₁⟩ := X.invokevirtual hexec hown hlink hnamed hmethM hstM hkP hkPi hy (a := b) (cell := cellB) hcell
    (fun z h => by rw [h] at hobj; cases hobj) hselP hmethM habM hkP hkPi (g := g) hg (argsL := argsL) (rest := rest) (hlen _ hsigM) hstack hdg
  rcases hK m meth c ⟨T.setVm vm₁, locs, cells, slots⟩ { g with stack := rest } (.invokevirtual index) mk (Value.ref b :: argsL).toArray X₁ hg hsize hdg hW (X₁.named hnamed) (hpre vm₁ X₁.warmed) with ⟨v, B, X', hpost, hsteps⟩ | ⟨q, B, X', hpost, hsteps⟩
  · exact Or.inl ⟨v, vm₁, B, X₁.warmed, X', hpost, fun target h => hstep₁ _ fun acts => by rw [doInvoke_state]; exact hsteps.trans h⟩
  · exact Or.inr ⟨q, vm₁, B, X₁.warmed, X', hpost, hstep₁ _ fun acts => by rw [doInvoke_state]; exact hsteps⟩
theorem vx_callS (X : Stand p l e R s m args below meth c T locs cells slots) (hexec : p.tables.exec = Jvm.exec) {own : String} {index : Nat} {y : MethodName} {bytes : ByteArray} {maxL : Nat} {ret : Option FieldType}
    (hown : s.vm.findClass own = some m.cls) (hlink : (Cond.methodLink own index y).before args s = true) (hstat : (Cond.static y).before args s = true) (hinit : (Cond.initialized y.cls).before args s = true)
    (hcode : (Cond.code y bytes maxL ret).before args s = true) (hy : y.cls ≠ "java/lang/invoke/MethodHandle" ∧ y.cls ≠ "java/lang/invoke/VarHandle")
    {W9 : Nat} {Pre : Pt → Array Value → Prop} {Post : Pt → Array Value → Option Value → Pt → Prop} {PostX : Pt → Array Value → Addr → Pt → Prop} (hK : vx_Back l R p e below s args y 3 W9 Pre Post PostX)
    {g : JFrame} (hg : g.method = m) (hsize : g.locals.size = c.maxLocals) {argsL rest : List Value} (hlen : ∀ sig, parseMethodDescriptor y.desc = some sig → argsL.length = sig.parameters.length)
    (hstack : g.stack = argsL.reverse ++ rest) (hW : 2 * g.monitorRoom + (rest.map fun v => v.category).sum ≤ W9) (hdg : decode c.code g.pc = .ok (.invokestatic index, 3))
    (hpre : ∀ vm₁, s.WarmedH vm₁ → Pre ⟨T.setVm vm₁, locs, cells, slots⟩ argsL.toArray) :
    (∃ (v : Option Value) (vm₁ : Vm) (B : Pt), s.WarmedH vm₁ ∧ Stand p l e R s m args below meth c B.U B.locs B.cells B.slots ∧ Post ⟨T.setVm vm₁, locs, cells, slots⟩ argsL.toArray v B ∧
      ∀ target, Steps p.tables e below (B.U.setTop { g with pc := g.pc + 3, stack := v.toList ++ rest }) target → Steps p.tables e below (T.setTop g) target) ∨
    (∃ (q : Addr) (vm₁ : Vm) (B : Pt), s.WarmedH vm₁ ∧ Stand p l e R s m args below meth c B.U B.locs B.cells B.slots ∧ PostX ⟨T.setVm vm₁, locs, cells, slots⟩ argsL.toArray q B ∧
      Steps p.tables e below (T.setTop g) ((B.U.setTop { g with stack := rest }).pushFrame (.throwing q))) := by
  obtain ⟨mk, hnamed⟩ := Cond.code_named hcode
  obtain ⟨methM, cM, hmethM, -, -, -, -, -, -, hsigM⟩ := Cond.code_spec hnamed hcode
  have hstatic : methM.isStatic = true := Cond.static_spec hnamed hmethM hstat
  obtain ⟨kP, hkP, -⟩ := className_of_methodNamed hnamed
  have hinitP : kP.init = .initialized := Cond.initialized_spec (findClass_of_methodNamed hnamed) hkP hinit
  obtain ⟨vm₁, X₁, hstep₁⟩ := X.invokestatic hexec hown hlink hnamed hmethM hstatic hkP hinitP hy (g := g) hg (argsL := argsL) (rest := rest) (hlen _ hsigM) hstack hdg
  rcases hK m meth c ⟨T.setVm vm₁, locs, cells, slots⟩ { g with stack := rest } (.invokestatic index) mk argsL.toArray X₁ hg hsize hdg hW (X₁.named hnamed) (hpre vm₁ X₁.warmed) with ⟨v, B, X', hpost, hsteps⟩ | ⟨q, B, X', hpost, hsteps⟩
  · exact Or.inl ⟨v, vm₁, B, X₁.warmed, X', hpost, fun target h => hstep₁ _ fun acts => by rw [doInvoke_state]; exact hsteps.trans h⟩
  · exact Or.inr ⟨q, vm₁, B, X₁.warmed, X', hpost, hstep₁ _ fun acts => by rw [doInvoke_state]; exact hsteps⟩
end Calls
theorem vx_cls {s : State} {T : State} {vm₁ : Vm} {E : String} {k : ClassId} (hW : s.WarmedH vm₁) (h : (T.setVm vm₁).vm.findClass E = some k) : s.vm.findClass E = some k := by
  have h1 : vm₁.findClass E = some k := h
  rw [hW.alike.findClass] at h1
  exact h1
/-- the method's frame g, with q thrown over it -/
def vx_W (p : Program) (l : Launch) (e : Env) (R : Room) (s : State) (m : MethodId) (args : Array Value) (below : List Frame) (meth : Method) (c : Code) (H : Heap) (locs : List Loc) (cells slots : Nat) (Q : State → Prop) (g : JFrame) (q : Addr) : Prop :=
  ∀ T : State, T.heap = H → Stand p l e R s m args below meth c T locs cells slots → ∃ t, Steps p.tables e below ((T.setTop g).pushFrame (.throwing q)) t ∧ Q t
def vx_Run (p : Program) (l : Launch) (e : Env) (R : Room) (s : State) (m : MethodId) (args : Array Value) (below : List Frame) (meth : Method) (c : Code) (H : Heap) (locs : List Loc) (cells slots mc ms : Nat) (g : JFrame) (rest : List Value) (Qa : State → Outcome → State → Prop) (XC : String → State → State → Prop) (free : Addr → Prop) : Prop :=
  ∀ T : State, T.heap = H → Stand p l e R s m args below meth c T locs cells slots →
    (∃ (v : Option Value) (st₀ t T' : State) (L : List Loc), st₀.heap = H ∧ Stand p l e R s m args below meth c T' (locs ++ L) (cells + mc) (slots + ms) ∧ (∀ q ∈ L, free q.base) ∧ T'.heap = t.heap ∧ T'.vm = t.vm ∧ Qa st₀ (.returned v) t ∧
      Goes p e below T g T' { g with pc := g.pc + 3, stack := v.toList ++ rest }) ∨
    (∃ (q : Addr) (st₀ t T' : State) (L : List Loc) (E : String) (ce : Cell), st₀.heap = H ∧ Stand p l e R s m args below meth c T' (locs ++ L) (cells + mc) (slots + ms) ∧ (∀ z ∈ L, free z.base) ∧ T'.heap = t.heap ∧ T'.vm = t.vm ∧ XC E st₀ t ∧ t.heap[q]? = some ce ∧ ce.vm = .none ∧ s.vm.findClass E = some ce.cls ∧
      Steps p.tables e below (T.setTop g) ((T'.setTop { g with stack := rest }).pushFrame (.throwing q)))
def vx_X {S : Type} (px : S → Prop) (B : String → S → State → Prop) (A : Nat → Prop) : String → State → State → Prop := fun E st t => ∃ u : S, px u ∧ B E u t ∧ va_F A st t
section Runs
variable {p : Program} {l : Launch} {e : Env} {R : Room} {s : State} {m : MethodId} {args : Array Value} {below : List Frame} {meth : Method} {c : Code} {H : Heap} {locs : List Loc} {cells slots : Nat}
variable {y : MethodName} {bytes cc : ByteArray} {maxL nL mc ms n index : Nat} {ret : Option FieldType} {ws : List Cond} {rm : Room} {Pc : Array Value → State → Prop} {Qc : Array Value → State → Outcome → State → Prop} {XC : String → State → State → Prop} {free : Addr → Prop} {Ts : List Cond} {own C : String} {b : Addr} {As rest : List Value} {g : JFrame}
theorem vx_callBack (cb : CallB R s args own index y bytes maxL ret ws rm mc ms n) (hM : vx_Met l y ws rm Pc Qc XC mc ms free) (hbl : FrameBlind Pc) : vx_Back l R p e below s args y 3 8 (PreOf R mc ms Pc) (PostOf Qc mc ms free) (vx_Post XC mc ms free) := by
  obtain ⟨hrc, hrs, hfr, hlo, hws, hcw, -, hini, -⟩ := cb
  exact vx_back (bytes := bytes) (maxL := maxL) (ret := ret) hM hbl hrc hrs hfr hlo hws hcw (fun a' U hW => word_at hW (Or.inl (by first | rfl | simp [Cond.onTables, Cond.keeps, Cond.steady])) hini)
theorem vx_runV (S : CallFix p m c cc nL s args Ts own) (hM : vx_Met l y ws rm Pc Qc XC mc ms free) (cw : CallW R s args own C index y bytes maxL ret ws rm mc ms n) (hp : PreV s H C b Pc As)
    (hg : g.method = m) (hn : As.length = n) (hsize : g.locals.size = nL) (hstack : g.stack = As.reverse ++ .ref b :: rest) (hW : 2 * g.monitorRoom + (rest.map fun v => v.category).sum ≤ 8) (hdg : decode cc g.pc = .ok (.invokevirtual index, 3)) (hf : cells + mc ≤ R.cells ∧ slots + ms ≤ R.slots) :
    vx_Run p l e R s m args below meth c H locs cells slots mc ms g rest (Qc (Value.ref b :: As).toArray) XC free := by
  have hK : vx_Back l R p e below s args y 3 8 (PreOf R mc ms Pc) (PostOf Qc mc ms free) (vx_Post XC mc ms free) := vx_callBack cw.1 hM hp.1
  obtain ⟨⟨-, -, -, -, -, -, hcode, -, hy, hlen, hl⟩, hin, hse⟩ := cw
  obtain ⟨hx, hb, hml, ho, -⟩ := S
  obtain ⟨-, ⟨cellB, hcB, hoB, hclB⟩, hPc⟩ := hp
  intro T hT X
  rcases vx_callV X hx (C := C) (bytes := bytes) (maxL := maxL) (ret := ret) ho hl hin hse hcode hy hK (by rw [hT]; exact hcB) hoB hclB hg (hsize.trans hml.symm) (argsL := As) (rest := rest) (fun sig h => hn.trans (hlen sig h)) hstack hW (by rw [hb]; exact hdg)
    (fun vm₁ hW₁ => ⟨hf.1, hf.2, hPc (T.setVm vm₁) hT hW₁⟩) with ⟨v, vm₁, ⟨U', l2, c2, s2⟩, hW₁, X', ⟨g', mk, t, L, e1, e2, hq, h1, hL, h2, h3⟩, st⟩ | ⟨q, vm₁, ⟨U', l2, c2, s2⟩, hW₁, X', ⟨g', mk, t, L, E, ce, e1, e2, hq, hce, hcv, hcl, h1, hL, h2, h3⟩, st⟩
  · dsimp only [Pt.U, Pt.locs, Pt.cells, Pt.slots] at X' e1 e2 h1 h2 h3 st
    subst h1; subst h2; subst h3
    exact Or.inl ⟨v, (T.setVm vm₁).calling g' mk (Value.ref b :: As).toArray, t, U', L, hT, X', hL, e1, e2, hq, st⟩
  · dsimp only [Pt.U, Pt.locs, Pt.cells, Pt.slots] at X' e1 e2 h1 h2 h3 st hcl
    subst h1; subst h2; subst h3
    exact Or.inr ⟨q, (T.setVm vm₁).calling g' mk (Value.ref b :: As).toArray, t, U', L, E, ce, hT, X', hL, e1, e2, hq, hce, hcv, vx_cls hW₁ hcl, st⟩
theorem vx_runS (S : CallFix p m c cc nL s args Ts own) (hM : vx_Met l y ws rm Pc Qc XC mc ms free) (cw : CallB R s args own index y bytes maxL ret ws rm mc ms n ∧ (Cond.static y).before args s = true) (hp : PreS s H Pc As)
    (hg : g.method = m) (hn : As.length = n) (hsize : g.locals.size = nL) (hstack : g.stack = As.reverse ++ rest) (hW : 2 * g.monitorRoom + (rest.map fun v => v.category).sum ≤ 8) (hdg : decode cc g.pc = .ok (.invokestatic index, 3)) (hf : cells + mc ≤ R.cells ∧ slots + ms ≤ R.slots) :
    vx_Run p l e R s m args below meth c H locs cells slots mc ms g rest (Qc As.toArray) XC free := by
  have hK : vx_Back l R p e below s args y 3 8 (PreOf R mc ms Pc) (PostOf Qc mc ms free) (vx_Post XC mc ms free) := vx_callBack cw.1 hM hp.1
  obtain ⟨⟨-, -, -, -, -, -, hcode, hini, hy, hlen, hl⟩, hstt⟩ := cw
  obtain ⟨hx, hb, hml, ho, -⟩ := S
  intro T hT X
  rcases vx_callS X hx (bytes := bytes) (maxL := maxL) (ret := ret) ho hl hstt hini hcode hy hK hg (hsize.trans hml.symm) (argsL := As) (rest := rest) (fun sig h => hn.trans (hlen sig h)) hstack hW (by rw [hb]; exact hdg)
    (fun vm₁ hW₁ => ⟨hf.1, hf.2, hp.2 (T.setVm vm₁) hT hW₁⟩) with ⟨v, vm₁, ⟨U', l2, c2, s2⟩, hW₁, X', ⟨g', mk, t, L, e1, e2, hq, h1, hL, h2, h3⟩, st⟩ | ⟨q, vm₁, ⟨U', l2, c2, s2⟩, hW₁, X', ⟨g', mk, t, L, E, ce, e1, e2, hq, hce, hcv, hcl, h1, hL, h2, h3⟩, st⟩
  · dsimp only [Pt.U, Pt.locs, Pt.cells, Pt.slots] at X' e1 e2 h1 h2 h3 st
    subst h1; subst h2; subst h3
    exact Or.inl ⟨v, (T.setVm vm₁).calling g' mk As.toArray, t, U', L, hT, X', hL, e1, e2, hq, st⟩
  · dsimp only [Pt.U, Pt.locs, Pt.cells, Pt.slots] at X' e1 e2 h1 h2 h3 st hcl
    subst h1; subst h2; subst h3
    exact Or.inr ⟨q, (T.setVm vm₁).calling g' mk As.toArray, t, U', L, E, ce, hT, X', hL, e1, e2, hq, hce, hcv, vx_cls hW₁ hcl, st⟩
end Runs
section Rows
variable {p : Program} {l : Launch} {e : Env} {R : Room} {s : State} {m : MethodId} {args : Array Value} {below : List Frame} {meth : Method} {c : Code} {H : Heap} {locs : List Loc} {cells slots : Nat} {Q : State → Prop}
variable {mc ms : Nat} {free : Addr → Prop} {A0 A1 : Nat → Prop} {H0 : Heap} {a : Array Value} {pc : Nat} {ls : Array Slot} {st0 rest : List Value}
theorem vx_keep {st₀ t T' : State} {L : List Loc} (h0 : st₀.heap = H) (e1 : T'.heap = t.heap) (hS : va_S A0 H0 H locs) (hA : ∀ q, q < H.size → A1 q → A0 q) (hf : ∀ q, free q → A0 q) (hL : ∀ q ∈ L, free q.base) (hF : va_F A1 st₀ t) :
    H.size ≤ T'.heap.size ∧ (∀ q : Nat, q < H.size → ¬ A1 q → T'.heap[q]? = H[q]?) ∧ va_S A0 H0 T'.heap (locs ++ L) := by
  obtain ⟨hz, hk⟩ := hF
  rw [h0] at hz hk
  exact ⟨by rw [e1]; exact hz, fun q h1 h2 => by rw [e1]; exact hk q h1 h2,
    ⟨Nat.le_trans hS.1 (by rw [e1]; exact hz), fun q h1 h2 => by rw [e1, hk q (Nat.lt_of_lt_of_le h1 hS.1) (fun z => h2 (hA q (Nat.lt_of_lt_of_le h1 hS.1) z))]; exact hS.2.1 q h1 h2, fun q hq => by
      rcases List.mem_append.mp hq with h | h
      · exact hS.2.2 q h
      · exact hf _ (hL q h)⟩⟩
theorem vx_calli {S SX : Type} {post : Int32 → S → Prop} {px : SX → Prop} {B : S → State → Prop} {BX : String → SX → State → Prop} {AX : Nat → Prop} (hr : vx_Run p l e R s m args below meth c H locs cells slots mc ms (F0 m pc ls st0) rest (va_Qi post B A1 a) (vx_X px BX AX) free) (hS : va_S A0 H0 H locs) (hA : ∀ q, q < H.size → A1 q → A0 q) (hf : ∀ q, free q → A0 q) (hAX : ∀ q, q < H.size → AX q → A0 q)
    (kx : ∀ (E : String) (ce : Cell) (q9 : Addr) (u : SX) (t : State) (H1 : Heap) (locs1 : List Loc), t.heap = H1 → s.vm.Alike t.vm → px u → BX E u t → H.size ≤ H1.size → (∀ q : Nat, q < H.size → ¬ AX q → H1[q]? = H[q]?) → va_S A0 H0 H1 locs1 → H1[q9]? = some ce → ce.vm = .none → s.vm.findClass E = some ce.cls → vx_W p l e R s m args below meth c H1 locs1 (cells + mc) (slots + ms) Q (F0 m pc ls rest) q9)
    (kk : ∀ (r : Int32) (u : S) (t : State) (H1 : Heap) (locs1 : List Loc), t.heap = H1 → s.vm.Alike t.vm → post r u → B u t → H.size ≤ H1.size → (∀ q : Nat, q < H.size → ¬ A1 q → H1[q]? = H[q]?) → va_S A0 H0 H1 locs1 → W p l e R s m args below meth c H1 locs1 (cells + mc) (slots + ms) Q (F0 m (pc + 3) ls (.int r :: rest))) : W p l e R s m args below meth c H locs cells slots Q (F0 m pc ls st0) := by
  intro T hT X
  rcases hr T hT X with ⟨v, st₀, t, T', L, h0, X', hL, e1, e2, ⟨⟨r, u, hv, hp, hb⟩, hF⟩, st⟩ | ⟨q, st₀, t, T', L, E, ce, h0, X', hL, e1, e2, ⟨u, hp, hb, hF⟩, hce, hcv, hcl, st⟩
  · cases hv
    obtain ⟨k1, k2, k3⟩ := vx_keep h0 e1 hS hA hf hL hF
    obtain ⟨t2, a1, b1⟩ := kk r u t T'.heap (locs ++ L) e1.symm (by rw [← e2]; exact X'.warmed.alike) hp hb k1 k2 k3 T' rfl X'
    exact ⟨t2, st t2 a1, b1⟩
  · obtain ⟨k1, k2, k3⟩ := vx_keep h0 e1 hS hAX hf hL hF
    obtain ⟨t2, a1, b1⟩ := kx E ce q u t T'.heap (locs ++ L) e1.symm (by rw [← e2]; exact X'.warmed.alike) hp hb k1 k2 k3 (by rw [e1]; exact hce) hcv hcl T' rfl X'
    exact ⟨t2, st.trans a1, b1⟩
theorem vx_calll {S SX : Type} {post : Int64 → S → Prop} {px : SX → Prop} {B : S → State → Prop} {BX : String → SX → State → Prop} {AX : Nat → Prop} (hr : vx_Run p l e R s m args below meth c H locs cells slots mc ms (F0 m pc ls st0) rest (va_Ql post B A1 a) (vx_X px BX AX) free) (hS : va_S A0 H0 H locs) (hA : ∀ q, q < H.size → A1 q → A0 q) (hf : ∀ q, free q → A0 q) (hAX : ∀ q, q < H.size → AX q → A0 q)
    (kx : ∀ (E : String) (ce : Cell) (q9 : Addr) (u : SX) (t : State) (H1 : Heap) (locs1 : List Loc), t.heap = H1 → s.vm.Alike t.vm → px u → BX E u t → H.size ≤ H1.size → (∀ q : Nat, q < H.size → ¬ AX q → H1[q]? = H[q]?) → va_S A0 H0 H1 locs1 → H1[q9]? = some ce → ce.vm = .none → s.vm.findClass E = some ce.cls → vx_W p l e R s m args below meth c H1 locs1 (cells + mc) (slots + ms) Q (F0 m pc ls rest) q9)
    (kk : ∀ (r : Int64) (u : S) (t : State) (H1 : Heap) (locs1 : List Loc), t.heap = H1 → s.vm.Alike t.vm → post r u → B u t → H.size ≤ H1.size → (∀ q : Nat, q < H.size → ¬ A1 q → H1[q]? = H[q]?) → va_S A0 H0 H1 locs1 → W p l e R s m args below meth c H1 locs1 (cells + mc) (slots + ms) Q (F0 m (pc + 3) ls (.long r :: rest))) : W p l e R s m args below meth c H locs cells slots Q (F0 m pc ls st0) := by
  intro T hT X
  rcases hr T hT X with ⟨v, st₀, t, T', L, h0, X', hL, e1, e2, ⟨⟨r, u, hv, hp, hb⟩, hF⟩, st⟩ | ⟨q, st₀, t, T', L, E, ce, h0, X', hL, e1, e2, ⟨u, hp, hb, hF⟩, hce, hcv, hcl, st⟩
  · cases hv
    obtain ⟨k1, k2, k3⟩ := vx_keep h0 e1 hS hA hf hL hF
    obtain ⟨t2, a1, b1⟩ := kk r u t T'.heap (locs ++ L) e1.symm (by rw [← e2]; exact X'.warmed.alike) hp hb k1 k2 k3 T' rfl X'
    exact ⟨t2, st t2 a1, b1⟩
  · obtain ⟨k1, k2, k3⟩ := vx_keep h0 e1 hS hAX hf hL hF
    obtain ⟨t2, a1, b1⟩ := kx E ce q u t T'.heap (locs ++ L) e1.symm (by rw [← e2]; exact X'.warmed.alike) hp hb k1 k2 k3 (by rw [e1]; exact hce) hcv hcl T' rfl X'
    exact ⟨t2, st.trans a1, b1⟩
theorem vx_callf {S SX : Type} {post : UInt32 → S → Prop} {px : SX → Prop} {B : S → State → Prop} {BX : String → SX → State → Prop} {AX : Nat → Prop} (hr : vx_Run p l e R s m args below meth c H locs cells slots mc ms (F0 m pc ls st0) rest (va_Qf post B A1 a) (vx_X px BX AX) free) (hS : va_S A0 H0 H locs) (hA : ∀ q, q < H.size → A1 q → A0 q) (hf : ∀ q, free q → A0 q) (hAX : ∀ q, q < H.size → AX q → A0 q)
    (kx : ∀ (E : String) (ce : Cell) (q9 : Addr) (u : SX) (t : State) (H1 : Heap) (locs1 : List Loc), t.heap = H1 → s.vm.Alike t.vm → px u → BX E u t → H.size ≤ H1.size → (∀ q : Nat, q < H.size → ¬ AX q → H1[q]? = H[q]?) → va_S A0 H0 H1 locs1 → H1[q9]? = some ce → ce.vm = .none → s.vm.findClass E = some ce.cls → vx_W p l e R s m args below meth c H1 locs1 (cells + mc) (slots + ms) Q (F0 m pc ls rest) q9)
    (kk : ∀ (r : UInt32) (u : S) (t : State) (H1 : Heap) (locs1 : List Loc), t.heap = H1 → s.vm.Alike t.vm → post r u → B u t → H.size ≤ H1.size → (∀ q : Nat, q < H.size → ¬ A1 q → H1[q]? = H[q]?) → va_S A0 H0 H1 locs1 → W p l e R s m args below meth c H1 locs1 (cells + mc) (slots + ms) Q (F0 m (pc + 3) ls (.float r :: rest))) : W p l e R s m args below meth c H locs cells slots Q (F0 m pc ls st0) := by
  intro T hT X
  rcases hr T hT X with ⟨v, st₀, t, T', L, h0, X', hL, e1, e2, ⟨⟨r, u, hv, hp, hb⟩, hF⟩, st⟩ | ⟨q, st₀, t, T', L, E, ce, h0, X', hL, e1, e2, ⟨u, hp, hb, hF⟩, hce, hcv, hcl, st⟩
  · cases hv
    obtain ⟨k1, k2, k3⟩ := vx_keep h0 e1 hS hA hf hL hF
    obtain ⟨t2, a1, b1⟩ := kk r u t T'.heap (locs ++ L) e1.symm (by rw [← e2]; exact X'.warmed.alike) hp hb k1 k2 k3 T' rfl X'
    exact ⟨t2, st t2 a1, b1⟩
  · obtain ⟨k1, k2, k3⟩ := vx_keep h0 e1 hS hAX hf hL hF
    obtain ⟨t2, a1, b1⟩ := kx E ce q u t T'.heap (locs ++ L) e1.symm (by rw [← e2]; exact X'.warmed.alike) hp hb k1 k2 k3 (by rw [e1]; exact hce) hcv hcl T' rfl X'
    exact ⟨t2, st.trans a1, b1⟩
theorem vx_calld {S SX : Type} {post : UInt64 → S → Prop} {px : SX → Prop} {B : S → State → Prop} {BX : String → SX → State → Prop} {AX : Nat → Prop} (hr : vx_Run p l e R s m args below meth c H locs cells slots mc ms (F0 m pc ls st0) rest (va_Qd post B A1 a) (vx_X px BX AX) free) (hS : va_S A0 H0 H locs) (hA : ∀ q, q < H.size → A1 q → A0 q) (hf : ∀ q, free q → A0 q) (hAX : ∀ q, q < H.size → AX q → A0 q)
    (kx : ∀ (E : String) (ce : Cell) (q9 : Addr) (u : SX) (t : State) (H1 : Heap) (locs1 : List Loc), t.heap = H1 → s.vm.Alike t.vm → px u → BX E u t → H.size ≤ H1.size → (∀ q : Nat, q < H.size → ¬ AX q → H1[q]? = H[q]?) → va_S A0 H0 H1 locs1 → H1[q9]? = some ce → ce.vm = .none → s.vm.findClass E = some ce.cls → vx_W p l e R s m args below meth c H1 locs1 (cells + mc) (slots + ms) Q (F0 m pc ls rest) q9)
    (kk : ∀ (r : UInt64) (u : S) (t : State) (H1 : Heap) (locs1 : List Loc), t.heap = H1 → s.vm.Alike t.vm → post r u → B u t → H.size ≤ H1.size → (∀ q : Nat, q < H.size → ¬ A1 q → H1[q]? = H[q]?) → va_S A0 H0 H1 locs1 → W p l e R s m args below meth c H1 locs1 (cells + mc) (slots + ms) Q (F0 m (pc + 3) ls (.double r :: rest))) : W p l e R s m args below meth c H locs cells slots Q (F0 m pc ls st0) := by
  intro T hT X
  rcases hr T hT X with ⟨v, st₀, t, T', L, h0, X', hL, e1, e2, ⟨⟨r, u, hv, hp, hb⟩, hF⟩, st⟩ | ⟨q, st₀, t, T', L, E, ce, h0, X', hL, e1, e2, ⟨u, hp, hb, hF⟩, hce, hcv, hcl, st⟩
  · cases hv
    obtain ⟨k1, k2, k3⟩ := vx_keep h0 e1 hS hA hf hL hF
    obtain ⟨t2, a1, b1⟩ := kk r u t T'.heap (locs ++ L) e1.symm (by rw [← e2]; exact X'.warmed.alike) hp hb k1 k2 k3 T' rfl X'
    exact ⟨t2, st t2 a1, b1⟩
  · obtain ⟨k1, k2, k3⟩ := vx_keep h0 e1 hS hAX hf hL hF
    obtain ⟨t2, a1, b1⟩ := kx E ce q u t T'.heap (locs ++ L) e1.symm (by rw [← e2]; exact X'.warmed.alike) hp hb k1 k2 k3 (by rw [e1]; exact hce) hcv hcl T' rfl X'
    exact ⟨t2, st.trans a1, b1⟩
theorem vx_callv {S SX : Type} {post : S → Prop} {px : SX → Prop} {B : S → State → Prop} {BX : String → SX → State → Prop} {AX : Nat → Prop} (hr : vx_Run p l e R s m args below meth c H locs cells slots mc ms (F0 m pc ls st0) rest (va_Qv post B A1 a) (vx_X px BX AX) free) (hS : va_S A0 H0 H locs) (hA : ∀ q, q < H.size → A1 q → A0 q) (hf : ∀ q, free q → A0 q) (hAX : ∀ q, q < H.size → AX q → A0 q)
    (kx : ∀ (E : String) (ce : Cell) (q9 : Addr) (u : SX) (t : State) (H1 : Heap) (locs1 : List Loc), t.heap = H1 → s.vm.Alike t.vm → px u → BX E u t → H.size ≤ H1.size → (∀ q : Nat, q < H.size → ¬ AX q → H1[q]? = H[q]?) → va_S A0 H0 H1 locs1 → H1[q9]? = some ce → ce.vm = .none → s.vm.findClass E = some ce.cls → vx_W p l e R s m args below meth c H1 locs1 (cells + mc) (slots + ms) Q (F0 m pc ls rest) q9)
    (kk : ∀ (u : S) (t : State) (H1 : Heap) (locs1 : List Loc), t.heap = H1 → s.vm.Alike t.vm → post u → B u t → H.size ≤ H1.size → (∀ q : Nat, q < H.size → ¬ A1 q → H1[q]? = H[q]?) → va_S A0 H0 H1 locs1 → W p l e R s m args below meth c H1 locs1 (cells + mc) (slots + ms) Q (F0 m (pc + 3) ls (rest))) : W p l e R s m args below meth c H locs cells slots Q (F0 m pc ls st0) := by
  intro T hT X
  rcases hr T hT X with ⟨v, st₀, t, T', L, h0, X', hL, e1, e2, ⟨⟨u, hv, hp, hb⟩, hF⟩, st⟩ | ⟨q, st₀, t, T', L, E, ce, h0, X', hL, e1, e2, ⟨u, hp, hb, hF⟩, hce, hcv, hcl, st⟩
  · cases hv
    obtain ⟨k1, k2, k3⟩ := vx_keep h0 e1 hS hA hf hL hF
    obtain ⟨t2, a1, b1⟩ := kk u t T'.heap (locs ++ L) e1.symm (by rw [← e2]; exact X'.warmed.alike) hp hb k1 k2 k3 T' rfl X'
    exact ⟨t2, st t2 a1, b1⟩
  · obtain ⟨k1, k2, k3⟩ := vx_keep h0 e1 hS hAX hf hL hF
    obtain ⟨t2, a1, b1⟩ := kx E ce q u t T'.heap (locs ++ L) e1.symm (by rw [← e2]; exact X'.warmed.alike) hp hb k1 k2 k3 (by rw [e1]; exact hce) hcv hcl T' rfl X'
    exact ⟨t2, st.trans a1, b1⟩
/-- caught by the row x of this method's table; the rows ahead don't take it -/
theorem vx_catch {own name : String} {E : String} {ce : Cell} {q : Addr} (hown : s.vm.findClass own = some m.cls) (pre : List ExceptionTableEntry) (x : ExceptionTableEntry) (suf : List ExceptionTableEntry) (hsplit : c.exceptionTable.toList = pre ++ x :: suf)
    (hpass : ∀ z ∈ pre, covers z pc = false ∨ (z.catchType ≠ 0 ∧ ∃ nm : String, (Cond.classLink own z.catchType nm).before args s = true ∧ va_Nc E nm s)) (hx : covers x pc = true) (h0 : x.catchType ≠ 0)
    (hlink : (Cond.classLink own x.catchType name).before args s = true) (hcast : (Cond.castable E name).before args s = true) (hcell : H[q]? = some ce) (hv : ce.vm = .none) (hcl : s.vm.findClass E = some ce.cls)
    (kk : W p l e R s m args below meth c H locs cells slots Q (F0 m x.handlerPc ls [.ref q])) : vx_W p l e R s m args below meth c H locs cells slots Q (F0 m pc ls rest) q := by
  intro T hT X
  have hpl : e.platform.magicAccessors = ({} : Platform).magicAccessors := by rw [X.admits.platform]
  obtain ⟨c3, c4, hc3, hc4, hasg⟩ := Cond.castable_spec hcast
  cases Option.some.inj (hc3.symm.trans hcl)
  obtain ⟨c5, hc5, hcl5⟩ := Cond.classLink_spec hown hlink e.platform hpl
  cases Option.some.inj (hc4.symm.trans hc5)
  obtain ⟨vm', X', st⟩ := X.thenCaughtThrough q (g := F0 m pc ls rest) rfl (Steps.refl _) (by rw [hT]; exact hcell) (by rw [hv]; rfl) (by obtain ⟨k9, h9, -⟩ := Vm.findClass_spec hcl; exact ⟨k9, h9⟩) pre x suf hsplit
    (fun z hz => by
      rcases hpass z hz with h | ⟨hz0, nm, hl1, hn1⟩
      · exact Or.inl h
      · obtain ⟨c6, hc6, hcl6⟩ := Cond.classLink_spec hown hl1 e.platform hpl
        obtain ⟨a8, b8, h1, h2, h3⟩ := hn1
        cases Option.some.inj (h1.symm.trans hcl)
        cases Option.some.inj (h2.symm.trans hc6)
        exact Or.inr ⟨hz0, _, hcl6, h3⟩) hx (Or.inr ⟨h0, c4, hcl5, hasg⟩)
  obtain ⟨t, a1, b1⟩ := kk (T.setVm vm') hT X'
  exact ⟨t, st.trans a1, b1⟩
end Rows
section Ends
variable {p : Program} {l : Launch} {e : Env} {R : Room} {s : State} {m : MethodId} {args : Array Value} {below : List Frame} {meth : Method} {c : Code} {H : Heap} {locs : List Loc} {cells slots : Nat} {Q : State → Prop}
variable {mc ms : Nat} {free : Addr → Prop} {A0 A1 : Nat → Prop} {H0 : Heap} {a : Array Value} {ls : Array Slot} {st0 rest : List Value}
variable {Qc : Array Value → State → Outcome → State → Prop} {XC : String → State → State → Prop}
/-- what a body that may throw owes at its end -/
def vx_MQ (below : List Frame) (Qc : Array Value → State → Outcome → State → Prop) (XC : String → State → State → Prop) (a : Array Value) (s : State) (mc ms : Nat) (free : Addr → Prop) : State → Prop := fun t =>
  ∃ o, t.status = .running ∧ Ended t below o ∧ vx_Q Qc XC mc ms free a s o t
theorem vx_ret {g : JFrame} {mc ms : Nat} (k : W p l e R s m args below meth c H locs cells slots (MQ below Qc args s mc ms free) g) : W p l e R s m args below meth c H locs cells slots (vx_MQ below Qc XC args s mc ms free) g := by
  intro T hT X
  obtain ⟨t, a1, o, b1, b2, b3, b4⟩ := k T hT X
  exact ⟨t, a1, o, b1, b2, Or.inl ⟨b3, b4⟩⟩
/-- not caught here: it goes on to the caller -/
theorem vx_widen {g : JFrame} {q : Addr} {k n : Nat} (h1 : cells ≤ k) (h2 : slots ≤ n) (kk : vx_W p l e R s m args below meth c H locs k n Q g q) : vx_W p l e R s m args below meth c H locs cells slots Q g q := fun T hT X => kk T hT (stand_widen X h1 h2)
theorem vx_out {pc : Nat} {E : String} {ce : Cell} {q : Addr} {mc ms : Nat} (hout : ∀ x ∈ c.exceptionTable.toList, covers x pc = false) (hlocks : meth.locks = false) (hcell : H[q]? = some ce) (hv : ce.vm = .none) (hcl : s.vm.findClass E = some ce.cls)
    (hx : ∀ t : State, t.heap = H → s.vm.Alike t.vm → XC E s t) (hf : ∀ z ∈ locs, free z.base) (hc : cells ≤ mc) (hs : slots ≤ ms) :
    vx_W p l e R s m args below meth c H locs cells slots (vx_MQ below Qc XC args s mc ms free) (F0 m pc ls rest) q := by
  intro T hT X
  obtain ⟨st1, hrun, hend, hW, hsm⟩ := X.leaveThrown q (g := F0 m pc ls rest) rfl rfl rfl hout hlocks
  have hcell9 : (T.setFrames (.throwing q :: below)).heap[q]? = some ce := by
    show T.heap[q]? = some ce
    rw [hT]; exact hcell
  exact ⟨_, st1, .threw q, hrun, hend, Or.inr ⟨q, rfl, E, ce, locs, hx _ hT hW.alike, hcell9, hv, hcl, hW, hsm.mono hc hs, hf⟩⟩
theorem vx_frame {U : State} {k n : Nat} (h : s.sameButNew ({ U with vm := s.vm } : State) locs k n) : s.heap.size ≤ U.heap.size ∧ ∀ q : Nat, q < s.heap.size → (∀ z ∈ locs, z.base ≠ q) → U.heap[q]? = s.heap[q]? := by
  obtain ⟨-, h2, -, -, -, h6⟩ := h
  refine ⟨h2, fun q hq hz => ?_⟩
  obtain ⟨c9, e1, e2, e3, e4⟩ := h6 q _ (Array.getElem?_eq_getElem hq)
  have hs : c9.slots = (s.heap[q]).slots := Array.ext_getElem? fun i => e4 i fun hm => hz _ hm rfl
  have h9 : c9 = s.heap[q] := by
    rw [hs] at e2
    exact e2
  have e5 : U.heap[q]? = some c9 := e1
  rw [e5, h9, Array.getElem?_eq_getElem hq]
/-- the words of a throw but the four that speak of the heap -/
def vx_no (w : Cond) : Bool := decide (w ≠ .isRef (.static Bundle.tN "UNASSIGNED_STACK" Bundle.steD)) && decide (w ≠ .isRef (.static Bundle.tN "SUPPRESSED_SENTINEL" Bundle.listD)) && decide (w ≠ .laysStatic Bundle.tN "UNASSIGNED_STACK" Bundle.steD) && decide (w ≠ .laysStatic Bundle.tN "SUPPRESSED_SENTINEL" Bundle.listD)
def vx_at0 (own : String) (ic : Nat) (X : String) (names : List String) : List Cond := (Bundle.ownAtoms0 own ic X names).filter vx_no
def vx_atS (own : String) (ic : Nat) (X : String) (names : List String) : List Cond := (Bundle.ownAtoms own ic X names).filter vx_no
/-- a word that the tables alone decide, or a good one -/
def vx_ot (w : Cond) : Bool := w.onTables || goodWord w
theorem vx_ot_at {args a' : Array Value} {s U : State} {w : Cond} (hW : s.WarmedH U.vm) (hvm : s.vm = U.vm) (hg : vx_ot w = true) (h : w.before args s = true) : w.before a' U = true := by
  simp only [vx_ot, Bool.or_eq_true] at hg
  rcases hg with hg | hg
  · exact va_tabs hg hvm h
  · exact word_at hW (good_of_word hg) h
/-- a list's words: the good ones out of the method's own list, the others by premises of their own -/
theorem vx_hat {args : Array Value} {s : State} {L B : List Cond} (h1 : ∀ w ∈ L.filter goodWord, w.before args s = true) (h2 : ∀ w ∈ L.filter (fun w => !goodWord w), w ∈ B) (h3 : ∀ w ∈ B, w.before args s = true) : ∀ w ∈ L, w.before args s = true := by
  intro w hw
  by_cases g : goodWord w = true
  · exact h1 w (List.mem_filter.mpr ⟨hw, g⟩)
  · refine h3 w (h2 w (List.mem_filter.mpr ⟨hw, ?_⟩))
    show (!goodWord w) = true
    cases hgw : goodWord w
    · rfl
    · exact absurd hgw g
theorem vx_c {args : Array Value} {s : State} {w : Cond} {B : List Cond} (h : w.before args s = true) (t : ∀ w ∈ B, w.before args s = true) : ∀ w' ∈ w :: B, w'.before args s = true := fun w' h' => (List.mem_cons.mp h').elim (fun e => by rw [e]; exact h) (t w')
theorem vx_n {args : Array Value} {s : State} : ∀ w ∈ ([] : List Cond), w.before args s = true := fun _ h => nomatch h
theorem vx_own {args : Array Value} {s : State} {L : List Cond} (h1 : ∀ w ∈ L.filter vx_no, w.before args s = true)
    (hU : (Cond.isRef (.static Bundle.tN "UNASSIGNED_STACK" Bundle.steD)).before args s = true) (hN : (Cond.isRef (.static Bundle.tN "SUPPRESSED_SENTINEL" Bundle.listD)).before args s = true)
    (lU : (Cond.laysStatic Bundle.tN "UNASSIGNED_STACK" Bundle.steD).before args s = true) (lN : (Cond.laysStatic Bundle.tN "SUPPRESSED_SENTINEL" Bundle.listD).before args s = true) : ∀ w ∈ L, w.before args s = true := by
  intro w hw
  by_cases e1 : w = .isRef (.static Bundle.tN "UNASSIGNED_STACK" Bundle.steD)
  · rw [e1]; exact hU
  · by_cases e2 : w = .isRef (.static Bundle.tN "SUPPRESSED_SENTINEL" Bundle.listD)
    · rw [e2]; exact hN
    · by_cases e3 : w = .laysStatic Bundle.tN "UNASSIGNED_STACK" Bundle.steD
      · rw [e3]; exact lU
      · by_cases e4 : w = .laysStatic Bundle.tN "SUPPRESSED_SENTINEL" Bundle.listD
        · rw [e4]; exact lN
        · exact h1 w (List.mem_filter.mpr ⟨hw, by unfold vx_no; rw [decide_eq_true e1, decide_eq_true e2, decide_eq_true e3, decide_eq_true e4]; rfl⟩)
/-- where a static field lies, its class's statics cell in H -/
def vx_L (C n d : String) (A : Nat → Prop) (U : State) (H : Heap) : Prop := ∃ (c : ClassId) (k : Class) (i : Nat) (f : Field) (a : Nat) (cell : Cell), U.vm.findClass C = some c ∧ U.fieldFound? C n d = some (c, k, i, f) ∧ f.isStatic = true ∧ k.statics = some a ∧ H[a]? = some cell ∧ cell.vm.isStatics = true ∧ cell.cls = c ∧ f.slot < cell.slots.size ∧ k.staticTypes[f.slot]? = some f.type ∧ ¬ A a
theorem vx_L.moved {C n d : String} {A : Nat → Prop} {u U : State} {H : Heap} (hvm : u.vm.Alike U.vm) (h : vx_L C n d A u H) : vx_L C n d A U H := by
  obtain ⟨c, k, i, f, a, cell, h1, h2, h3, h4, h5, h6, h7, h8, h9, h10⟩ := h
  obtain ⟨k', hi', he⟩ := State.fieldFound?_setVm hvm h2
  exact ⟨c, k', i, f, a, cell, by rw [hvm.findClass]; exact h1, hi', h3, by rw [he]; exact h4, h5, h6, h7, h8, by rw [he]; exact h9, h10⟩
theorem vx_L.kept {C n d : String} {A : Nat → Prop} {U : State} {H H1 : Heap} (h : vx_L C n d A U H) (hq : ∀ a : Nat, a < H.size → ¬ A a → H1[a]? = H[a]?) : vx_L C n d A U H1 := by
  obtain ⟨c, k, i, f, a, cell, h1, h2, h3, h4, h5, h6, h7, h8, h9, h10⟩ := h
  exact ⟨c, k, i, f, a, cell, h1, h2, h3, h4, by rw [hq a (Array.getElem?_eq_some_iff.mp h5).1 h10]; exact h5, h6, h7, h8, h9, h10⟩
theorem vx_L.narrow {C n d : String} {A B : Nat → Prop} {U : State} {H : Heap} (h : vx_L C n d A U H) (hAB : ∀ q, B q → A q) : vx_L C n d B U H := by
  obtain ⟨c, k, i, f, a, cell, h1, h2, h3, h4, h5, h6, h7, h8, h9, h10⟩ := h
  exact ⟨c, k, i, f, a, cell, h1, h2, h3, h4, h5, h6, h7, h8, h9, fun z => h10 (hAB _ z)⟩
theorem vx_L.word {C n d : String} {A : Nat → Prop} {s : State} {args : Array Value} (h : vx_L C n d A s s.heap) : (Cond.laysStatic C n d).before args s = true := by
  obtain ⟨c, k, i, f, a, cell, h1, h2, h3, h4, h5, h6, h7, h8, h9, -⟩ := h
  show (Cond.laysStatic C n d).holds args s none s [] = true
  exact Cond.laysStatic_of h1 h2 h3 h4 h5 h6 h7 h8 h9
/-- .. and what it holds: null or some reference -/
def vx_Zq (C n d : String) (A : Nat → Prop) (U : State) (H : Heap) : Prop := va_Zq C n d A U H ∧ vx_L C n d A U H
theorem vx_Zq.moved {C n d : String} {A : Nat → Prop} {u U : State} {H : Heap} (hvm : u.vm.Alike U.vm) (h : vx_Zq C n d A u H) : vx_Zq C n d A U H := ⟨va_Zq.moved hvm h.1, vx_L.moved hvm h.2⟩
theorem vx_Zq.kept {C n d : String} {A : Nat → Prop} {U : State} {H H1 : Heap} (h : vx_Zq C n d A U H) (hq : ∀ a : Nat, a < H.size → ¬ A a → H1[a]? = H[a]?) : vx_Zq C n d A U H1 := ⟨va_Zq.kept h.1 hq, vx_L.kept h.2 hq⟩
theorem vx_Zq.narrow {C n d : String} {A B : Nat → Prop} {U : State} {H : Heap} (h : vx_Zq C n d A U H) (hAB : ∀ q, B q → A q) : vx_Zq C n d B U H := ⟨va_Zq.narrow h.1 hAB, vx_L.narrow h.2 hAB⟩
theorem vx_Zqof {args : Array Value} {s : State} {C n d : String} {A : Nat → Prop} (hl : (Cond.laysStatic C n d).before args s = true) (hini : (Cond.initialized C).before args s = true) (h : (Cond.isRef (.static C n d)).before args s = true) (hA : ∀ a : Nat, a < s.heap.size → ¬ A a) : vx_Zq C n d A s s.heap := by
  refine ⟨va_Zqof hl hini h hA, ?_⟩
  obtain ⟨c, k, i, f, a, cell, h1, h2, h3, h4, h5, h6, h7, h8, h9⟩ := Cond.laysStatic_spec hl
  exact ⟨c, k, i, f, a, cell, h1, h2, h3, h4, h5, h6, h7, h8, h9, hA a (Array.getElem?_eq_some_iff.mp h5).1⟩
theorem vx_isRef {C n d : String} {v : Value} {A : Nat → Prop} {s : State} {args : Array Value} (h : va_Z C n d v A s s.heap) (hv : v.isRef = true) : (Cond.isRef (.static C n d)).before args s = true := by
  obtain ⟨cf, kf, fi, f, a, cell, h1, h2, h3, h4, h5, h6, h7, -⟩ := h
  have he : (Term.static C n d).eval args s none [] s = some v := by
    simp [Term.eval, State.fieldNamed?, h1, h2, h4, h5, h6, h7]
  simp only [Cond.before, Cond.holds, Cond.value, he]
  cases v <;> simp_all [Value.isRef]
theorem vx_isRefq {C n d : String} {A : Nat → Prop} {s : State} {args : Array Value} (h : va_Zq C n d A s s.heap) : (Cond.isRef (.static C n d)).before args s = true := by
  rcases h with h | ⟨t, h⟩
  · exact vx_isRef h rfl
  · exact vx_isRef h rfl
/-- the same frame, seen from here: as if the method were called anew in this heap -/
theorem vx_rebase {T : State} (X : Stand p l e R s m args below meth c T locs cells slots) {R' : Room} (hf : R'.frames ≤ R.frames) (hl : R'.locals ≤ R.locals) (hc : cells + R'.cells ≤ R.cells) (hs : slots + R'.slots ≤ R.slots) :
    Stand p l e R' ((T.setVm s.vm).setFrames (.invoking m args :: below)) m args below meth c T [] 0 0 := by
  have htop : (T.setVm s.vm).topJava?.isSome := X.here.top
  have hF : ((T.setVm s.vm).setFrames (.invoking m args :: below)).frames = .invoking m args :: below := State.frames_setFrames _ (State.cur_lt_of_top htop)
  obtain ⟨g₀, hg0⟩ := Option.isSome_iff_exists.mp htop
  obtain ⟨r, hr⟩ := State.topJava?_eq_some.mp hg0
  have hl9 : e.platform.stackLimits (T.setVm s.vm).me = e.platform.stackLimits s.me := X.limits
  have hb9 : (T.setVm s.vm).me.stackBytes = s.me.stackBytes := X.bytes
  refine ⟨X.admits, X.cas, X.clock, hF, ?_, X.hears, X.method, X.code, X.here, X.tail, X.warmed, ?_, ?_, ?_⟩
  · have h := X.room
    have hU : ((T.setVm s.vm).setFrames (.invoking m args :: below)).localsInUse = s.localsInUse := by
      rw [State.localsInUse_invoking hF (meth := meth) (c := c) X.method X.code, State.localsInUse_invoking X.frames X.method X.code]
    simp only [State.hasRoom, Bool.and_eq_true, decide_eq_true_eq] at h ⊢
    obtain ⟨⟨⟨⟨h1, h2, h3, h4, h5, h6⟩, h7⟩, h8⟩, h9⟩ := h
    rw [X.frames, List.length_cons] at h2 h3
    have q1 := X.heapSize
    have q2 := X.used
    simp only [hF, hU, List.length_cons, State.stackLimits_setFrames, State.stackBytes_setFrames, hl9, hb9]
    refine ⟨⟨⟨⟨by omega, by omega, by omega, by omega, by omega, h6⟩, ?_⟩, ?_⟩, X.book⟩
    · show T.heap.size + R'.cells ≤ e.platform.maxCells
      omega
    · show T.slotsUsed + R'.slots ≤ e.platform.maxSlots
      omega
  · rw [State.stackLimits_setFrames]; rfl
  · rw [State.stackBytes_setFrames]; rfl
  · refine ⟨?_, Nat.le_refl _, Nat.le_refl _, ?_, ?_, fun a c9 h9 => ⟨c9, h9, rfl, rfl, fun _ _ => rfl⟩⟩
    · obtain ⟨t, ht, -⟩ := State.frames_cons hr
      show T.setVm s.vm = { ((T.setVm s.vm).setFrames (.invoking m args :: below)).setFrames (T.setVm s.vm).frames with heap := T.heap, slotsUsed := T.slotsUsed }
      rw [State.setFrames_setFrames, State.setFrames_self ht]
      rfl
    · show T.slotsUsed = T.slotsUsed + ((T.heap.toList.drop T.heap.size).map (·.slots.size)).sum
      rw [List.drop_eq_nil_of_le (Nat.le_of_eq Array.length_toList)]
      rfl
    · show ((T.heap.toList.drop T.heap.size).map (·.slots.size)).sum ≤ 0
      rw [List.drop_eq_nil_of_le (Nat.le_of_eq Array.length_toList)]
      exact Nat.le_refl _
/-- 'throw new E()': new; dup; invokespecial; athrow -/
theorem vx_throw0 {cc : ByteArray} {pc : Nat} (hexec : p.tables.exec = Jvm.exec) (hb : c.code = cc) (hl : l.stackTraces = false) {own cls : String} {names : List String} {ik ic mc ms : Nat} {A : Nat → Prop}
    (hown : s.vm.findClass own = some m.cls) (hcls : Bundle.fit cls = true) (hnames : ∀ n ∈ names, Bundle.fit n = true)
    (hk : (Cond.classLink own ik cls).before args s = true) (hini : (Cond.initialized cls).before args s = true) (hat : ∀ w ∈ vx_at0 own ic cls names, w.before args s = true)
    (hgood : ∀ w ∈ Cond.classLink own ik cls :: Cond.initialized cls :: vx_at0 own ic cls names, vx_ot w = true)
    (hU : vx_Zq Bundle.tN "UNASSIGNED_STACK" Bundle.steD A s s.heap) (hN : vx_Zq Bundle.tN "SUPPRESSED_SENTINEL" Bundle.listD A s s.heap) (hS : va_S A s.heap H locs) (hsize : ls.size = c.maxLocals)
    (d0 : decode cc pc = .ok (.new ik, 3)) (d3 : decode cc (pc + 3) = .ok (.dup, 1)) (d4 : decode cc (pc + 4) = .ok (.invokespecial ic, 3)) (d7 : decode cc (pc + 7) = .ok (.athrow, 1))
    (hout : ∀ x ∈ c.exceptionTable.toList, covers x (pc + 7) = false)
    (hRframes : names.length + 3 < R.frames) (hRlocals : (rest.map fun v => v.category).sum + (13 * (names.length + 1) + 42) ≤ R.locals) (hRcells : cells + 1 ≤ R.cells) (hRslots : slots + 6 ≤ R.slots) (hlocks : meth.locks = false)
    (hx : ∀ t : State, s.vm.Alike t.vm → H.size ≤ t.heap.size → (∀ q : Nat, q < H.size → t.heap[q]? = H[q]?) → XC cls s t)
    (hf : ∀ z ∈ locs, free z.base) (hc : cells + 1 ≤ mc) (hs : slots + 6 ≤ ms) :
    W p l e R s m args below meth c H locs cells slots (vx_MQ below Qc XC args s mc ms free) (F0 m pc ls rest) := by
  intro T hT X
  have htr : e.platform.stackTraces = false := (show e.platform.stackTraces = l.stackTraces by rw [X.admits.platform]).trans hl
  have Y := vx_rebase X (R' := { frames := R.frames, locals := R.locals, cells := 1, slots := 6 }) (Nat.le_refl _) (Nat.le_refl _) hRcells hRslots
  obtain ⟨s', hA⟩ : ∃ z, z = (T.setVm s.vm).setFrames (.invoking m args :: below) := ⟨_, rfl⟩
  rw [← hA] at Y
  have hvm : s'.vm = s.vm := by rw [hA]; rfl
  have hhp : s'.heap = H := by rw [hA]; exact hT
  have hW0 : s.WarmedH s'.vm := by rw [hvm]; exact State.WarmedH.refl s
  have hat' : ∀ w ∈ vx_at0 own ic cls names, w.before args s' = true := fun w hw => vx_ot_at hW0 hvm.symm (hgood w (List.mem_cons_of_mem _ (List.mem_cons_of_mem _ hw))) (hat w hw)
  have hk' : (Cond.classLink own ik cls).before args s' = true := vx_ot_at hW0 hvm.symm (hgood _ List.mem_cons_self) hk
  have hini' : (Cond.initialized cls).before args s' = true := vx_ot_at hW0 hvm.symm (hgood _ (List.mem_cons_of_mem _ List.mem_cons_self)) hini
  have hU' : vx_Zq Bundle.tN "UNASSIGNED_STACK" Bundle.steD A s' s'.heap := by rw [hhp]; exact vx_Zq.moved hW0.alike (hU.kept hS.2.1)
  have hN' : vx_Zq Bundle.tN "SUPPRESSED_SENTINEL" Bundle.listD A s' s'.heap := by rw [hhp]; exact vx_Zq.moved hW0.alike (hN.kept hS.2.1)
  have h : ∀ w ∈ Bundle.ownAtoms0 own ic cls names, w.before args s' = true := vx_own hat' (vx_isRefq hU'.1) (vx_isRefq hN'.1) hU'.2.word hN'.2.word
  have hown' : s'.vm.findClass own = some m.cls := by rw [hvm]; exact hown
  have hins : (Cond.instantiable cls 6).before args s' = true := h _ (by simp [Bundle.ownAtoms0])
  obtain ⟨vm₁, cX, kX, hfX, hkX, -, -, X₁, st1⟩ := Y.newCold hexec (own := own) (C := cls) (index := ik) (n := 6) hown' hk' hins hini'
    (g := F0 m pc ls rest) rfl (by rw [hb]; exact d0) (Nat.le_refl _) (Nat.le_refl _)
  generalize hT1 : (T.setVm vm₁).pushCell { cls := cX, slots := kX.instanceTypes.map defaultValue, vm := .none } = T1 at X₁ st1
  have hcat : (Value.ref T.heap.size).category = 1 := rfl
  have hcellA : T1.heap[T.heap.size]? = some (freshCell cX kX) := by rw [← hT1]; exact State.heap_pushCell_size _ _
  have d3' : decode c.code (pc + 3) = .ok (.dup, 1) := by rw [hb]; exact d3
  obtain ⟨U, hsteps, hrun, hend, hW, hsame, ce, hce, hO⟩ := X₁.ctorThrow0 hexec htr (own := own) (cls := cls) (names := names) (ic := ic) hown' hcls hnames h (fun x hx => nomatch hx) hfX hkX hcellA (by rw [hhp, hT]; exact Nat.le_refl _)
    (g := { method := m, pc := pc + 4, locals := ls, stack := .ref T.heap.size :: .ref T.heap.size :: rest, locked := none }) rfl hsize rfl rfl (rest := rest) rfl
    (by rw [hb]; exact d4) (by rw [hb]; exact d7) hout hRframes (by simp only [List.map_cons, List.sum_cons, hcat]; omega) hlocks
  obtain ⟨f1, f2⟩ := vx_frame hsame
  rw [hhp] at f1 f2
  have hWs : s.WarmedH U.vm := State.WarmedH.trans hW0 hW
  have hcl : s.vm.findClass cls = some ce.cls := by
    have h9 := hO.cls
    rw [hvm] at h9
    exact h9
  have hall : s.sameButNew ({ U with vm := s.vm } : State) locs mc ms := by
    subst hA
    obtain ⟨e1, e2⟩ := hsame
    rw [State.setFrames_setFrames] at e1
    have h2 : (T.setVm s.vm).sameButNew ({ U with vm := s.vm } : State) [] (0 + 1) (0 + 6) := ⟨e1, e2⟩
    have h3 := X.same.trans h2
    rw [List.append_nil] at h3
    exact h3.mono hc hs
  refine ⟨U, ?_, .threw T.heap.size, hrun, hend, Or.inr ⟨T.heap.size, rfl, cls, ce, locs, hx U hWs.alike f1 (fun q hq => f2 q hq (fun z hz => nomatch hz)), hce, hO.vm, hcl, hWs, hall, hf⟩⟩
  refine st1 _ ?_
  show Steps p.tables e below (T1.setTop { method := m, pc := pc + 3, locals := ls, stack := .ref T.heap.size :: rest, locked := none }) _
  jvm_step X₁.here [X₁.here.top, hexec, d3', Value.category]
  exact hsteps
/-- 'throw new E("text")': new; dup; ldc; invokespecial; athrow -/
theorem vx_throwS {cc : ByteArray} {pc : Nat} (hexec : p.tables.exec = Jvm.exec) (hb : c.code = cc) (hl : l.stackTraces = false) {own cls text : String} {names : List String} {ik is ic mc ms sa : Nat} {A : Nat → Prop}
    (hown : s.vm.findClass own = some m.cls) (hcls : Bundle.fit cls = true) (hnames : ∀ n ∈ names, Bundle.fit n = true)
    (hk : (Cond.classLink own ik cls).before args s = true) (hini : (Cond.initialized cls).before args s = true) (hstr : vk_R own is text sa s) (hat : ∀ w ∈ vx_atS own ic cls names, w.before args s = true)
    (hgood : ∀ w ∈ Cond.classLink own ik cls :: Cond.initialized cls :: vx_atS own ic cls names, vx_ot w = true)
    (hU : vx_Zq Bundle.tN "UNASSIGNED_STACK" Bundle.steD A s s.heap) (hN : vx_Zq Bundle.tN "SUPPRESSED_SENTINEL" Bundle.listD A s s.heap) (hS : va_S A s.heap H locs) (hsize : ls.size = c.maxLocals)
    (d0 : decode cc pc = .ok (.new ik, 3)) (d3 : decode cc (pc + 3) = .ok (.dup, 1)) (d4 : decode cc (pc + 4) = .ok (.ldc is, 2)) (d6 : decode cc (pc + 6) = .ok (.invokespecial ic, 3)) (d9 : decode cc (pc + 9) = .ok (.athrow, 1))
    (hout : ∀ x ∈ c.exceptionTable.toList, covers x (pc + 9) = false)
    (hRframes : names.length + 3 < R.frames) (hRlocals : (rest.map fun v => v.category).sum + (13 * (names.length + 1) + 43) ≤ R.locals) (hRcells : cells + 1 ≤ R.cells) (hRslots : slots + 6 ≤ R.slots) (hlocks : meth.locks = false)
    (hx : ∀ t : State, s.vm.Alike t.vm → H.size ≤ t.heap.size → (∀ q : Nat, q < H.size → t.heap[q]? = H[q]?) → XC cls s t)
    (hf : ∀ z ∈ locs, free z.base) (hc : cells + 1 ≤ mc) (hs : slots + 6 ≤ ms) :
    W p l e R s m args below meth c H locs cells slots (vx_MQ below Qc XC args s mc ms free) (F0 m pc ls rest) := by
  intro T hT X
  have htr : e.platform.stackTraces = false := (show e.platform.stackTraces = l.stackTraces by rw [X.admits.platform]).trans hl
  have Y := vx_rebase X (R' := { frames := R.frames, locals := R.locals, cells := 1, slots := 6 }) (Nat.le_refl _) (Nat.le_refl _) hRcells hRslots
  obtain ⟨s', hA⟩ : ∃ z, z = (T.setVm s.vm).setFrames (.invoking m args :: below) := ⟨_, rfl⟩
  rw [← hA] at Y
  have hvm : s'.vm = s.vm := by rw [hA]; rfl
  have hhp : s'.heap = H := by rw [hA]; exact hT
  have hW0 : s.WarmedH s'.vm := by rw [hvm]; exact State.WarmedH.refl s
  have hat' : ∀ w ∈ vx_atS own ic cls names, w.before args s' = true := fun w hw => vx_ot_at hW0 hvm.symm (hgood w (List.mem_cons_of_mem _ (List.mem_cons_of_mem _ hw))) (hat w hw)
  have hk' : (Cond.classLink own ik cls).before args s' = true := vx_ot_at hW0 hvm.symm (hgood _ List.mem_cons_self) hk
  have hini' : (Cond.initialized cls).before args s' = true := vx_ot_at hW0 hvm.symm (hgood _ (List.mem_cons_of_mem _ List.mem_cons_self)) hini
  have hU' : vx_Zq Bundle.tN "UNASSIGNED_STACK" Bundle.steD A s' s'.heap := by rw [hhp]; exact vx_Zq.moved hW0.alike (hU.kept hS.2.1)
  have hN' : vx_Zq Bundle.tN "SUPPRESSED_SENTINEL" Bundle.listD A s' s'.heap := by rw [hhp]; exact vx_Zq.moved hW0.alike (hN.kept hS.2.1)
  have h : ∀ w ∈ Bundle.ownAtoms own ic cls names, w.before args s' = true := vx_own hat' (vx_isRefq hU'.1) (vx_isRefq hN'.1) hU'.2.word hN'.2.word
  have hown' : s'.vm.findClass own = some m.cls := by rw [hvm]; exact hown
  have hins : (Cond.instantiable cls 6).before args s' = true := h _ (by simp [Bundle.ownAtoms])
  obtain ⟨vm₁, cX, kX, hfX, hkX, -, -, X₁, st1⟩ := Y.newCold hexec (own := own) (C := cls) (index := ik) (n := 6) hown' hk' hins hini'
    (g := F0 m pc ls rest) rfl (by rw [hb]; exact d0) (Nat.le_refl _) (Nat.le_refl _)
  generalize hT1 : (T.setVm vm₁).pushCell { cls := cX, slots := kX.instanceTypes.map defaultValue, vm := .none } = T1 at X₁ st1
  have hcat : (Value.ref T.heap.size).category = 1 := rfl
  have hcellA : T1.heap[T.heap.size]? = some (freshCell cX kX) := by rw [← hT1]; exact State.heap_pushCell_size _ _
  have d3' : decode c.code (pc + 3) = .ok (.dup, 1) := by rw [hb]; exact d3
  have d4' : decode c.code (pc + 4) = .ok (.ldc is, 2) := by rw [hb]; exact d4
  have hstr' : vk_R own is text sa s' := vk_R.warm hW0 hstr
  obtain ⟨U, hsteps, hrun, hend, hW, hsame, ce, hce, hO⟩ := X₁.ctorThrowS hexec htr (own := own) (cls := cls) (names := names) (ic := ic) hown' hcls hnames h (fun x hx => nomatch hx) hfX hkX hcellA (by rw [hhp, hT]; exact Nat.le_refl _) (msg := .ref sa) rfl
    (g := { method := m, pc := pc + 6, locals := ls, stack := .ref sa :: .ref T.heap.size :: .ref T.heap.size :: rest, locked := none }) rfl hsize rfl rfl (rest := rest) rfl
    (by rw [hb]; exact d6) (by rw [hb]; exact d9) hout hRframes (by simp only [List.map_cons, List.sum_cons, hcat]; omega) hlocks
  obtain ⟨f1, f2⟩ := vx_frame hsame
  rw [hhp] at f1 f2
  have hWs : s.WarmedH U.vm := State.WarmedH.trans hW0 hW
  have hcl : s.vm.findClass cls = some ce.cls := by
    have h9 := hO.cls
    rw [hvm] at h9
    exact h9
  have hall : s.sameButNew ({ U with vm := s.vm } : State) locs mc ms := by
    subst hA
    obtain ⟨e1, e2⟩ := hsame
    rw [State.setFrames_setFrames] at e1
    have h2 : (T.setVm s.vm).sameButNew ({ U with vm := s.vm } : State) [] (0 + 1) (0 + 6) := ⟨e1, e2⟩
    have h3 := X.same.trans h2
    rw [List.append_nil] at h3
    exact h3.mono hc hs
  refine ⟨U, ?_, .threw T.heap.size, hrun, hend, Or.inr ⟨T.heap.size, rfl, cls, ce, locs, hx U hWs.alike f1 (fun q hq => f2 q hq (fun z hz => nomatch hz)), hce, hO.vm, hcl, hWs, hall, hf⟩⟩
  refine st1 _ ?_
  show Steps p.tables e below (T1.setTop { method := m, pc := pc + 3, locals := ls, stack := .ref T.heap.size :: rest, locked := none }) _
  jvm_step X₁.here [X₁.here.top, hexec, d3', Value.category]
  exact X₁.ldcString hexec (own := own) (text := text) (index := is) (a := sa) hown' hstr'.1 hstr'.2
    (g := { method := m, pc := pc + 4, locals := ls, stack := .ref T.heap.size :: .ref T.heap.size :: rest, locked := none }) rfl d4' _ hsteps
/-- 'throw new E("text")', the text by a wide index -/
theorem vx_throwSW {cc : ByteArray} {pc : Nat} (hexec : p.tables.exec = Jvm.exec) (hb : c.code = cc) (hl : l.stackTraces = false) {own cls text : String} {names : List String} {ik is ic mc ms sa : Nat} {A : Nat → Prop}
    (hown : s.vm.findClass own = some m.cls) (hcls : Bundle.fit cls = true) (hnames : ∀ n ∈ names, Bundle.fit n = true)
    (hk : (Cond.classLink own ik cls).before args s = true) (hini : (Cond.initialized cls).before args s = true) (hstr : vk_R own is text sa s) (hat : ∀ w ∈ vx_atS own ic cls names, w.before args s = true)
    (hgood : ∀ w ∈ Cond.classLink own ik cls :: Cond.initialized cls :: vx_atS own ic cls names, vx_ot w = true)
    (hU : vx_Zq Bundle.tN "UNASSIGNED_STACK" Bundle.steD A s s.heap) (hN : vx_Zq Bundle.tN "SUPPRESSED_SENTINEL" Bundle.listD A s s.heap) (hS : va_S A s.heap H locs) (hsize : ls.size = c.maxLocals)
    (d0 : decode cc pc = .ok (.new ik, 3)) (d3 : decode cc (pc + 3) = .ok (.dup, 1)) (d4 : decode cc (pc + 4) = .ok (.ldc_w is, 3)) (d7 : decode cc (pc + 7) = .ok (.invokespecial ic, 3)) (d10 : decode cc (pc + 10) = .ok (.athrow, 1))
    (hout : ∀ x ∈ c.exceptionTable.toList, covers x (pc + 10) = false)
    (hRframes : names.length + 3 < R.frames) (hRlocals : (rest.map fun v => v.category).sum + (13 * (names.length + 1) + 43) ≤ R.locals) (hRcells : cells + 1 ≤ R.cells) (hRslots : slots + 6 ≤ R.slots) (hlocks : meth.locks = false)
    (hx : ∀ t : State, s.vm.Alike t.vm → H.size ≤ t.heap.size → (∀ q : Nat, q < H.size → t.heap[q]? = H[q]?) → XC cls s t)
    (hf : ∀ z ∈ locs, free z.base) (hc : cells + 1 ≤ mc) (hs : slots + 6 ≤ ms) :
    W p l e R s m args below meth c H locs cells slots (vx_MQ below Qc XC args s mc ms free) (F0 m pc ls rest) := by
  intro T hT X
  have htr : e.platform.stackTraces = false := (show e.platform.stackTraces = l.stackTraces by rw [X.admits.platform]).trans hl
  have Y := vx_rebase X (R' := { frames := R.frames, locals := R.locals, cells := 1, slots := 6 }) (Nat.le_refl _) (Nat.le_refl _) hRcells hRslots
  obtain ⟨s', hA⟩ : ∃ z, z = (T.setVm s.vm).setFrames (.invoking m args :: below) := ⟨_, rfl⟩
  rw [← hA] at Y
  have hvm : s'.vm = s.vm := by rw [hA]; rfl
  have hhp : s'.heap = H := by rw [hA]; exact hT
  have hW0 : s.WarmedH s'.vm := by rw [hvm]; exact State.WarmedH.refl s
  have hat' : ∀ w ∈ vx_atS own ic cls names, w.before args s' = true := fun w hw => vx_ot_at hW0 hvm.symm (hgood w (List.mem_cons_of_mem _ (List.mem_cons_of_mem _ hw))) (hat w hw)
  have hk' : (Cond.classLink own ik cls).before args s' = true := vx_ot_at hW0 hvm.symm (hgood _ List.mem_cons_self) hk
  have hini' : (Cond.initialized cls).before args s' = true := vx_ot_at hW0 hvm.symm (hgood _ (List.mem_cons_of_mem _ List.mem_cons_self)) hini
  have hU' : vx_Zq Bundle.tN "UNASSIGNED_STACK" Bundle.steD A s' s'.heap := by rw [hhp]; exact vx_Zq.moved hW0.alike (hU.kept hS.2.1)
  have hN' : vx_Zq Bundle.tN "SUPPRESSED_SENTINEL" Bundle.listD A s' s'.heap := by rw [hhp]; exact vx_Zq.moved hW0.alike (hN.kept hS.2.1)
  have h : ∀ w ∈ Bundle.ownAtoms own ic cls names, w.before args s' = true := vx_own hat' (vx_isRefq hU'.1) (vx_isRefq hN'.1) hU'.2.word hN'.2.word
  have hown' : s'.vm.findClass own = some m.cls := by rw [hvm]; exact hown
  have hins : (Cond.instantiable cls 6).before args s' = true := h _ (by simp [Bundle.ownAtoms])
  obtain ⟨vm₁, cX, kX, hfX, hkX, -, -, X₁, st1⟩ := Y.newCold hexec (own := own) (C := cls) (index := ik) (n := 6) hown' hk' hins hini'
    (g := F0 m pc ls rest) rfl (by rw [hb]; exact d0) (Nat.le_refl _) (Nat.le_refl _)
  generalize hT1 : (T.setVm vm₁).pushCell { cls := cX, slots := kX.instanceTypes.map defaultValue, vm := .none } = T1 at X₁ st1
  have hcat : (Value.ref T.heap.size).category = 1 := rfl
  have hcellA : T1.heap[T.heap.size]? = some (freshCell cX kX) := by rw [← hT1]; exact State.heap_pushCell_size _ _
  have d3' : decode c.code (pc + 3) = .ok (.dup, 1) := by rw [hb]; exact d3
  have d4' : decode c.code (pc + 4) = .ok (.ldc_w is, 3) := by rw [hb]; exact d4
  have hstr' : vk_R own is text sa s' := vk_R.warm hW0 hstr
  obtain ⟨U, hsteps, hrun, hend, hW, hsame, ce, hce, hO⟩ := X₁.ctorThrowS hexec htr (own := own) (cls := cls) (names := names) (ic := ic) hown' hcls hnames h (fun x hx => nomatch hx) hfX hkX hcellA (by rw [hhp, hT]; exact Nat.le_refl _) (msg := .ref sa) rfl
    (g := { method := m, pc := pc + 7, locals := ls, stack := .ref sa :: .ref T.heap.size :: .ref T.heap.size :: rest, locked := none }) rfl hsize rfl rfl (rest := rest) rfl
    (by rw [hb]; exact d7) (by rw [hb]; exact d10) hout hRframes (by simp only [List.map_cons, List.sum_cons, hcat]; omega) hlocks
  obtain ⟨f1, f2⟩ := vx_frame hsame
  rw [hhp] at f1 f2
  have hWs : s.WarmedH U.vm := State.WarmedH.trans hW0 hW
  have hcl : s.vm.findClass cls = some ce.cls := by
    have h9 := hO.cls
    rw [hvm] at h9
    exact h9
  have hall : s.sameButNew ({ U with vm := s.vm } : State) locs mc ms := by
    subst hA
    obtain ⟨e1, e2⟩ := hsame
    rw [State.setFrames_setFrames] at e1
    have h2 : (T.setVm s.vm).sameButNew ({ U with vm := s.vm } : State) [] (0 + 1) (0 + 6) := ⟨e1, e2⟩
    have h3 := X.same.trans h2
    rw [List.append_nil] at h3
    exact h3.mono hc hs
  refine ⟨U, ?_, .threw T.heap.size, hrun, hend, Or.inr ⟨T.heap.size, rfl, cls, ce, locs, hx U hWs.alike f1 (fun q hq => f2 q hq (fun z hz => nomatch hz)), hce, hO.vm, hcl, hWs, hall, hf⟩⟩
  refine st1 _ ?_
  show Steps p.tables e below (T1.setTop { method := m, pc := pc + 3, locals := ls, stack := .ref T.heap.size :: rest, locked := none }) _
  jvm_step X₁.here [X₁.here.top, hexec, d3', Value.category]
  exact X₁.ldcStringW hexec (own := own) (text := text) (index := is) (a := sa) hown' hstr'.1 hstr'.2
    (g := { method := m, pc := pc + 4, locals := ls, stack := .ref T.heap.size :: .ref T.heap.size :: rest, locked := none }) rfl d4' _ hsteps
end Ends
section Bodies
variable {l : Launch}
theorem vx_ofW {y : MethodName} {ws ws' : List Cond} {rm : Room} {Pc : Array Value → State → Prop} {Qc : Array Value → State → Outcome → State → Prop} {XC : String → State → State → Prop} {mc ms : Nat} {free : Addr → Prop} {cc : ByteArray} {maxL : Nat} {ret : Option FieldType}
    (hy : plainName y.cls = true) (hw : ws = Cond.code y cc maxL ret :: ws')
    (body : ∀ p e s m args below meth c s₁, BodyLoose p l y (headSpec ws rm) cc maxL ret e s m args below meth c s₁ → c.maxLocals = maxL → (∀ x ∈ c.exceptionTable.toList, False) → Pc args s →
      W p l e (headSpec ws rm).room s m args below meth c s.heap [] 0 0 (vx_MQ below Qc XC args s mc ms free) (entryFrame m args maxL)) : vx_Met l y ws rm Pc Qc XC mc ms free := by
  refine MetFree.of_bodyS (code := cc) (maxLocals := maxL) (ret := ret) hy ?_ ?_
  · intro args s m h hn
    obtain ⟨meth, c, h1, h2, h3, h4, h5, h6, -, -⟩ := Cond.code_spec hn (atoms_spec (ws := ws) h _ (by rw [hw]; exact List.mem_cons_self))
    exact ⟨meth, c, h1, h2, h3, h4, h5, h6⟩
  · intro p e s m args below meth c s₁ B hml hP _
    have hh0 : s₁.heap = s.heap := by rw [B.state]; rfl
    have ht : ∀ x ∈ c.exceptionTable.toList, False := by
      obtain ⟨meth9, c9, h1, h2, -, -, -, -, h7, -⟩ := Cond.code_spec B.named (atoms_spec (ws := ws) B.pre _ (by rw [hw]; exact List.mem_cons_self))
      cases Option.some.inj (h1.symm.trans B.method)
      cases Option.some.inj (h2.symm.trans (Stand.of_body B).code)
      intro x hx
      rw [Array.isEmpty_iff.mp h7] at hx
      cases hx
    obtain ⟨t, a1, o, b1, b2, b3⟩ := body p e s m args below meth c s₁ B hml ht hP s₁ hh0 (Stand.of_body B)
    exact ⟨t, o, a1, b1, b2, b3⟩
/-- the table of a body with handlers -/
theorem vx_table {p : Program} {x y : MethodName} {S : Spec} {cc bytes : ByteArray} {maxL maxL' : Nat} {ret ret' : Option FieldType} {e : Env} {s s₁ : State} {m : MethodId} {args : Array Value} {below : List Frame} {meth : Method} {c : Code} {hh : List (Nat × Nat × Nat × Nat)}
    (B : BodyLoose p l y S cc maxL ret e s m args below meth c s₁) (h : (Cond.codeWith y bytes maxL' ret' hh).before args s = true) : c.exceptionTable.toList = tableOf hh := by
  obtain ⟨m9, meth9, c9, hn9, h1, h2, -, -, h6, -⟩ := Cond.codeWith_spec h
  cases Option.some.inj (hn9.symm.trans B.named)
  cases Option.some.inj (h1.symm.trans B.method)
  cases Option.some.inj (h2.symm.trans (Stand.of_body B).code)
  rw [← h6, table_eq]
end Bodies
end VXA
/-! ===== END ===== -/
/-! ===== BEGIN a static call of a method with an exception table ===== -/
section VXS
variable {p : Program} {l : Launch} {e : Env} {R : Room} {s : State} {m : MethodId} {args : Array Value} {below : List Frame} {meth : Method} {c : Code} {T : State} {H : Heap} {locs : List Loc} {cells slots : Nat}
abbrev vx_CSW (R : Room) (s : State) (args : Array Value) (own : String) (index : Nat) (y : MethodName) (bytes : ByteArray) (maxL : Nat) (ret : Option FieldType) (hh : List (Nat × Nat × Nat × Nat)) (ws : List Cond) (rm : Room) (mc ms n : Nat) : Prop :=
  (rm.cells = mc ∧ rm.slots = ms ∧ rm.frames + 1 ≤ R.frames ∧ 8 + (maxL + 11) + rm.locals ≤ R.locals ∧ (∀ w ∈ ws, ∀ (a' : Array Value) (U : State), s.WarmedH U.vm → w.before a' U = true) ∧ Cond.codeWith y bytes maxL ret hh ∈ ws) ∧
  (Cond.codeWith y bytes maxL ret hh).before args s = true ∧ (Cond.initialized y.cls).before args s = true ∧ (y.cls ≠ "java/lang/invoke/MethodHandle" ∧ y.cls ≠ "java/lang/invoke/VarHandle") ∧
  (∀ sig, parseMethodDescriptor y.desc = some sig → n = sig.parameters.length) ∧ (Cond.methodLink own index y).before args s = true ∧ (Cond.static y).before args s = true
theorem vx_cwSW {own : String} {index maxL mc ms : Nat} {y : MethodName} {bytes : ByteArray} {ret : Option FieldType} {hh : List (Nat × Nat × Nat × Nat)} {Ts ws ws' : List Cond} {rm : Room} (n : Nat) (ht : ∀ w ∈ Ts, w.before args s = true) (hT : GoodIn Ts (va_wsS own index y ws)) (hw : ws = Cond.codeWith y bytes maxL ret hh :: ws') (hrc : rm.cells = mc) (hrs : rm.slots = ms)
    (hd : y.cls ≠ "java/lang/invoke/MethodHandle" ∧ y.cls ≠ "java/lang/invoke/VarHandle" ∧ (parseMethodDescriptor y.desc).map (fun d => d.parameters.length) = some n) (hR : rm.frames + 1 ≤ R.frames ∧ 8 + (maxL + 11) + rm.locals ≤ R.locals) :
    vx_CSW R s args own index y bytes maxL ret hh ws rm mc ms n := by
  have ok : ∀ w ∈ va_wsS own index y ws, w.before args s = true := fun w h => ht w (hT w h).1
  have hG : GoodIn Ts ws := fun w h => hT w (by unfold va_wsS; exact List.mem_append_right _ h)
  have hc : Cond.codeWith y bytes maxL ret hh ∈ ws := by rw [hw]; exact List.mem_cons_self
  refine ⟨⟨hrc, hrs, hR.1, hR.2, pay_in ht hG, hc⟩, ht _ (hG _ hc).1, ok _ (by simp [va_wsS]), ⟨hd.1, hd.2.1⟩, fun sig h => ?_, ok _ (by simp [va_wsS]), ok _ (by simp [va_wsS])⟩
  have h2 := hd.2.2
  rw [h] at h2
  exact (Option.some.inj h2).symm
theorem vx_callSW (X : Stand p l e R s m args below meth c T locs cells slots) (hexec : p.tables.exec = Jvm.exec) {own : String} {index : Nat} {y : MethodName} {bytes : ByteArray} {maxL : Nat} {ret : Option FieldType} {hh : List (Nat × Nat × Nat × Nat)}
    (hown : s.vm.findClass own = some m.cls) (hlink : (Cond.methodLink own index y).before args s = true) (hstat : (Cond.static y).before args s = true) (hinit : (Cond.initialized y.cls).before args s = true)
    (hcode : (Cond.codeWith y bytes maxL ret hh).before args s = true) (hy : y.cls ≠ "java/lang/invoke/MethodHandle" ∧ y.cls ≠ "java/lang/invoke/VarHandle")
    {W9 : Nat} {Pre : Pt → Array Value → Prop} {Post : Pt → Array Value → Option Value → Pt → Prop} (hK : Back l R p e below s args y 3 W9 Pre Post)
    {g : JFrame} (hg : g.method = m) (hsize : g.locals.size = c.maxLocals) {argsL rest : List Value} (hlen : ∀ sig, parseMethodDescriptor y.desc = some sig → argsL.length = sig.parameters.length)
    (hstack : g.stack = argsL.reverse ++ rest) (hW : 2 * g.monitorRoom + (rest.map fun v => v.category).sum ≤ W9) (hdg : decode c.code g.pc = .ok (.invokestatic index, 3))
    (hpre : ∀ vm₁, s.WarmedH vm₁ → Pre ⟨T.setVm vm₁, locs, cells, slots⟩ argsL.toArray) :
    ∃ (v : Option Value) (vm₁ : Vm) (B : Pt), s.WarmedH vm₁ ∧ Stand p l e R s m args below meth c B.U B.locs B.cells B.slots ∧ Post ⟨T.setVm vm₁, locs, cells, slots⟩ argsL.toArray v B ∧
      ∀ target, Steps p.tables e below (B.U.setTop { g with pc := g.pc + 3, stack := v.toList ++ rest }) target → Steps p.tables e below (T.setTop g) target := by
  obtain ⟨mk, methM, cM, hnamed, hmethM, -, -, -, -, -, -, hsigM⟩ := Cond.codeWith_spec hcode
  have hstatic : methM.isStatic = true := Cond.static_spec hnamed hmethM hstat
  obtain ⟨kP, hkP, -⟩ := className_of_methodNamed hnamed
  have hinitP : kP.init = .initialized := Cond.initialized_spec (findClass_of_methodNamed hnamed) hkP hinit
  obtain ⟨vm₁, X₁, hstep₁⟩ := X.invokestatic hexec hown hlink hnamed hmethM hstatic hkP hinitP hy (g := g) hg (argsL := argsL) (rest := rest) (hlen _ hsigM) hstack hdg
  obtain ⟨v, B, X', hpost, hsteps⟩ := hK m meth c ⟨T.setVm vm₁, locs, cells, slots⟩ { g with stack := rest } (.invokestatic index) mk argsL.toArray X₁ hg hsize hdg hW (X₁.named hnamed) (hpre vm₁ X₁.warmed)
  exact ⟨v, vm₁, B, X₁.warmed, X', hpost, fun target h => hstep₁ _ fun acts => by rw [doInvoke_state]; exact hsteps.trans h⟩
theorem vx_runSW {y : MethodName} {bytes cc : ByteArray} {maxL nL mc ms n index : Nat} {ret : Option FieldType} {hh : List (Nat × Nat × Nat × Nat)} {ws : List Cond} {rm : Room} {Pc : Array Value → State → Prop} {Qc : Array Value → State → Outcome → State → Prop} {free : Addr → Prop} {Ts : List Cond} {own : String} {As rest : List Value} {g : JFrame}
    (S : CallFix p m c cc nL s args Ts own) (hM : Met l y ws rm Pc Qc mc ms free) (cw : vx_CSW R s args own index y bytes maxL ret hh ws rm mc ms n) (hp : PreS s H Pc As)
    (hg : g.method = m) (hn : As.length = n) (hsize : g.locals.size = nL) (hstack : g.stack = As.reverse ++ rest) (hW : 2 * g.monitorRoom + (rest.map fun v => v.category).sum ≤ 8) (hdg : decode cc g.pc = .ok (.invokestatic index, 3)) (hf : cells + mc ≤ R.cells ∧ slots + ms ≤ R.slots) :
    va_Run p l e R s m args below meth c H locs cells slots mc ms g rest (Qc As.toArray) (free) := by
  obtain ⟨⟨hrc, hrs, hfr, hlo, hws, hcw⟩, hcode, hini, hy, hlen, hl, hstt⟩ := cw
  have hK : Back l R p e below s args y 3 8 (PreOf R mc ms Pc) (PostOf Qc mc ms free) := va_backW (hh := hh) (bytes := bytes) (maxL := maxL) (ret := ret) hM hp.1 hrc hrs hfr hlo hws hcw (fun a' U hW => word_at hW (Or.inl (by first | rfl | simp [Cond.onTables, Cond.keeps, Cond.steady])) hini)
  obtain ⟨hx, hb, hml, ho, -⟩ := S
  intro T hT X
  obtain ⟨v, vm₁, ⟨U', l2, c2, s2⟩, hW₁, X', ⟨g', mk, t, L, e1, e2, hq, h1, hL, h2, h3⟩, st⟩ := vx_callSW X hx (hh := hh) (bytes := bytes) (maxL := maxL) (ret := ret) ho hl hstt hini hcode hy hK hg (hsize.trans hml.symm) (argsL := As) (rest := rest) (fun sig h => hn.trans (hlen sig h)) hstack hW (by rw [hb]; exact hdg)
    (fun vm₁ hW₁ => ⟨hf.1, hf.2, hp.2 (T.setVm vm₁) hT hW₁⟩)
  dsimp only [Pt.U, Pt.locs, Pt.cells, Pt.slots] at X' e1 e2 h1 h2 h3 st
  subst h1; subst h2; subst h3
  exact ⟨v, (T.setVm vm₁).calling g' mk As.toArray, t, U', L, hT, X', hL, e1, e2, hq, st⟩
/-- not caught here, past rows that name other classes: it goes on to the caller -/
theorem vx_outP {p : Program} {l : Launch} {e : Env} {R : Room} {s : State} {m : MethodId} {args : Array Value} {below : List Frame} {meth : Method} {c : Code} {H : Heap} {locs : List Loc} {cells slots : Nat} {free : Addr → Prop} {ls : Array Slot} {rest : List Value} {Qc : Array Value → State → Outcome → State → Prop} {XC : String → State → State → Prop}
    {pc : Nat} {own E : String} {ce : Cell} {q : Addr} {mc ms : Nat} (hown : s.vm.findClass own = some m.cls) (hlocks : meth.locks = false)
    (hpass : ∀ z ∈ c.exceptionTable.toList, covers z pc = false ∨ (z.catchType ≠ 0 ∧ ∃ nm : String, (Cond.classLink own z.catchType nm).before args s = true ∧ va_Nc E nm s)) (hcell : H[q]? = some ce) (hv : ce.vm = .none) (hcl : s.vm.findClass E = some ce.cls)
    (hx : ∀ t : State, t.heap = H → s.vm.Alike t.vm → XC E s t) (hf : ∀ z ∈ locs, free z.base) (hc : cells ≤ mc) (hs : slots ≤ ms) :
    vx_W p l e R s m args below meth c H locs cells slots (vx_MQ below Qc XC args s mc ms free) (F0 m pc ls rest) q := by
  intro T hT X
  have hpl : e.platform.magicAccessors = ({} : Platform).magicAccessors := by rw [X.admits.platform]
  obtain ⟨vm', hW', X', st⟩ := X.outThrough hlocks q (g := F0 m pc ls rest) rfl rfl rfl (cell := ce) (by rw [hT]; exact hcell) (by rw [hv]; rfl)
    (by obtain ⟨k9, h9, -⟩ := Vm.findClass_spec hcl; exact ⟨k9, h9⟩) (fun z hz => by
      rcases hpass z hz with h | ⟨hz0, nm, hl1, hn1⟩
      · exact Or.inl h
      · obtain ⟨c6, hc6, hcl6⟩ := Cond.classLink_spec hown hl1 e.platform hpl
        obtain ⟨a8, b8, h1, h2, h3⟩ := hn1
        cases Option.some.inj (h1.symm.trans hcl)
        cases Option.some.inj (h2.symm.trans hc6)
        exact Or.inr ⟨hz0, _, hcl6, h3⟩)
  obtain ⟨g₀, hfr⟩ := X'.frames_eq
  have hcell9 : ((T.setVm vm').setFrames (.throwing q :: below)).heap[q]? = some ce := by
    show T.heap[q]? = some ce
    rw [hT]; exact hcell
  have hend : Ended ((T.setVm vm').setFrames (.throwing q :: below)) below (.threw q) := State.frames_setFrames _ (State.cur_lt_of_frames hfr)
  refine ⟨(T.setVm vm').setFrames (.throwing q :: below), ?_, .threw q, X'.here.running, hend, Or.inr ⟨q, rfl, E, ce, locs, hx _ hT (X'.ends _).1.alike, hcell9, hv, hcl, (X'.ends _).1, (X'.ends _).2.mono hc hs, hf⟩⟩
  rw [X.pushThrowing_eq]
  exact st
/-- a thing of a world lies in the heap -/
theorem vx_lt {D : va_G} {cl : List vw_C} {ws : va_W} {H1 : Heap} (h : va_P D cl ws H1) {k : Nat} {q : Nat × va_E} (hk : ws[k]? = some q) : q.1 < H1.size := (h k q hk).lt
end VXS
/-! ===== END ===== -/
/-! ===== BEGIN methods with a table of their own: called by a name, returning or throwing ===== -/
section VXH
/-! vx_backW, vx_callVX, vx_callSX, vx_callVW, vx_runVW, vx_runVX, vx_runSX, vx_ofWH follow the same proofs as their sisters above (Free/Laws.lean, Shelf42/LK1.lean); vx_outP calls Shelf42/NT130.lean (outThrough). -/
section
variable {l : Launch} {R : Room} {p : Program} {e : Env} {below : List Frame} {s : State} {sargs : Array Value} {y : MethodName} {len W9 : Nat}
theorem vx_backW {ws : List Cond} {rm : Room} {Pc : Array Value → State → Prop} {Qc : Array Value → State → Outcome → State → Prop} {XC : String → State → State → Prop} {mc ms : Nat} {free : Addr → Prop} {bytes : ByteArray} {maxL : Nat} {ret : Option FieldType} {hh : List (Nat × Nat × Nat × Nat)}
    (hM : vx_Met l y ws rm Pc Qc XC mc ms free) (hblind : FrameBlind Pc) (hrc : rm.cells = mc) (hrs : rm.slots = ms)
    (hframes : rm.frames + 1 ≤ R.frames) (hlocals : W9 + (maxL + 11) + rm.locals ≤ R.locals)
    (hws : ∀ w ∈ ws, ∀ a' U, s.WarmedH U.vm → w.before a' U = true) (hcode : Cond.codeWith y bytes maxL ret hh ∈ ws) (hinit : ∀ a' U, s.WarmedH U.vm → (Cond.initialized y.cls).before a' U = true) :
    vx_Back l R p e below s sargs y len W9 (PreOf R mc ms Pc) (PostOf Qc mc ms free) (vx_Post XC mc ms free) := by
  intro m meth c A g ig mk a X hg hsize hdg hW hn hp
  have h1 : (headSpec ws rm).pre.before a A.U = true := atoms_intro fun w hw => hws w hw _ _ X.warmed
  have h2 : (Cond.codeWith y bytes maxL ret hh).before a A.U = true := hws _ hcode _ _ X.warmed
  have h3 : (Cond.initialized y.cls).before a A.U = true := hinit _ _ X.warmed
  have h4 : A.cells + (headSpec ws rm).room.cells ≤ R.cells := by rw [show (headSpec ws rm).room.cells = mc from hrc]; exact hp.1
  have h5 : A.slots + (headSpec ws rm).room.slots ≤ R.slots := by rw [show (headSpec ws rm).room.slots = ms from hrs]; exact hp.2.1
  have hPc : Pc a (A.U.calling g mk a) := hblind _ _ _ _ hp.2.2
  obtain ⟨U, Ls, c0, s0⟩ := A
  dsimp only [Pt.U, Pt.locs, Pt.cells, Pt.slots] at h1 h2 h3 h4 h5 X hn hPc ⊢
  obtain ⟨m9, methY, cY, hn9, hmY, hcY, -, hlY, -⟩ := Cond.codeWith_spec h2
  cases Option.some.inj (hn9.symm.trans hn)
  obtain ⟨kY, hkY, -⟩ := className_of_methodNamed hn
  have hinitY : kY.init = .initialized := Cond.initialized_spec (findClass_of_methodNamed hn) hkY h3
  have h : At U g.method c below := by rw [hg]; exact X.here
  have hlocals9 : W9 + (maxL + 11) + (headSpec ws rm).room.locals ≤ R.locals := hlocals
  have happ : (headSpec ws rm).appliesLoose y e.platform (U.calling g mk a) = true :=
    Spec.appliesLoose_calling (g := g) h hdg hn hkY hinitY
      (X.room_calling (g := g) (R' := (headSpec ws rm).room) hsize hmY hcY hframes (by rw [hlY]; omega) h4 h5) h1
  obtain ⟨mid, hmid⟩ := h.above
  have hfr : (U.setTop g).frames = (.java g :: mid) ++ below := by rw [State.frames_setTop' g h.top, hmid]; rfl
  obtain ⟨o, s₂, hsteps, -, hend, hq⟩ := Steps.callFree hM p X.admits X.cas X.clock (acts := []) hfr happ hPc trivial
  have hq' : vx_Q Qc XC mc ms free a (U.calling g mk a) o s₂ := hq
  rw [State.frames_setTop' g h.top] at hend
  obtain ⟨g₀, hg0⟩ := Option.isSome_iff_exists.mp h.top
  obtain ⟨r, hr⟩ := State.topJava?_eq_some.mp hg0
  have hr' : (({ U with heap := s₂.heap, slotsUsed := s₂.slotsUsed } : State).setVm s₂.vm).frames = .java g₀ :: r := hr
  rcases hq' with ⟨hqc, L, hfe, hL⟩ | ⟨q, rfl, E, ce, L, hx, hce, hcv, hcl, hW₂, hsm, hL⟩
  · obtain ⟨⟨v, rfl⟩, hW₂, e2, q2, q3, q4, q5, q6⟩ := id hfe
    have e3 : s₂ = ({ (U.calling g mk a).setFrames s₂.frames with heap := s₂.heap, slotsUsed := s₂.slotsUsed } : State).setVm s₂.vm := by
      have : s₂ = ({ s₂ with vm := (U.calling g mk a).vm } : State).setVm s₂.vm := rfl
      rw [e2] at this
      exact this
    obtain ⟨c₂, i₂, len₂, hc₂, hd₂, hf₂⟩ := hend
    have hW' : U.WarmedH s₂.vm := hW₂
    have hcc : c₂ = c := by
      have h1 : s₂.code? g.method = U.code? g.method := by
        rw [State.code?_eq, State.code?_eq, hW'.alike.method?]
      exact Option.some.inj (hc₂.symm.trans (h1.trans h.code))
    subst hcc
    have hlen : len₂ = len := by rw [hdg] at hd₂; cases hd₂; rfl
    subst hlen
    have hs₂ : s₂ = (({ U with heap := s₂.heap, slotsUsed := s₂.slotsUsed } : State).setVm s₂.vm).setTop { g with pc := g.pc + len₂, stack := v.toList ++ g.stack } := by
      refine e3.trans ?_
      rw [hf₂, State.calling_eq h.top, State.setFrames_setFrames, State.setTop_of_frames _ hr', hr]
      rfl
    have hsame : U.sameButNew ({ U with heap := s₂.heap, slotsUsed := s₂.slotsUsed } : State) L mc ms := by
      refine ⟨?_, q2, q3, q4, q5, q6⟩
      obtain ⟨t, ht, -⟩ := State.frames_cons hr
      show ({ U with heap := s₂.heap, slotsUsed := s₂.slotsUsed } : State) = { U.setFrames U.frames with heap := s₂.heap, slotsUsed := s₂.slotsUsed }
      rw [State.setFrames_self ht]
    subst hg
    refine Or.inl ⟨v, ⟨(({ U with heap := s₂.heap, slotsUsed := s₂.slotsUsed } : State).setVm s₂.vm), Ls ++ L, c0 + mc, s0 + ms⟩,
      ⟨X.admits, X.cas, X.clock, X.frames, X.room, X.hears, X.method, X.code, (X.here.setHeapUsed s₂.heap s₂.slotsUsed).setVm hW'.alike, X.tail, State.WarmedH.trans X.warmed hW', X.limits, X.bytes, X.same.trans (hsame.setVm s.vm)⟩,
      ⟨g, mk, s₂, L, rfl, rfl, hqc, rfl, hL, rfl, rfl⟩, ?_⟩
    show Steps p.tables e below _ ((({ U with heap := s₂.heap, slotsUsed := s₂.slotsUsed } : State).setVm s₂.vm).setTop { g with pc := g.pc + len₂, stack := v.toList ++ g.stack })
    rw [← hs₂]
    exact hsteps
  · obtain ⟨e2, q2, q3, q4, q5, q6⟩ := id hsm
    have e3 : s₂ = ({ (U.calling g mk a).setFrames s₂.frames with heap := s₂.heap, slotsUsed := s₂.slotsUsed } : State).setVm s₂.vm := by
      have : s₂ = ({ s₂ with vm := (U.calling g mk a).vm } : State).setVm s₂.vm := rfl
      rw [e2] at this
      exact this
    have hf₂ : s₂.frames = .throwing q :: .java g :: U.frames.tail := hend
    have hW' : U.WarmedH s₂.vm := hW₂
    have hs₂ : s₂ = ((({ U with heap := s₂.heap, slotsUsed := s₂.slotsUsed } : State).setVm s₂.vm).setTop g).pushFrame (.throwing q) := by
      refine e3.trans ?_
      rw [hf₂, State.calling_eq h.top, State.setFrames_setFrames, State.pushFrame, State.frames_setTop _ hr', State.setTop_of_frames _ hr', State.setFrames_setFrames, hr]
      rfl
    have hsame : U.sameButNew ({ U with heap := s₂.heap, slotsUsed := s₂.slotsUsed } : State) L mc ms := by
      refine ⟨?_, q2, q3, q4, q5, q6⟩
      obtain ⟨t, ht, -⟩ := State.frames_cons hr
      show ({ U with heap := s₂.heap, slotsUsed := s₂.slotsUsed } : State) = { U.setFrames U.frames with heap := s₂.heap, slotsUsed := s₂.slotsUsed }
      rw [State.setFrames_self ht]
    subst hg
    refine Or.inr ⟨q, ⟨(({ U with heap := s₂.heap, slotsUsed := s₂.slotsUsed } : State).setVm s₂.vm), Ls ++ L, c0 + mc, s0 + ms⟩,
      ⟨X.admits, X.cas, X.clock, X.frames, X.room, X.hears, X.method, X.code, (X.here.setHeapUsed s₂.heap s₂.slotsUsed).setVm hW'.alike, X.tail, State.WarmedH.trans X.warmed hW', X.limits, X.bytes, X.same.trans (hsame.setVm s.vm)⟩,
      ⟨g, mk, s₂, L, E, ce, rfl, rfl, hx, hce, hcv, hcl, rfl, hL, rfl, rfl⟩, ?_⟩
    show Steps p.tables e below _ (((({ U with heap := s₂.heap, slotsUsed := s₂.slotsUsed } : State).setVm s₂.vm).setTop g).pushFrame (.throwing q))
    rw [← hs₂]
    exact hsteps
end
variable {p : Program} {l : Launch} {e : Env} {R : Room} {s : State} {m : MethodId} {args : Array Value} {below : List Frame} {meth : Method} {c : Code} {T : State} {H : Heap} {locs : List Loc} {cells slots : Nat}
theorem vx_callVX (X : Stand p l e R s m args below meth c T locs cells slots) (hexec : p.tables.exec = Jvm.exec) {own C : String} {index : Nat} {y : MethodName} {bytes : ByteArray} {maxL : Nat} {ret : Option FieldType} {hh : List (Nat × Nat × Nat × Nat)}
    (hown : s.vm.findClass own = some m.cls) (hlink : (Cond.methodLink own index y).before args s = true) (hinst : (Cond.instanceMethod y).before args s = true) (hsel : (Cond.selects C y y).before args s = true)
    (hcode : (Cond.codeWith y bytes maxL ret hh).before args s = true) (hy : y.cls ≠ "java/lang/invoke/MethodHandle" ∧ y.cls ≠ "java/lang/invoke/VarHandle")
    {W9 : Nat} {Pre : Pt → Array Value → Prop} {Post : Pt → Array Value → Option Value → Pt → Prop} {PostX : Pt → Array Value → Addr → Pt → Prop} (hK : vx_Back l R p e below s args y 3 W9 Pre Post PostX)
    {b : Addr} {cellB : Cell} (hcell : T.heap[b]? = some cellB) (hobj : cellB.vm.isStatics = false) (hcls : s.vm.findClass C = some cellB.cls)
    {g : JFrame} (hg : g.method = m) (hsize : g.locals.size = c.maxLocals) {argsL rest : List Value} (hlen : ∀ sig, parseMethodDescriptor y.desc = some sig → argsL.length = sig.parameters.length)
    (hstack : g.stack = argsL.reverse ++ .ref b :: rest) (hW : 2 * g.monitorRoom + (rest.map fun v => v.category).sum ≤ W9) (hdg : decode c.code g.pc = .ok (.invokevirtual index, 3))
    (hpre : ∀ vm₁, s.WarmedH vm₁ → Pre ⟨T.setVm vm₁, locs, cells, slots⟩ (Value.ref b :: argsL).toArray) :
    (∃ (v : Option Value) (vm₁ : Vm) (B : Pt), s.WarmedH vm₁ ∧ Stand p l e R s m args below meth c B.U B.locs B.cells B.slots ∧ Post ⟨T.setVm vm₁, locs, cells, slots⟩ (Value.ref b :: argsL).toArray v B ∧
      ∀ target, Steps p.tables e below (B.U.setTop { g with pc := g.pc + 3, stack := v.toList ++ rest }) target → Steps p.tables e below (T.setTop g) target) ∨
    (∃ (q : Addr) (vm₁ : Vm) (B : Pt), s.WarmedH vm₁ ∧ Stand p l e R s m args below meth c B.U B.locs B.cells B.slots ∧ PostX ⟨T.setVm vm₁, locs, cells, slots⟩ (Value.ref b :: argsL).toArray q B ∧
      Steps p.tables e below (T.setTop g) ((B.U.setTop { g with stack := rest }).pushFrame (.throwing q))) := by
  obtain ⟨mk, methM, hnamed, hmethM, hstM, habM⟩ := Cond.instanceMethod_spec hinst
  obtain ⟨m8, methM', cM, hn8, hmethM', -, -, -, -, -, -, hsigM⟩ := Cond.codeWith_spec hcode
  cases Option.some.inj (hn8.symm.trans hnamed)
  cases hmethM.symm.trans hmethM'
  obtain ⟨c2, r2, m2, q1, q2, q3, q4, kP, hkP, hkPi⟩ := Cond.selects_spec hsel
  cases hcls.symm.trans q1
  cases (State.methodFound?_of_named hnamed hy).symm.trans q2
  cases hnamed.symm.trans q3
  have hselP : selectMethod e.platform s.vm cellB.cls mk = .method mk := by rw [Launch.admits_selectMethod X.admits]; exact q4
  obtain ⟨vm₁, X₁, hstep₁⟩ := X.invokevirtual hexec hown hlink hnamed hmethM hstM hkP hkPi hy (a := b) (cell := cellB) hcell
    (fun z h => by rw [h] at hobj; cases hobj) hselP hmethM habM hkP hkPi (g := g) hg (argsL := argsL) (rest := rest) (hlen _ hsigM) hstack hdg
  rcases hK m meth c ⟨T.setVm vm₁, locs, cells, slots⟩ { g with stack := rest } (.invokevirtual index) mk (Value.ref b :: argsL).toArray X₁ hg hsize hdg hW (X₁.named hnamed) (hpre vm₁ X₁.warmed) with ⟨v, B, X', hpost, hsteps⟩ | ⟨q, B, X', hpost, hsteps⟩
  · exact Or.inl ⟨v, vm₁, B, X₁.warmed, X', hpost, fun target h => hstep₁ _ fun acts => by rw [doInvoke_state]; exact hsteps.trans h⟩
  · exact Or.inr ⟨q, vm₁, B, X₁.warmed, X', hpost, hstep₁ _ fun acts => by rw [doInvoke_state]; exact hsteps⟩
theorem vx_callSX (X : Stand p l e R s m args below meth c T locs cells slots) (hexec : p.tables.exec = Jvm.exec) {own : String} {index : Nat} {y : MethodName} {bytes : ByteArray} {maxL : Nat} {ret : Option FieldType} {hh : List (Nat × Nat × Nat × Nat)}
    (hown : s.vm.findClass own = some m.cls) (hlink : (Cond.methodLink own index y).before args s = true) (hstat : (Cond.static y).before args s = true) (hinit : (Cond.initialized y.cls).before args s = true)
    (hcode : (Cond.codeWith y bytes maxL ret hh).before args s = true) (hy : y.cls ≠ "java/lang/invoke/MethodHandle" ∧ y.cls ≠ "java/lang/invoke/VarHandle")
    {W9 : Nat} {Pre : Pt → Array Value → Prop} {Post : Pt → Array Value → Option Value → Pt → Prop} {PostX : Pt → Array Value → Addr → Pt → Prop} (hK : vx_Back l R p e below s args y 3 W9 Pre Post PostX)
    {g : JFrame} (hg : g.method = m) (hsize : g.locals.size = c.maxLocals) {argsL rest : List Value} (hlen : ∀ sig, parseMethodDescriptor y.desc = some sig → argsL.length = sig.parameters.length)
    (hstack : g.stack = argsL.reverse ++ rest) (hW : 2 * g.monitorRoom + (rest.map fun v => v.category).sum ≤ W9) (hdg : decode c.code g.pc = .ok (.invokestatic index, 3))
    (hpre : ∀ vm₁, s.WarmedH vm₁ → Pre ⟨T.setVm vm₁, locs, cells, slots⟩ argsL.toArray) :
    (∃ (v : Option Value) (vm₁ : Vm) (B : Pt), s.WarmedH vm₁ ∧ Stand p l e R s m args below meth c B.U B.locs B.cells B.slots ∧ Post ⟨T.setVm vm₁, locs, cells, slots⟩ argsL.toArray v B ∧
      ∀ target, Steps p.tables e below (B.U.setTop { g with pc := g.pc + 3, stack := v.toList ++ rest }) target → Steps p.tables e below (T.setTop g) target) ∨
    (∃ (q : Addr) (vm₁ : Vm) (B : Pt), s.WarmedH vm₁ ∧ Stand p l e R s m args below meth c B.U B.locs B.cells B.slots ∧ PostX ⟨T.setVm vm₁, locs, cells, slots⟩ argsL.toArray q B ∧
      Steps p.tables e below (T.setTop g) ((B.U.setTop { g with stack := rest }).pushFrame (.throwing q))) := by
  obtain ⟨mk, methM, cM, hnamed, hmethM, -, -, -, -, -, -, hsigM⟩ := Cond.codeWith_spec hcode
  have hstatic : methM.isStatic = true := Cond.static_spec hnamed hmethM hstat
  obtain ⟨kP, hkP, -⟩ := className_of_methodNamed hnamed
  have hinitP : kP.init = .initialized := Cond.initialized_spec (findClass_of_methodNamed hnamed) hkP hinit
  obtain ⟨vm₁, X₁, hstep₁⟩ := X.invokestatic hexec hown hlink hnamed hmethM hstatic hkP hinitP hy (g := g) hg (argsL := argsL) (rest := rest) (hlen _ hsigM) hstack hdg
  rcases hK m meth c ⟨T.setVm vm₁, locs, cells, slots⟩ { g with stack := rest } (.invokestatic index) mk argsL.toArray X₁ hg hsize hdg hW (X₁.named hnamed) (hpre vm₁ X₁.warmed) with ⟨v, B, X', hpost, hsteps⟩ | ⟨q, B, X', hpost, hsteps⟩
  · exact Or.inl ⟨v, vm₁, B, X₁.warmed, X', hpost, fun target h => hstep₁ _ fun acts => by rw [doInvoke_state]; exact hsteps.trans h⟩
  · exact Or.inr ⟨q, vm₁, B, X₁.warmed, X', hpost, hstep₁ _ fun acts => by rw [doInvoke_state]; exact hsteps⟩
theorem vx_callVW (X : Stand p l e R s m args below meth c T locs cells slots) (hexec : p.tables.exec = Jvm.exec) {own C : String} {index : Nat} {y : MethodName} {bytes : ByteArray} {maxL : Nat} {ret : Option FieldType} {hh : List (Nat × Nat × Nat × Nat)}
    (hown : s.vm.findClass own = some m.cls) (hlink : (Cond.methodLink own index y).before args s = true) (hinst : (Cond.instanceMethod y).before args s = true) (hsel : (Cond.selects C y y).before args s = true)
    (hcode : (Cond.codeWith y bytes maxL ret hh).before args s = true) (hy : y.cls ≠ "java/lang/invoke/MethodHandle" ∧ y.cls ≠ "java/lang/invoke/VarHandle")
    {W9 : Nat} {Pre : Pt → Array Value → Prop} {Post : Pt → Array Value → Option Value → Pt → Prop} (hK : Back l R p e below s args y 3 W9 Pre Post)
    {b : Addr} {cellB : Cell} (hcell : T.heap[b]? = some cellB) (hobj : cellB.vm.isStatics = false) (hcls : s.vm.findClass C = some cellB.cls)
    {g : JFrame} (hg : g.method = m) (hsize : g.locals.size = c.maxLocals) {argsL rest : List Value} (hlen : ∀ sig, parseMethodDescriptor y.desc = some sig → argsL.length = sig.parameters.length)
    (hstack : g.stack = argsL.reverse ++ .ref b :: rest) (hW : 2 * g.monitorRoom + (rest.map fun v => v.category).sum ≤ W9) (hdg : decode c.code g.pc = .ok (.invokevirtual index, 3))
    (hpre : ∀ vm₁, s.WarmedH vm₁ → Pre ⟨T.setVm vm₁, locs, cells, slots⟩ (Value.ref b :: argsL).toArray) :
    ∃ (v : Option Value) (vm₁ : Vm) (B : Pt), s.WarmedH vm₁ ∧ Stand p l e R s m args below meth c B.U B.locs B.cells B.slots ∧ Post ⟨T.setVm vm₁, locs, cells, slots⟩ (Value.ref b :: argsL).toArray v B ∧
      ∀ target, Steps p.tables e below (B.U.setTop { g with pc := g.pc + 3, stack := v.toList ++ rest }) target → Steps p.tables e below (T.setTop g) target := by
  obtain ⟨mk, methM, hnamed, hmethM, hstM, habM⟩ := Cond.instanceMethod_spec hinst
  obtain ⟨m8, methM', cM, hn8, hmethM', -, -, -, -, -, -, hsigM⟩ := Cond.codeWith_spec hcode
  cases Option.some.inj (hn8.symm.trans hnamed)
  cases hmethM.symm.trans hmethM'
  obtain ⟨c2, r2, m2, q1, q2, q3, q4, kP, hkP, hkPi⟩ := Cond.selects_spec hsel
  cases hcls.symm.trans q1
  cases (State.methodFound?_of_named hnamed hy).symm.trans q2
  cases hnamed.symm.trans q3
  have hselP : selectMethod e.platform s.vm cellB.cls mk = .method mk := by rw [Launch.admits_selectMethod X.admits]; exact q4
  obtain ⟨vm₁, X₁, hstep₁⟩ := X.invokevirtual hexec hown hlink hnamed hmethM hstM hkP hkPi hy (a := b) (cell := cellB) hcell
    (fun z h => by rw [h] at hobj; cases hobj) hselP hmethM habM hkP hkPi (g := g) hg (argsL := argsL) (rest := rest) (hlen _ hsigM) hstack hdg
  obtain ⟨v, B, X', hpost, hsteps⟩ := hK m meth c ⟨T.setVm vm₁, locs, cells, slots⟩ { g with stack := rest } (.invokevirtual index) mk (Value.ref b :: argsL).toArray X₁ hg hsize hdg hW (X₁.named hnamed) (hpre vm₁ X₁.warmed)
  exact ⟨v, vm₁, B, X₁.warmed, X', hpost, fun target h => hstep₁ _ fun acts => by rw [doInvoke_state]; exact hsteps.trans h⟩
abbrev vx_CVW (R : Room) (s : State) (args : Array Value) (own C : String) (index : Nat) (y : MethodName) (bytes : ByteArray) (maxL : Nat) (ret : Option FieldType) (hh : List (Nat × Nat × Nat × Nat)) (ws : List Cond) (rm : Room) (mc ms n : Nat) : Prop :=
  (rm.cells = mc ∧ rm.slots = ms ∧ rm.frames + 1 ≤ R.frames ∧ 8 + (maxL + 11) + rm.locals ≤ R.locals ∧ (∀ w ∈ ws, ∀ (a' : Array Value) (U : State), s.WarmedH U.vm → w.before a' U = true) ∧ Cond.codeWith y bytes maxL ret hh ∈ ws) ∧
  (Cond.codeWith y bytes maxL ret hh).before args s = true ∧ (Cond.initialized y.cls).before args s = true ∧ (y.cls ≠ "java/lang/invoke/MethodHandle" ∧ y.cls ≠ "java/lang/invoke/VarHandle") ∧
  (∀ sig, parseMethodDescriptor y.desc = some sig → n = sig.parameters.length) ∧ (Cond.methodLink own index y).before args s = true ∧ (Cond.instanceMethod y).before args s = true ∧ (Cond.selects C y y).before args s = true
theorem vx_cwVW {own C : String} {index maxL mc ms : Nat} {y : MethodName} {bytes : ByteArray} {ret : Option FieldType} {hh : List (Nat × Nat × Nat × Nat)} {Ts ws ws' : List Cond} {rm : Room} (n : Nat) (ht : ∀ w ∈ Ts, w.before args s = true) (hT : GoodIn Ts (wsV own index C y ws)) (hw : ws = Cond.codeWith y bytes maxL ret hh :: ws') (hrc : rm.cells = mc) (hrs : rm.slots = ms)
    (hd : y.cls = C ∧ y.cls ≠ "java/lang/invoke/MethodHandle" ∧ y.cls ≠ "java/lang/invoke/VarHandle" ∧ (parseMethodDescriptor y.desc).map (fun d => d.parameters.length) = some n) (hR : rm.frames + 1 ≤ R.frames ∧ 8 + (maxL + 11) + rm.locals ≤ R.locals) :
    vx_CVW R s args own C index y bytes maxL ret hh ws rm mc ms n := by
  obtain ⟨hC, hd⟩ := hd
  subst hC
  have ok : ∀ w ∈ wsV own index y.cls y ws, w.before args s = true := fun w h => ht w (hT w h).1
  have hG : GoodIn Ts ws := fun w h => hT w (by unfold wsV; exact List.mem_append_right _ h)
  have hc : Cond.codeWith y bytes maxL ret hh ∈ ws := by rw [hw]; exact List.mem_cons_self
  refine ⟨⟨hrc, hrs, hR.1, hR.2, pay_in ht hG, hc⟩, ht _ (hG _ hc).1, ok _ (by simp [wsV]), ⟨hd.1, hd.2.1⟩, fun sig h => ?_, ok _ (by simp [wsV]), ok _ (by simp [wsV]), ok _ (by simp [wsV])⟩
  have h2 := hd.2.2
  rw [h] at h2
  exact (Option.some.inj h2).symm
theorem vx_runVW {y : MethodName} {bytes cc : ByteArray} {maxL nL mc ms n index : Nat} {ret : Option FieldType} {hh : List (Nat × Nat × Nat × Nat)} {ws : List Cond} {rm : Room} {Pc : Array Value → State → Prop} {Qc : Array Value → State → Outcome → State → Prop} {free : Addr → Prop} {Ts : List Cond} {own C : String} {b : Addr} {As rest : List Value} {g : JFrame}
    (S : CallFix p m c cc nL s args Ts own) (hM : Met l y ws rm Pc Qc mc ms free) (cw : vx_CVW R s args own C index y bytes maxL ret hh ws rm mc ms n) (hp : PreV s H C b Pc As)
    (hg : g.method = m) (hn : As.length = n) (hsize : g.locals.size = nL) (hstack : g.stack = As.reverse ++ .ref b :: rest) (hW : 2 * g.monitorRoom + (rest.map fun v => v.category).sum ≤ 8) (hdg : decode cc g.pc = .ok (.invokevirtual index, 3)) (hf : cells + mc ≤ R.cells ∧ slots + ms ≤ R.slots) :
    va_Run p l e R s m args below meth c H locs cells slots mc ms g rest (Qc (Value.ref b :: As).toArray) free := by
  obtain ⟨⟨hrc, hrs, hfr, hlo, hws, hcw⟩, hcode, hini, hy, hlen, hl, hin, hse⟩ := cw
  have hK : Back l R p e below s args y 3 8 (PreOf R mc ms Pc) (PostOf Qc mc ms free) := va_backW (hh := hh) (bytes := bytes) (maxL := maxL) (ret := ret) hM hp.1 hrc hrs hfr hlo hws hcw (fun a' U hW => word_at hW (Or.inl (by first | rfl | simp [Cond.onTables, Cond.keeps, Cond.steady])) hini)
  obtain ⟨hx, hb, hml, ho, -⟩ := S
  obtain ⟨-, ⟨cellB, hcB, hoB, hclB⟩, hPc⟩ := hp
  intro T hT X
  obtain ⟨v, vm₁, ⟨U', l2, c2, s2⟩, hW₁, X', ⟨g', mk, t, L, e1, e2, hq, h1, hL, h2, h3⟩, st⟩ := vx_callVW X hx (C := C) (hh := hh) (bytes := bytes) (maxL := maxL) (ret := ret) ho hl hin hse hcode hy hK (by rw [hT]; exact hcB) hoB hclB hg (hsize.trans hml.symm) (argsL := As) (rest := rest) (fun sig h => hn.trans (hlen sig h)) hstack hW (by rw [hb]; exact hdg)
    (fun vm₁ hW₁ => ⟨hf.1, hf.2, hPc (T.setVm vm₁) hT hW₁⟩)
  dsimp only [Pt.U, Pt.locs, Pt.cells, Pt.slots] at X' e1 e2 h1 h2 h3 st
  subst h1; subst h2; subst h3
  exact ⟨v, (T.setVm vm₁).calling g' mk (Value.ref b :: As).toArray, t, U', L, hT, X', hL, e1, e2, hq, st⟩
section
variable {y : MethodName} {bytes cc : ByteArray} {maxL nL mc ms n index : Nat} {ret : Option FieldType} {ws : List Cond} {rm : Room} {Pc : Array Value → State → Prop} {Qc : Array Value → State → Outcome → State → Prop} {XC : String → State → State → Prop} {free : Addr → Prop} {Ts : List Cond} {own C : String} {b : Addr} {As rest : List Value} {g : JFrame}
theorem vx_runVX {hh : List (Nat × Nat × Nat × Nat)} (S : CallFix p m c cc nL s args Ts own) (hM : vx_Met l y ws rm Pc Qc XC mc ms free) (cw : vx_CVW R s args own C index y bytes maxL ret hh ws rm mc ms n) (hp : PreV s H C b Pc As)
    (hg : g.method = m) (hn : As.length = n) (hsize : g.locals.size = nL) (hstack : g.stack = As.reverse ++ .ref b :: rest) (hW : 2 * g.monitorRoom + (rest.map fun v => v.category).sum ≤ 8) (hdg : decode cc g.pc = .ok (.invokevirtual index, 3)) (hf : cells + mc ≤ R.cells ∧ slots + ms ≤ R.slots) :
    vx_Run p l e R s m args below meth c H locs cells slots mc ms g rest (Qc (Value.ref b :: As).toArray) XC free := by
  obtain ⟨⟨hrc, hrs, hfr, hlo, hws, hcw⟩, hcode, hini, hy, hlen, hl, hin, hse⟩ := cw
  have hK : vx_Back l R p e below s args y 3 8 (PreOf R mc ms Pc) (PostOf Qc mc ms free) (vx_Post XC mc ms free) := vx_backW (hh := hh) (bytes := bytes) (maxL := maxL) (ret := ret) hM hp.1 hrc hrs hfr hlo hws hcw (fun a' U hW => word_at hW (Or.inl (by first | rfl | simp [Cond.onTables, Cond.keeps, Cond.steady])) hini)
  obtain ⟨hx, hb, hml, ho, -⟩ := S
  obtain ⟨-, ⟨cellB, hcB, hoB, hclB⟩, hPc⟩ := hp
  intro T hT X
  rcases vx_callVX X hx (C := C) (hh := hh) (bytes := bytes) (maxL := maxL) (ret := ret) ho hl hin hse hcode hy hK (by rw [hT]; exact hcB) hoB hclB hg (hsize.trans hml.symm) (argsL := As) (rest := rest) (fun sig h => hn.trans (hlen sig h)) hstack hW (by rw [hb]; exact hdg)
    (fun vm₁ hW₁ => ⟨hf.1, hf.2, hPc (T.setVm vm₁) hT hW₁⟩) with ⟨v, vm₁, ⟨U', l2, c2, s2⟩, hW₁, X', ⟨g', mk, t, L, e1, e2, hq, h1, hL, h2, h3⟩, st⟩ | ⟨q, vm₁, ⟨U', l2, c2, s2⟩, hW₁, X', ⟨g', mk, t, L, E, ce, e1, e2, hq, hce, hcv, hcl, h1, hL, h2, h3⟩, st⟩
  · dsimp only [Pt.U, Pt.locs, Pt.cells, Pt.slots] at X' e1 e2 h1 h2 h3 st
    subst h1; subst h2; subst h3
    exact Or.inl ⟨v, (T.setVm vm₁).calling g' mk (Value.ref b :: As).toArray, t, U', L, hT, X', hL, e1, e2, hq, st⟩
  · dsimp only [Pt.U, Pt.locs, Pt.cells, Pt.slots] at X' e1 e2 h1 h2 h3 st hcl
    subst h1; subst h2; subst h3
    exact Or.inr ⟨q, (T.setVm vm₁).calling g' mk (Value.ref b :: As).toArray, t, U', L, E, ce, hT, X', hL, e1, e2, hq, hce, hcv, vx_cls hW₁ hcl, st⟩
theorem vx_runSX {hh : List (Nat × Nat × Nat × Nat)} (S : CallFix p m c cc nL s args Ts own) (hM : vx_Met l y ws rm Pc Qc XC mc ms free) (cw : vx_CSW R s args own index y bytes maxL ret hh ws rm mc ms n) (hp : PreS s H Pc As)
    (hg : g.method = m) (hn : As.length = n) (hsize : g.locals.size = nL) (hstack : g.stack = As.reverse ++ rest) (hW : 2 * g.monitorRoom + (rest.map fun v => v.category).sum ≤ 8) (hdg : decode cc g.pc = .ok (.invokestatic index, 3)) (hf : cells + mc ≤ R.cells ∧ slots + ms ≤ R.slots) :
    vx_Run p l e R s m args below meth c H locs cells slots mc ms g rest (Qc As.toArray) XC free := by
  obtain ⟨⟨hrc, hrs, hfr, hlo, hws, hcw⟩, hcode, hini, hy, hlen, hl, hstt⟩ := cw
  have hK : vx_Back l R p e below s args y 3 8 (PreOf R mc ms Pc) (PostOf Qc mc ms free) (vx_Post XC mc ms free) := vx_backW (hh := hh) (bytes := bytes) (maxL := maxL) (ret := ret) hM hp.1 hrc hrs hfr hlo hws hcw (fun a' U hW => word_at hW (Or.inl (by first | rfl | simp [Cond.onTables, Cond.keeps, Cond.steady])) hini)
  obtain ⟨hx, hb, hml, ho, -⟩ := S
  intro T hT X
  rcases vx_callSX X hx (hh := hh) (bytes := bytes) (maxL := maxL) (ret := ret) ho hl hstt hini hcode hy hK hg (hsize.trans hml.symm) (argsL := As) (rest := rest) (fun sig h => hn.trans (hlen sig h)) hstack hW (by rw [hb]; exact hdg)
    (fun vm₁ hW₁ => ⟨hf.1, hf.2, hp.2 (T.setVm vm₁) hT hW₁⟩) with ⟨v, vm₁, ⟨U', l2, c2, s2⟩, hW₁, X', ⟨g', mk, t, L, e1, e2, hq, h1, hL, h2, h3⟩, st⟩ | ⟨q, vm₁, ⟨U', l2, c2, s2⟩, hW₁, X', ⟨g', mk, t, L, E, ce, e1, e2, hq, hce, hcv, hcl, h1, hL, h2, h3⟩, st⟩
  · dsimp only [Pt.U, Pt.locs, Pt.cells, Pt.slots] at X' e1 e2 h1 h2 h3 st
    subst h1; subst h2; subst h3
    exact Or.inl ⟨v, (T.setVm vm₁).calling g' mk As.toArray, t, U', L, hT, X', hL, e1, e2, hq, st⟩
  · dsimp only [Pt.U, Pt.locs, Pt.cells, Pt.slots] at X' e1 e2 h1 h2 h3 st hcl
    subst h1; subst h2; subst h3
    exact Or.inr ⟨q, (T.setVm vm₁).calling g' mk As.toArray, t, U', L, E, ce, hT, X', hL, e1, e2, hq, hce, hcv, vx_cls hW₁ hcl, st⟩
end
end VXH
theorem vx_ofWH {l : Launch} {y : MethodName} {ws ws' : List Cond} {rm : Room} {Pc : Array Value → State → Prop} {Qc : Array Value → State → Outcome → State → Prop} {XC : String → State → State → Prop} {mc ms : Nat} {free : Addr → Prop} {cc : ByteArray} {maxL : Nat} {ret : Option FieldType} {hh : List (Nat × Nat × Nat × Nat)}
    (hy : plainName y.cls = true) (hw : ws = Cond.codeWith y cc maxL ret hh :: ws')
    (body : ∀ p e s m args below meth c s₁, BodyLoose p l y (headSpec ws rm) cc maxL ret e s m args below meth c s₁ → c.maxLocals = maxL → Pc args s →
      W p l e (headSpec ws rm).room s m args below meth c s.heap [] 0 0 (vx_MQ below Qc XC args s mc ms free) (entryFrame m args maxL)) : vx_Met l y ws rm Pc Qc XC mc ms free := by
  refine MetFree.of_bodyS (code := cc) (maxLocals := maxL) (ret := ret) hy ?_ ?_
  · intro args s m h hn
    obtain ⟨m9, meth, c, hn9, h1, h2, h3, h4, -, h5, h6, -⟩ := Cond.codeWith_spec (atoms_spec (ws := ws) h _ (by rw [hw]; exact List.mem_cons_self))
    cases hn.symm.trans hn9
    exact ⟨meth, c, h1, h2, h3, h4, h5, h6⟩
  · intro p e s m args below meth c s₁ B hml hP _
    have hh0 : s₁.heap = s.heap := by rw [B.state]; rfl
    obtain ⟨t, a1, o, b1, b2, b3⟩ := body p e s m args below meth c s₁ B hml hP s₁ hh0 (Stand.of_body B)
    exact ⟨t, o, a1, b1, b2, b3⟩
/-! ===== END ===== -/

/-! ===== BEGIN printed: names, fields, word lists, decode rows ===== -/
def RX0 : String := "PageSkeleton$Layer"
def TX0 : u_T := fun k => match k with
  | 0 => ("PageSkeleton$Layer", "cell", "[I", true)
  | 1 => ("PageSkeleton$Layer", "levelOfRow", "[I", true)
  | 2 => ("PageSkeleton$Layer", "levelOfPage", "[I", true)
  | 3 => ("PageSkeleton$Layer", "stride", "I", false)
  | 4 => ("PageSkeleton$Layer", "atRow", "I", false)
  | 5 => ("PageSkeleton$Layer", "atPage", "I", false)
  | _ => ("PageSkeleton$Layer", "group", "I", false)
def tyX0 : Nat → FieldType := fun k => match k with
  | 0 => .array .int
  | 1 => .array .int
  | 2 => .array .int
  | 3 => .int
  | 4 => .int
  | 5 => .int
  | _ => .int
abbrev wsX00 : List Cond := u_ws RX0 TX0 7
theorem nmX0 : ∀ a, a < 7 → ∀ b, b < 7 → a ≠ b → (TX0 a).2.1 ≠ (TX0 b).2.1 := by decide +kernel
theorem tyX0_ok : ∀ k, k < 7 → parseFieldDescriptor (TX0 k).2.2.1 = some (tyX0 k) := by decide +kernel
abbrev cX0_init : ByteArray := prog_2_method_1_code
def yX0_init : MethodName := ⟨RX0, "<init>", "()V"⟩
abbrev cX0_leastCost : ByteArray := prog_2_method_2_code
def yX0_leastCost : MethodName := ⟨RX0, "leastCost", "(LPageSkeleton$Row;LPageSkeleton$Row;)I"⟩
abbrev cX0_findLevels : ByteArray := prog_2_method_3_code
def yX0_findLevels : MethodName := ⟨RX0, "findLevels", "(LPageSkeleton$Row;[I)V"⟩
abbrev cX0_best : ByteArray := prog_2_method_4_code
def yX0_best : MethodName := ⟨RX0, "best", "(LPageSkeleton$Row;LPageSkeleton$Row;II)I"⟩
abbrev cX0_packed : ByteArray := prog_2_method_5_code
def yX0_packed : MethodName := ⟨RX0, "packed", "(IIIZ)I"⟩
abbrev cX0_both : ByteArray := prog_2_method_6_code
def yX0_both : MethodName := ⟨RX0, "both", "(LPageSkeleton$Row;LPageSkeleton$Row;II)I"⟩
abbrev cX0_intoRow : ByteArray := prog_2_method_7_code
def yX0_intoRow : MethodName := ⟨RX0, "intoRow", "(LPageSkeleton$Row;LPageSkeleton$Row;II)I"⟩
abbrev cX0_intoPage : ByteArray := prog_2_method_8_code
def yX0_intoPage : MethodName := ⟨RX0, "intoPage", "(LPageSkeleton$Row;LPageSkeleton$Row;II)I"⟩
abbrev cX0_build : ByteArray := prog_2_method_9_code
def yX0_build : MethodName := ⟨RX0, "build", "(LPageSkeleton$Row;LPageSkeleton$Row;LPageSkeleton$Row;)V"⟩
abbrev cX0_leaveOut : ByteArray := prog_2_method_10_code
def yX0_leaveOut : MethodName := ⟨RX0, "leaveOut", "(LPageSkeleton$Row;LPageSkeleton$Row;ILPageSkeleton$Row;)V"⟩
abbrev cX0_fuseNext : ByteArray := prog_2_method_11_code
def yX0_fuseNext : MethodName := ⟨RX0, "fuseNext", "(LPageSkeleton$Row;LPageSkeleton$Row;ILPageSkeleton$Row;)V"⟩
abbrev cX0_putFused : ByteArray := prog_2_method_12_code
def yX0_putFused : MethodName := ⟨RX0, "putFused", "(LPageSkeleton$Row;ILPageSkeleton$Row;IIILPageSkeleton$Row;)V"⟩
def RX1 : String := "PageSkeleton$Leaf"
def TX1 : u_T := fun k => match k with
  | 0 => ("PageSkeleton$Leaf", "tokens", "[I", true)
  | 1 => ("PageSkeleton$Leaf", "codes", "[I", true)
  | 2 => ("PageSkeleton$Leaf", "count", "I", false)
  | 3 => ("PageSkeleton$Leaf", "folded", "LPageSkeleton$Row;", true)
  | 4 => ("PageSkeleton$Leaf", "steps", "[I", true)
  | 5 => ("PageSkeleton$Leaf", "stepCount", "I", false)
  | 6 => ("PageSkeleton$Leaf", "walk", "LPageSkeleton$Walk;", true)
  | _ => ("PageSkeleton$Leaf", "longest", "[I", true)
def tyX1 : Nat → FieldType := fun k => match k with
  | 0 => .array .int
  | 1 => .array .int
  | 2 => .int
  | 3 => .object "PageSkeleton$Row"
  | 4 => .array .int
  | 5 => .int
  | 6 => .object "PageSkeleton$Walk"
  | _ => .array .int
abbrev wsX10 : List Cond := u_ws RX1 TX1 8
theorem nmX1 : ∀ a, a < 8 → ∀ b, b < 8 → a ≠ b → (TX1 a).2.1 ≠ (TX1 b).2.1 := by decide +kernel
theorem tyX1_ok : ∀ k, k < 8 → parseFieldDescriptor (TX1 k).2.2.1 = some (tyX1 k) := by decide +kernel
abbrev cX1_init : ByteArray := prog_3_method_1_code
def yX1_init : MethodName := ⟨RX1, "<init>", "()V"⟩
abbrev cX1_become : ByteArray := prog_3_method_2_code
def yX1_become : MethodName := ⟨RX1, "become", "([IILPageSkeleton$Texts;)V"⟩
abbrev cX1_foldAll : ByteArray := prog_3_method_3_code
def yX1_foldAll : MethodName := ⟨RX1, "foldAll", "(LPageSkeleton$Tidier;)V"⟩
abbrev cX1_has : ByteArray := prog_3_method_4_code
def yX1_has : MethodName := ⟨RX1, "has", "(I)Z"⟩
abbrev cX1_longestCommon : ByteArray := prog_3_method_5_code
def yX1_longestCommon : MethodName := ⟨RX1, "longestCommon", "(LPageSkeleton$Leaf;)I"⟩
def RX2 : String := "PageSkeleton$Orders"
def TX2 : u_T := fun k => match k with
  | 0 => ("PageSkeleton$Orders", "order", "[I", true)
  | 1 => ("PageSkeleton$Orders", "stages", "[LPageSkeleton$Row;", true)
  | 2 => ("PageSkeleton$Orders", "spent", "[I", true)
  | 3 => ("PageSkeleton$Orders", "ends", "[[I", true)
  | 4 => ("PageSkeleton$Orders", "lengths", "[I", true)
  | 5 => ("PageSkeleton$Orders", "totals", "[I", true)
  | 6 => ("PageSkeleton$Orders", "count", "I", false)
  | 7 => ("PageSkeleton$Orders", "pageCount", "I", false)
  | _ => ("PageSkeleton$Orders", "answers", "[I", true)
def tyX2 : Nat → FieldType := fun k => match k with
  | 0 => .array .int
  | 1 => .array (.object "PageSkeleton$Row")
  | 2 => .array .int
  | 3 => .array (.array .int)
  | 4 => .array .int
  | 5 => .array .int
  | 6 => .int
  | 7 => .int
  | _ => .array .int
abbrev wsX20 : List Cond := u_ws RX2 TX2 9
theorem nmX2 : ∀ a, a < 9 → ∀ b, b < 9 → a ≠ b → (TX2 a).2.1 ≠ (TX2 b).2.1 := by decide +kernel
theorem tyX2_ok : ∀ k, k < 9 → parseFieldDescriptor (TX2 k).2.2.1 = some (tyX2 k) := by decide +kernel
abbrev cX2_init : ByteArray := prog_4_method_1_code
def yX2_init : MethodName := ⟨RX2, "<init>", "()V"⟩
abbrev cX2_goThroughAll : ByteArray := prog_4_method_2_code
def yX2_goThroughAll : MethodName := ⟨RX2, "goThroughAll", "([LPageSkeleton$Leaf;ILPageSkeleton$Layer;)V"⟩
abbrev cX2_goToNextOrder : ByteArray := prog_4_method_3_code
def yX2_goToNextOrder : MethodName := ⟨RX2, "goToNextOrder", "()I"⟩
abbrev cX2_swap : ByteArray := prog_4_method_4_code
def yX2_swap : MethodName := ⟨RX2, "swap", "(II)V"⟩
abbrev cX2_findAnswers : ByteArray := prog_4_method_5_code
def yX2_findAnswers : MethodName := ⟨RX2, "findAnswers", "()V"⟩
abbrev cX2_layNext : ByteArray := prog_4_method_6_code
def yX2_layNext : MethodName := ⟨RX2, "layNext", "(LPageSkeleton$Row;LPageSkeleton$Row;LPageSkeleton$Row;LPageSkeleton$Layer;)I"⟩
abbrev cX2_keepEnd : ByteArray := prog_4_method_7_code
def yX2_keepEnd : MethodName := ⟨RX2, "keepEnd", "(LPageSkeleton$Row;I)V"⟩
abbrev cX2_countUnlike : ByteArray := prog_4_method_8_code
def yX2_countUnlike : MethodName := ⟨RX2, "countUnlike", "()I"⟩
abbrev cX2_countLike : ByteArray := prog_4_method_9_code
def yX2_countLike : MethodName := ⟨RX2, "countLike", "(II)I"⟩
abbrev cX2_sameEnds : ByteArray := prog_4_method_10_code
def yX2_sameEnds : MethodName := ⟨RX2, "sameEnds", "(II)Z"⟩
def RX3 : String := "PageSkeleton$Past"
def TX3 : u_T := fun k => match k with
  | 0 => ("PageSkeleton$Past", "codes", "[[I", true)
  | 1 => ("PageSkeleton$Past", "lengths", "[I", true)
  | 2 => ("PageSkeleton$Past", "costs", "[I", true)
  | 3 => ("PageSkeleton$Past", "next", "I", false)
  | _ => ("PageSkeleton$Past", "count", "I", false)
def tyX3 : Nat → FieldType := fun k => match k with
  | 0 => .array (.array .int)
  | 1 => .array .int
  | 2 => .array .int
  | 3 => .int
  | _ => .int
abbrev wsX30 : List Cond := u_ws RX3 TX3 5
theorem nmX3 : ∀ a, a < 5 → ∀ b, b < 5 → a ≠ b → (TX3 a).2.1 ≠ (TX3 b).2.1 := by decide +kernel
theorem tyX3_ok : ∀ k, k < 5 → parseFieldDescriptor (TX3 k).2.2.1 = some (tyX3 k) := by decide +kernel
abbrev cX3_init : ByteArray := prog_5_method_1_code
def yX3_init : MethodName := ⟨RX3, "<init>", "()V"⟩
abbrev cX3_save : ByteArray := prog_5_method_2_code
def yX3_save : MethodName := ⟨RX3, "save", "(LPageSkeleton$Row;I)V"⟩
abbrev cX3_restore : ByteArray := prog_5_method_3_code
def yX3_restore : MethodName := ⟨RX3, "restore", "(LPageSkeleton$Row;)I"⟩
def RX4 : String := "PageSkeleton$Row"
def TX4 : u_T := fun k => match k with
  | 0 => ("PageSkeleton$Row", "code", "[I", true)
  | 1 => ("PageSkeleton$Row", "mate", "[I", true)
  | 2 => ("PageSkeleton$Row", "ahead", "[I", true)
  | 3 => ("PageSkeleton$Row", "number", "[I", true)
  | 4 => ("PageSkeleton$Row", "place", "[I", true)
  | 5 => ("PageSkeleton$Row", "length", "I", false)
  | 6 => ("PageSkeleton$Row", "nodes", "I", false)
  | _ => ("PageSkeleton$Row", "overfull", "Z", false)
def tyX4 : Nat → FieldType := fun k => match k with
  | 0 => .array .int
  | 1 => .array .int
  | 2 => .array .int
  | 3 => .array .int
  | 4 => .array .int
  | 5 => .int
  | 6 => .int
  | _ => .boolean
abbrev wsX40 : List Cond := u_ws RX4 TX4 8
theorem nmX4 : ∀ a, a < 8 → ∀ b, b < 8 → a ≠ b → (TX4 a).2.1 ≠ (TX4 b).2.1 := by decide +kernel
theorem tyX4_ok : ∀ k, k < 8 → parseFieldDescriptor (TX4 k).2.2.1 = some (tyX4 k) := by decide +kernel
abbrev cX4_init : ByteArray := prog_6_method_1_code
def yX4_init : MethodName := ⟨RX4, "<init>", "(I)V"⟩
abbrev cX4_empty : ByteArray := prog_6_method_2_code
def yX4_empty : MethodName := ⟨RX4, "empty", "()V"⟩
abbrev cX4_put : ByteArray := prog_6_method_3_code
def yX4_put : MethodName := ⟨RX4, "put", "(I)V"⟩
abbrev cX4_putRange : ByteArray := prog_6_method_4_code
def yX4_putRange : MethodName := ⟨RX4, "putRange", "(LPageSkeleton$Row;II)V"⟩
abbrev cX4_take : ByteArray := prog_6_method_5_code
def yX4_take : MethodName := ⟨RX4, "take", "(LPageSkeleton$Row;)V"⟩
abbrev cX4_load : ByteArray := prog_6_method_6_code
def yX4_load : MethodName := ⟨RX4, "load", "([II)V"⟩
abbrev cX4_seal : ByteArray := prog_6_method_7_code
def yX4_seal : MethodName := ⟨RX4, "seal", "()V"⟩
abbrev cX4_size : ByteArray := prog_6_method_8_code
def yX4_size : MethodName := ⟨RX4, "size", "()I"⟩
abbrev cX4_sizeAt : ByteArray := prog_6_method_9_code
def yX4_sizeAt : MethodName := ⟨RX4, "sizeAt", "(I)I"⟩
abbrev cX4_after : ByteArray := prog_6_method_10_code
def yX4_after : MethodName := ⟨RX4, "after", "(I)I"⟩
abbrev cX4_endsAt : ByteArray := prog_6_method_11_code
def yX4_endsAt : MethodName := ⟨RX4, "endsAt", "(I)Z"⟩
abbrev cX4_codeOf : ByteArray := prog_6_method_12_code
def yX4_codeOf : MethodName := ⟨RX4, "codeOf", "(I)I"⟩
abbrev cX4_countOf : ByteArray := prog_6_method_13_code
def yX4_countOf : MethodName := ⟨RX4, "countOf", "(I)I"⟩
abbrev cX4_matches : ByteArray := prog_6_method_14_code
def yX4_matches : MethodName := ⟨RX4, "matches", "(ILPageSkeleton$Row;II)Z"⟩
abbrev cX4_costOfRange : ByteArray := prog_6_method_15_code
def yX4_costOfRange : MethodName := ⟨RX4, "costOfRange", "(ILPageSkeleton$Row;II)I"⟩
abbrev cX4_fuseInto : ByteArray := prog_6_method_16_code
def yX4_fuseInto : MethodName := ⟨RX4, "fuseInto", "(III)V"⟩
abbrev cX4_remove : ByteArray := prog_6_method_17_code
def yX4_remove : MethodName := ⟨RX4, "remove", "(II)V"⟩
abbrev cX4_insert : ByteArray := prog_6_method_18_code
def yX4_insert : MethodName := ⟨RX4, "insert", "(II)V"⟩
abbrev cX4_deepestRepeat : ByteArray := prog_6_method_19_code
def yX4_deepestRepeat : MethodName := ⟨RX4, "deepestRepeat", "()I"⟩
abbrev cX4_countLeaves : ByteArray := prog_6_method_20_code
def yX4_countLeaves : MethodName := ⟨RX4, "countLeaves", "(ZZZ)I"⟩
abbrev cX4_tellNode : ByteArray := prog_6_method_21_code
def yX4_tellNode : MethodName := ⟨RX4, "tellNode", "(II)I"⟩
abbrev cX4_sortAt : ByteArray := prog_6_method_22_code
def yX4_sortAt : MethodName := ⟨RX4, "sortAt", "(I)I"⟩
abbrev cX4_depthOf : ByteArray := prog_6_method_23_code
def yX4_depthOf : MethodName := ⟨RX4, "depthOf", "(I)I"⟩
abbrev cX4_parentOf : ByteArray := prog_6_method_24_code
def yX4_parentOf : MethodName := ⟨RX4, "parentOf", "(I)I"⟩
abbrev cX4_itemsIn : ByteArray := prog_6_method_25_code
def yX4_itemsIn : MethodName := ⟨RX4, "itemsIn", "(I)I"⟩
def RX5 : String := "PageSkeleton$Texts"
def TX5 : u_T := fun k => match k with
  | 0 => ("PageSkeleton$Texts", "tape", "[I", true)
  | 1 => ("PageSkeleton$Texts", "bytes", "I", false)
  | 2 => ("PageSkeleton$Texts", "keys", "[I", true)
  | 3 => ("PageSkeleton$Texts", "tokens", "I", false)
  | 4 => ("PageSkeleton$Texts", "found", "[I", true)
  | 5 => ("PageSkeleton$Texts", "foundCount", "I", false)
  | 6 => ("PageSkeleton$Texts", "faultPlace", "I", false)
  | _ => ("PageSkeleton$Texts", "at", "I", false)
def tyX5 : Nat → FieldType := fun k => match k with
  | 0 => .array .int
  | 1 => .int
  | 2 => .array .int
  | 3 => .int
  | 4 => .array .int
  | 5 => .int
  | 6 => .int
  | _ => .int
abbrev wsX50 : List Cond := u_ws RX5 TX5 8
theorem nmX5 : ∀ a, a < 8 → ∀ b, b < 8 → a ≠ b → (TX5 a).2.1 ≠ (TX5 b).2.1 := by decide +kernel
theorem tyX5_ok : ∀ k, k < 8 → parseFieldDescriptor (TX5 k).2.2.1 = some (tyX5 k) := by decide +kernel
abbrev cX5_init : ByteArray := prog_7_method_1_code
def yX5_init : MethodName := ⟨RX5, "<init>", "()V"⟩
abbrev cX5_feedNumber : ByteArray := prog_7_method_2_code
def yX5_feedNumber : MethodName := ⟨RX5, "feedNumber", "(I)V"⟩
abbrev cX5_readText : ByteArray := prog_7_method_3_code
def yX5_readText : MethodName := ⟨RX5, "readText", "(I)I"⟩
abbrev cX5_readNext : ByteArray := prog_7_method_4_code
def yX5_readNext : MethodName := ⟨RX5, "readNext", "(I)I"⟩
abbrev cX5_readSort : ByteArray := prog_7_method_5_code
def yX5_readSort : MethodName := ⟨RX5, "readSort", "(I)I"⟩
abbrev cX5_readName : ByteArray := prog_7_method_6_code
def yX5_readName : MethodName := ⟨RX5, "readName", "(I)I"⟩
abbrev cX5_letterAt : ByteArray := prog_7_method_7_code
def yX5_letterAt : MethodName := ⟨RX5, "letterAt", "(I)I"⟩
abbrev cX5_keep : ByteArray := prog_7_method_8_code
def yX5_keep : MethodName := ⟨RX5, "keep", "(II)I"⟩
abbrev cX5_faulty : ByteArray := prog_7_method_9_code
def yX5_faulty : MethodName := ⟨RX5, "faulty", "(II)I"⟩
abbrev cX5_sortOf : ByteArray := prog_7_method_10_code
def yX5_sortOf : MethodName := ⟨RX5, "sortOf", "(I)I"⟩
abbrev cX5_lettersOf : ByteArray := prog_7_method_11_code
def yX5_lettersOf : MethodName := ⟨RX5, "lettersOf", "(I)I"⟩
abbrev cX5_letterOf : ByteArray := prog_7_method_12_code
def yX5_letterOf : MethodName := ⟨RX5, "letterOf", "(II)I"⟩
def RX6 : String := "PageSkeleton$Tidier"
def TX6 : u_T := fun k => match k with
  | 0 => ("PageSkeleton$Tidier", "begin", "[I", true)
  | 1 => ("PageSkeleton$Tidier", "firmAhead", "[I", true)
  | 2 => ("PageSkeleton$Tidier", "items", "I", false)
  | 3 => ("PageSkeleton$Tidier", "foldedLength", "I", false)
  | 4 => ("PageSkeleton$Tidier", "foldedPlace", "I", false)
  | _ => ("PageSkeleton$Tidier", "foldedTimes", "I", false)
def tyX6 : Nat → FieldType := fun k => match k with
  | 0 => .array .int
  | 1 => .array .int
  | 2 => .int
  | 3 => .int
  | 4 => .int
  | _ => .int
abbrev wsX60 : List Cond := u_ws RX6 TX6 6
theorem nmX6 : ∀ a, a < 6 → ∀ b, b < 6 → a ≠ b → (TX6 a).2.1 ≠ (TX6 b).2.1 := by decide +kernel
theorem tyX6_ok : ∀ k, k < 6 → parseFieldDescriptor (TX6 k).2.2.1 = some (tyX6 k) := by decide +kernel
abbrev cX6_init : ByteArray := prog_8_method_1_code
def yX6_init : MethodName := ⟨RX6, "<init>", "()V"⟩
abbrev cX6_tidyAll : ByteArray := prog_8_method_2_code
def yX6_tidyAll : MethodName := ⟨RX6, "tidyAll", "(LPageSkeleton$Row;)I"⟩
abbrev cX6_tidyRange : ByteArray := prog_8_method_3_code
def yX6_tidyRange : MethodName := ⟨RX6, "tidyRange", "(LPageSkeleton$Row;II)I"⟩
abbrev cX6_joinTwins : ByteArray := prog_8_method_4_code
def yX6_joinTwins : MethodName := ⟨RX6, "joinTwins", "(LPageSkeleton$Row;II)Z"⟩
abbrev cX6_joinAhead : ByteArray := prog_8_method_5_code
def yX6_joinAhead : MethodName := ⟨RX6, "joinAhead", "(LPageSkeleton$Row;II)Z"⟩
abbrev cX6_joinBehind : ByteArray := prog_8_method_6_code
def yX6_joinBehind : MethodName := ⟨RX6, "joinBehind", "(LPageSkeleton$Row;II)Z"⟩
abbrev cX6_join : ByteArray := prog_8_method_7_code
def yX6_join : MethodName := ⟨RX6, "join", "(LPageSkeleton$Row;III)Z"⟩
abbrev cX6_foldOnce : ByteArray := prog_8_method_8_code
def yX6_foldOnce : MethodName := ⟨RX6, "foldOnce", "(LPageSkeleton$Row;II)Z"⟩
abbrev cX6_findItems : ByteArray := prog_8_method_9_code
def yX6_findItems : MethodName := ⟨RX6, "findItems", "(LPageSkeleton$Row;II)V"⟩
abbrev cX6_foldAt : ByteArray := prog_8_method_10_code
def yX6_foldAt : MethodName := ⟨RX6, "foldAt", "(LPageSkeleton$Row;III)I"⟩
def RX7 : String := "PageSkeleton$Walk"
def TX7 : u_T := fun k => match k with
  | 0 => ("PageSkeleton$Walk", "stamp", "I", false)
  | 1 => ("PageSkeleton$Walk", "wayCount", "I", false)
  | 2 => ("PageSkeleton$Walk", "takers", "[I", true)
  | 3 => ("PageSkeleton$Walk", "there", "[I", true)
  | _ => ("PageSkeleton$Walk", "passed", "[I", true)
def tyX7 : Nat → FieldType := fun k => match k with
  | 0 => .int
  | 1 => .int
  | 2 => .array .int
  | 3 => .array .int
  | _ => .array .int
abbrev wsX70 : List Cond := u_ws RX7 TX7 5
theorem nmX7 : ∀ a, a < 5 → ∀ b, b < 5 → a ≠ b → (TX7 a).2.1 ≠ (TX7 b).2.1 := by decide +kernel
theorem tyX7_ok : ∀ k, k < 5 → parseFieldDescriptor (TX7 k).2.2.1 = some (tyX7 k) := by decide +kernel
abbrev cX7_init : ByteArray := prog_9_method_1_code
def yX7_init : MethodName := ⟨RX7, "<init>", "()V"⟩
abbrev cX7_isThrough : ByteArray := prog_9_method_2_code
def yX7_isThrough : MethodName := ⟨RX7, "isThrough", "()Z"⟩
def RX8 : String := "PageSkeleton$Walker"
def TX8 : u_T := fun k => match k with
  | 0 => ("PageSkeleton$Walker", "answer", "[I", true)
  | _ => ("PageSkeleton$Walker", "inward", "[I", true)
def tyX8 : Nat → FieldType := fun k => match k with
  | 0 => .array .int
  | _ => .array .int
abbrev wsX80 : List Cond := u_ws RX8 TX8 2
theorem nmX8 : ∀ a, a < 2 → ∀ b, b < 2 → a ≠ b → (TX8 a).2.1 ≠ (TX8 b).2.1 := by decide +kernel
theorem tyX8_ok : ∀ k, k < 2 → parseFieldDescriptor (TX8 k).2.2.1 = some (tyX8 k) := by decide +kernel
abbrev cX8_init : ByteArray := prog_10_method_1_code
def yX8_init : MethodName := ⟨RX8, "<init>", "()V"⟩
abbrev cX8_goThrough : ByteArray := prog_10_method_2_code
def yX8_goThrough : MethodName := ⟨RX8, "goThrough", "(LPageSkeleton$Row;[III)I"⟩
abbrev cX8_atEnd : ByteArray := prog_10_method_3_code
def yX8_atEnd : MethodName := ⟨RX8, "atEnd", "(III)I"⟩
abbrev cX8_nothing : ByteArray := prog_10_method_4_code
def yX8_nothing : MethodName := ⟨RX8, "nothing", "(II)I"⟩
abbrev cX8_either : ByteArray := prog_10_method_5_code
def yX8_either : MethodName := ⟨RX8, "either", "(III)I"⟩
abbrev cX8_goInward : ByteArray := prog_10_method_6_code
def yX8_goInward : MethodName := ⟨RX8, "goInward", "(LPageSkeleton$Row;I[IIII)V"⟩
abbrev cX8_takes : ByteArray := prog_10_method_7_code
def yX8_takes : MethodName := ⟨RX8, "takes", "(II)Z"⟩
abbrev cX8_goOn : ByteArray := prog_10_method_8_code
def yX8_goOn : MethodName := ⟨RX8, "goOn", "(LPageSkeleton$Row;III)V"⟩
abbrev cX8_walk : ByteArray := prog_10_method_9_code
def yX8_walk : MethodName := ⟨RX8, "walk", "(LPageSkeleton$Row;[IILPageSkeleton$Walk;)V"⟩
abbrev cX8_chooseAt : ByteArray := prog_10_method_10_code
def yX8_chooseAt : MethodName := ⟨RX8, "chooseAt", "(LPageSkeleton$Row;IILPageSkeleton$Walk;)I"⟩
def RX9 : String := "PageSkeleton"
def TX9 : u_T := fun k => match k with
  | 0 => ("PageSkeleton", "texts", "LPageSkeleton$Texts;", true)
  | 1 => ("PageSkeleton", "leaves", "[LPageSkeleton$Leaf;", true)
  | 2 => ("PageSkeleton", "leafCount", "I", false)
  | 3 => ("PageSkeleton", "skeleton", "LPageSkeleton$Row;", true)
  | 4 => ("PageSkeleton", "trial", "LPageSkeleton$Row;", true)
  | 5 => ("PageSkeleton", "costs", "I", false)
  | 6 => ("PageSkeleton", "stamp", "I", false)
  | 7 => ("PageSkeleton", "past", "LPageSkeleton$Past;", true)
  | 8 => ("PageSkeleton", "tidier", "LPageSkeleton$Tidier;", true)
  | 9 => ("PageSkeleton", "layer", "LPageSkeleton$Layer;", true)
  | 10 => ("PageSkeleton", "walker", "LPageSkeleton$Walker;", true)
  | 11 => ("PageSkeleton", "sorted", "LPageSkeleton$Orders;", true)
  | 12 => ("PageSkeleton", "whatever", "[I", true)
  | 13 => ("PageSkeleton", "seen", "[I", true)
  | _ => ("PageSkeleton", "refused", "[I", true)
def tyX9 : Nat → FieldType := fun k => match k with
  | 0 => .object "PageSkeleton$Texts"
  | 1 => .array (.object "PageSkeleton$Leaf")
  | 2 => .int
  | 3 => .object "PageSkeleton$Row"
  | 4 => .object "PageSkeleton$Row"
  | 5 => .int
  | 6 => .int
  | 7 => .object "PageSkeleton$Past"
  | 8 => .object "PageSkeleton$Tidier"
  | 9 => .object "PageSkeleton$Layer"
  | 10 => .object "PageSkeleton$Walker"
  | 11 => .object "PageSkeleton$Orders"
  | 12 => .array .int
  | 13 => .array .int
  | _ => .array .int
abbrev wsX90 : List Cond := u_ws RX9 TX9 15
theorem nmX9 : ∀ a, a < 15 → ∀ b, b < 15 → a ≠ b → (TX9 a).2.1 ≠ (TX9 b).2.1 := by decide +kernel
theorem tyX9_ok : ∀ k, k < 15 → parseFieldDescriptor (TX9 k).2.2.1 = some (tyX9 k) := by decide +kernel
abbrev cX9_init : ByteArray := prog_1_method_1_code
def yX9_init : MethodName := ⟨RX9, "<init>", "()V"⟩
abbrev cX9_feed : ByteArray := prog_1_method_2_code
def yX9_feed : MethodName := ⟨RX9, "feed", "(IIIII)I"⟩
abbrev cX9_page : ByteArray := prog_1_method_3_code
def yX9_page : MethodName := ⟨RX9, "page", "(I)I"⟩
abbrev cX9_fault : ByteArray := prog_1_method_4_code
def yX9_fault : MethodName := ⟨RX9, "fault", "()I"⟩
abbrev cX9_lay : ByteArray := prog_1_method_5_code
def yX9_lay : MethodName := ⟨RX9, "lay", "(I)I"⟩
abbrev cX9_tidy : ByteArray := prog_1_method_6_code
def yX9_tidy : MethodName := ⟨RX9, "tidy", "()I"⟩
abbrev cX9_tidied : ByteArray := prog_1_method_7_code
def yX9_tidied : MethodName := ⟨RX9, "tidied", "(I)I"⟩
abbrev cX9_undo : ByteArray := prog_1_method_8_code
def yX9_undo : MethodName := ⟨RX9, "undo", "()I"⟩
abbrev cX9_clear : ByteArray := prog_1_method_9_code
def yX9_clear : MethodName := ⟨RX9, "clear", "()I"⟩
abbrev cX9_told : ByteArray := prog_1_method_10_code
def yX9_told : MethodName := ⟨RX9, "told", "(I)I"⟩
abbrev cX9_pageOf : ByteArray := prog_1_method_11_code
def yX9_pageOf : MethodName := ⟨RX9, "pageOf", "(II)I"⟩
abbrev cX9_token : ByteArray := prog_1_method_12_code
def yX9_token : MethodName := ⟨RX9, "token", "(II)I"⟩
abbrev cX9_tokenOf : ByteArray := prog_1_method_13_code
def yX9_tokenOf : MethodName := ⟨RX9, "tokenOf", "(II)I"⟩
abbrev cX9_node : ByteArray := prog_1_method_14_code
def yX9_node : MethodName := ⟨RX9, "node", "(II)I"⟩
abbrev cX9_pageNode : ByteArray := prog_1_method_15_code
def yX9_pageNode : MethodName := ⟨RX9, "pageNode", "(III)I"⟩
abbrev cX9_fits : ByteArray := prog_1_method_16_code
def yX9_fits : MethodName := ⟨RX9, "fits", "(I)Z"⟩
abbrev cX9_reach : ByteArray := prog_1_method_17_code
def yX9_reach : MethodName := ⟨RX9, "reach", "(I)I"⟩
abbrev cX9_ways : ByteArray := prog_1_method_18_code
def yX9_ways : MethodName := ⟨RX9, "ways", "(I)I"⟩
abbrev cX9_times : ByteArray := prog_1_method_19_code
def yX9_times : MethodName := ⟨RX9, "times", "(II)I"⟩
abbrev cX9_passes : ByteArray := prog_1_method_20_code
def yX9_passes : MethodName := ⟨RX9, "passes", "(II)I"⟩
abbrev cX9_value : ByteArray := prog_1_method_21_code
def yX9_value : MethodName := ⟨RX9, "value", "(III)I"⟩
abbrev cX9_taker : ByteArray := prog_1_method_22_code
def yX9_taker : MethodName := ⟨RX9, "taker", "(II)I"⟩
abbrev cX9_unlike : ByteArray := prog_1_method_23_code
def yX9_unlike : MethodName := ⟨RX9, "unlike", "(I)I"⟩
abbrev cX9_would : ByteArray := prog_1_method_24_code
def yX9_would : MethodName := ⟨RX9, "would", "(II)I"⟩
abbrev cX9_distance : ByteArray := prog_1_method_25_code
def yX9_distance : MethodName := ⟨RX9, "distance", "(II)I"⟩
abbrev cX9_nearest : ByteArray := prog_1_method_26_code
def yX9_nearest : MethodName := ⟨RX9, "nearest", "(I)I"⟩
abbrev cX9_orders : ByteArray := prog_1_method_27_code
def yX9_orders : MethodName := ⟨RX9, "orders", "(I)I"⟩
abbrev cX9_shortest : ByteArray := prog_1_method_28_code
def yX9_shortest : MethodName := ⟨RX9, "shortest", "()I"⟩
abbrev cX9_firm : ByteArray := prog_1_method_29_code
def yX9_firm : MethodName := ⟨RX9, "firm", "(I)I"⟩
abbrev cX9_alike : ByteArray := prog_1_method_30_code
def yX9_alike : MethodName := ⟨RX9, "alike", "(II)Z"⟩
abbrev cX9_cuts : ByteArray := prog_1_method_31_code
def yX9_cuts : MethodName := ⟨RX9, "cuts", "(I)I"⟩
abbrev cX9_derived : ByteArray := prog_1_method_32_code
def yX9_derived : MethodName := ⟨RX9, "derived", "(I)I"⟩
abbrev cX9_common : ByteArray := prog_1_method_33_code
def yX9_common : MethodName := ⟨RX9, "common", "(II)I"⟩
abbrev cX9_similar : ByteArray := prog_1_method_34_code
def yX9_similar : MethodName := ⟨RX9, "similar", "(II)Z"⟩
abbrev cX9_step : ByteArray := prog_1_method_35_code
def yX9_step : MethodName := ⟨RX9, "step", "(III)I"⟩
abbrev cX9_users : ByteArray := prog_1_method_36_code
def yX9_users : MethodName := ⟨RX9, "users", "(I)I"⟩
abbrev cX9_greatest : ByteArray := prog_1_method_37_code
def yX9_greatest : MethodName := ⟨RX9, "greatest", "(I)I"⟩
abbrev cX9_fitting : ByteArray := prog_1_method_38_code
def yX9_fitting : MethodName := ⟨RX9, "fitting", "()I"⟩
abbrev cX9_status : ByteArray := prog_1_method_39_code
def yX9_status : MethodName := ⟨RX9, "status", "(I)I"⟩
abbrev cX9_needElement : ByteArray := prog_1_method_40_code
def yX9_needElement : MethodName := ⟨RX9, "needElement", "(Z)V"⟩
abbrev cX9_needArgument : ByteArray := prog_1_method_41_code
def yX9_needArgument : MethodName := ⟨RX9, "needArgument", "(Z)V"⟩
abbrev cX9_needState : ByteArray := prog_1_method_42_code
def yX9_needState : MethodName := ⟨RX9, "needState", "(Z)V"⟩
abbrev cX9_needPage : ByteArray := prog_1_method_43_code
def yX9_needPage : MethodName := ⟨RX9, "needPage", "(I)V"⟩
abbrev cX9_needPlace : ByteArray := prog_1_method_44_code
def yX9_needPlace : MethodName := ⟨RX9, "needPlace", "(II)V"⟩
abbrev cX9_needNode : ByteArray := prog_1_method_45_code
def yX9_needNode : MethodName := ⟨RX9, "needNode", "(LPageSkeleton$Row;I)V"⟩
abbrev cX9_tryToLay : ByteArray := prog_1_method_46_code
def yX9_tryToLay : MethodName := ⟨RX9, "tryToLay", "(I)I"⟩
abbrev cX9_tryToTidy : ByteArray := prog_1_method_47_code
def yX9_tryToTidy : MethodName := ⟨RX9, "tryToTidy", "()I"⟩
abbrev cX9_costBetween : ByteArray := prog_1_method_48_code
def yX9_costBetween : MethodName := ⟨RX9, "costBetween", "(II)I"⟩
abbrev cX9_walkOf : ByteArray := prog_1_method_49_code
def yX9_walkOf : MethodName := ⟨RX9, "walkOf", "(I)LPageSkeleton$Walk;"⟩
abbrev cX9_countFitting : ByteArray := prog_1_method_50_code
def yX9_countFitting : MethodName := ⟨RX9, "countFitting", "(LPageSkeleton$Row;)I"⟩
abbrev cX9_pagesWith : ByteArray := prog_1_method_51_code
def yX9_pagesWith : MethodName := ⟨RX9, "pagesWith", "(I)I"⟩
abbrev cX9_seeWords : ByteArray := prog_1_method_52_code
def yX9_seeWords : MethodName := ⟨RX9, "seeWords", "(II)I"⟩
abbrev cX9_isTag : ByteArray := prog_1_method_53_code
def yX9_isTag : MethodName := ⟨RX9, "isTag", "(I)Z"⟩
abbrev cX9_isWord : ByteArray := prog_1_method_54_code
def yX9_isWord : MethodName := ⟨RX9, "isWord", "(I)Z"⟩
abbrev cX9_isLeaf : ByteArray := prog_1_method_55_code
def yX9_isLeaf : MethodName := ⟨RX9, "isLeaf", "(I)Z"⟩
abbrev cX9_isOpen : ByteArray := prog_1_method_56_code
def yX9_isOpen : MethodName := ⟨RX9, "isOpen", "(I)Z"⟩
abbrev cX9_areAlike : ByteArray := prog_1_method_57_code
def yX9_areAlike : MethodName := ⟨RX9, "areAlike", "(II)Z"⟩
abbrev cX9_fused : ByteArray := prog_1_method_58_code
def yX9_fused : MethodName := ⟨RX9, "fused", "(II)I"⟩
abbrev cX9_costOfFusing : ByteArray := prog_1_method_59_code
def yX9_costOfFusing : MethodName := ⟨RX9, "costOfFusing", "(II)I"⟩
def RX10 : String := "PageSkeletonModel"
def TX10 : u_T := fun k => match k with
  | 0 => ("PageSkeletonModel", "thrown", "I", false)
  | 1 => ("PageSkeletonModel", "refused", "[I", true)
  | 2 => ("PageSkeletonModel", "tape", "I", false)
  | 3 => ("PageSkeletonModel", "size", "I", false)
  | 4 => ("PageSkeletonModel", "at", "I", false)
  | 5 => ("PageSkeletonModel", "place", "I", false)
  | 6 => ("PageSkeletonModel", "fault", "I", false)
  | 7 => ("PageSkeletonModel", "faultAt", "I", false)
  | 8 => ("PageSkeletonModel", "fed", "[I", true)
  | 9 => ("PageSkeletonModel", "unlike", "I", false)
  | 10 => ("PageSkeletonModel", "pages", "I", false)
  | 11 => ("PageSkeletonModel", "tokenSort", "[I", true)
  | 12 => ("PageSkeletonModel", "tokenLetters", "[I", true)
  | 13 => ("PageSkeletonModel", "tokenLong", "[I", true)
  | 14 => ("PageSkeletonModel", "page", "[[I", true)
  | 15 => ("PageSkeletonModel", "pageLong", "[I", true)
  | 16 => ("PageSkeletonModel", "fold", "[[[I", true)
  | 17 => ("PageSkeletonModel", "folds", "[I", true)
  | 18 => ("PageSkeletonModel", "sort", "[[I", true)
  | 19 => ("PageSkeletonModel", "token", "[[I", true)
  | 20 => ("PageSkeletonModel", "span", "[[I", true)
  | 21 => ("PageSkeletonModel", "nodes", "[I", true)
  | 22 => ("PageSkeletonModel", "hasSkeleton", "Z", false)
  | 23 => ("PageSkeletonModel", "backs", "I", false)
  | 24 => ("PageSkeletonModel", "costs", "I", false)
  | 25 => ("PageSkeletonModel", "backCost", "[I", true)
  | 26 => ("PageSkeletonModel", "backHad", "[Z", true)
  | 27 => ("PageSkeletonModel", "letters", "I", false)
  | 28 => ("PageSkeletonModel", "longs", "I", false)
  | 29 => ("PageSkeletonModel", "rowS", "[[I", true)
  | 30 => ("PageSkeletonModel", "rowP", "[[I", true)
  | 31 => ("PageSkeletonModel", "found", "[I", true)
  | 32 => ("PageSkeletonModel", "least", "[[[I", true)
  | 33 => ("PageSkeletonModel", "isOfOptions", "Z", false)
  | 34 => ("PageSkeletonModel", "treeS", "[I", true)
  | 35 => ("PageSkeletonModel", "treeP", "[I", true)
  | 36 => ("PageSkeletonModel", "manyS", "[I", true)
  | 37 => ("PageSkeletonModel", "manyP", "[I", true)
  | 38 => ("PageSkeletonModel", "tidied", "I", false)
  | 39 => ("PageSkeletonModel", "states", "I", false)
  | 40 => ("PageSkeletonModel", "stateNode", "[I", true)
  | 41 => ("PageSkeletonModel", "other", "[I", true)
  | 42 => ("PageSkeletonModel", "isEnd", "[Z", true)
  | 43 => ("PageSkeletonModel", "can", "[[I", true)
  | 44 => ("PageSkeletonModel", "opened", "[I", true)
  | 45 => ("PageSkeletonModel", "isOn", "[Z", true)
  | 46 => ("PageSkeletonModel", "isNext", "[Z", true)
  | 47 => ("PageSkeletonModel", "often", "[I", true)
  | 48 => ("PageSkeletonModel", "passed", "[I", true)
  | 49 => ("PageSkeletonModel", "takerOf", "[I", true)
  | 50 => ("PageSkeletonModel", "isTaken", "[Z", true)
  | 51 => ("PageSkeletonModel", "order", "[I", true)
  | _ => ("PageSkeletonModel", "orderCost", "[I", true)
def tyX10 : Nat → FieldType := fun k => match k with
  | 0 => .int
  | 1 => .array .int
  | 2 => .int
  | 3 => .int
  | 4 => .int
  | 5 => .int
  | 6 => .int
  | 7 => .int
  | 8 => .array .int
  | 9 => .int
  | 10 => .int
  | 11 => .array .int
  | 12 => .array .int
  | 13 => .array .int
  | 14 => .array (.array .int)
  | 15 => .array .int
  | 16 => .array (.array (.array .int))
  | 17 => .array .int
  | 18 => .array (.array .int)
  | 19 => .array (.array .int)
  | 20 => .array (.array .int)
  | 21 => .array .int
  | 22 => .boolean
  | 23 => .int
  | 24 => .int
  | 25 => .array .int
  | 26 => .array .boolean
  | 27 => .int
  | 28 => .int
  | 29 => .array (.array .int)
  | 30 => .array (.array .int)
  | 31 => .array .int
  | 32 => .array (.array (.array .int))
  | 33 => .boolean
  | 34 => .array .int
  | 35 => .array .int
  | 36 => .array .int
  | 37 => .array .int
  | 38 => .int
  | 39 => .int
  | 40 => .array .int
  | 41 => .array .int
  | 42 => .array .boolean
  | 43 => .array (.array .int)
  | 44 => .array .int
  | 45 => .array .boolean
  | 46 => .array .boolean
  | 47 => .array .int
  | 48 => .array .int
  | 49 => .array .int
  | 50 => .array .boolean
  | 51 => .array .int
  | _ => .array .int
abbrev wsX100 : List Cond := u_ws RX10 TX10 53
theorem nmX10 : ∀ a, a < 53 → ∀ b, b < 53 → a ≠ b → (TX10 a).2.1 ≠ (TX10 b).2.1 := by decide +kernel
theorem tyX10_ok : ∀ k, k < 53 → parseFieldDescriptor (TX10 k).2.2.1 = some (tyX10 k) := by decide +kernel
abbrev cX10_init : ByteArray := prog_12_method_1_code
def yX10_init : MethodName := ⟨RX10, "<init>", "()V"⟩
abbrev cX10_thrown : ByteArray := prog_12_method_2_code
def yX10_thrown : MethodName := ⟨RX10, "thrown", "()I"⟩
abbrev cX10_bad : ByteArray := prog_12_method_3_code
def yX10_bad : MethodName := ⟨RX10, "bad", "(ZII)Z"⟩
abbrev cX10_in : ByteArray := prog_12_method_4_code
def yX10_in : MethodName := ⟨RX10, "in", "(III)Z"⟩
abbrev cX10_less : ByteArray := prog_12_method_5_code
def yX10_less : MethodName := ⟨RX10, "less", "(II)I"⟩
abbrev cX10_more : ByteArray := prog_12_method_6_code
def yX10_more : MethodName := ⟨RX10, "more", "(II)I"⟩
abbrev cX10_feed : ByteArray := prog_12_method_7_code
def yX10_feed : MethodName := ⟨RX10, "feed", "(IIIII)I"⟩
abbrev cX10_byteAt : ByteArray := prog_12_method_8_code
def yX10_byteAt : MethodName := ⟨RX10, "byteAt", "(I)I"⟩
abbrev cX10_isSmall : ByteArray := prog_12_method_9_code
def yX10_isSmall : MethodName := ⟨RX10, "isSmall", "(I)Z"⟩
abbrev cX10_wrong : ByteArray := prog_12_method_10_code
def yX10_wrong : MethodName := ⟨RX10, "wrong", "(II)V"⟩
abbrev cX10_blanks : ByteArray := prog_12_method_11_code
def yX10_blanks : MethodName := ⟨RX10, "blanks", "()I"⟩
abbrev cX10_readsName : ByteArray := prog_12_method_12_code
def yX10_readsName : MethodName := ⟨RX10, "readsName", "()V"⟩
abbrev cX10_readsSort : ByteArray := prog_12_method_13_code
def yX10_readsSort : MethodName := ⟨RX10, "readsSort", "()I"⟩
abbrev cX10_readsToken : ByteArray := prog_12_method_14_code
def yX10_readsToken : MethodName := ⟨RX10, "readsToken", "()I"⟩
abbrev cX10_page : ByteArray := prog_12_method_15_code
def yX10_page : MethodName := ⟨RX10, "page", "(I)I"⟩
abbrev cX10_fault : ByteArray := prog_12_method_16_code
def yX10_fault : MethodName := ⟨RX10, "fault", "()I"⟩
abbrev cX10_empties : ByteArray := prog_12_method_17_code
def yX10_empties : MethodName := ⟨RX10, "empties", "(I)V"⟩
abbrev cX10_adds : ByteArray := prog_12_method_18_code
def yX10_adds : MethodName := ⟨RX10, "adds", "(III)I"⟩
abbrev cX10_closes : ByteArray := prog_12_method_19_code
def yX10_closes : MethodName := ⟨RX10, "closes", "(II)V"⟩
abbrev cX10_copies : ByteArray := prog_12_method_20_code
def yX10_copies : MethodName := ⟨RX10, "copies", "(III)V"⟩
abbrev cX10_copiesAll : ByteArray := prog_12_method_21_code
def yX10_copiesAll : MethodName := ⟨RX10, "copiesAll", "(II)V"⟩
abbrev cX10_itemsIn : ByteArray := prog_12_method_22_code
def yX10_itemsIn : MethodName := ⟨RX10, "itemsIn", "(II)I"⟩
abbrev cX10_isText : ByteArray := prog_12_method_23_code
def yX10_isText : MethodName := ⟨RX10, "isText", "(I)Z"⟩
abbrev cX10_areAlike : ByteArray := prog_12_method_24_code
def yX10_areAlike : MethodName := ⟨RX10, "areAlike", "(IIII)Z"⟩
abbrev cX10_fuses : ByteArray := prog_12_method_25_code
def yX10_fuses : MethodName := ⟨RX10, "fuses", "(IIIII)I"⟩
abbrev cX10_sizeOf : ByteArray := prog_12_method_26_code
def yX10_sizeOf : MethodName := ⟨RX10, "sizeOf", "(III)I"⟩
abbrev cX10_sizeOfAll : ByteArray := prog_12_method_27_code
def yX10_sizeOfAll : MethodName := ⟨RX10, "sizeOfAll", "(I)I"⟩
abbrev cX10_lists : ByteArray := prog_12_method_28_code
def yX10_lists : MethodName := ⟨RX10, "lists", "(III[I)I"⟩
abbrev cX10_areRowsAlike : ByteArray := prog_12_method_29_code
def yX10_areRowsAlike : MethodName := ⟨RX10, "areRowsAlike", "(I[IIII)Z"⟩
abbrev cX10_hasFirm : ByteArray := prog_12_method_30_code
def yX10_hasFirm : MethodName := ⟨RX10, "hasFirm", "(I[III)Z"⟩
abbrev cX10_foldsOne : ByteArray := prog_12_method_31_code
def yX10_foldsOne : MethodName := ⟨RX10, "foldsOne", "(I)Z"⟩
abbrev cX10_putsRepeat : ByteArray := prog_12_method_32_code
def yX10_putsRepeat : MethodName := ⟨RX10, "putsRepeat", "(I[IIIII)V"⟩
abbrev cX10_folds : ByteArray := prog_12_method_33_code
def yX10_folds : MethodName := ⟨RX10, "folds", "(I)V"⟩
abbrev cX10_areNext : ByteArray := prog_12_method_34_code
def yX10_areNext : MethodName := ⟨RX10, "areNext", "(III[III)Z"⟩
abbrev cX10_fusesRow : ByteArray := prog_12_method_35_code
def yX10_fusesRow : MethodName := ⟨RX10, "fusesRow", "(III[III)I"⟩
abbrev cX10_costOf : ByteArray := prog_12_method_36_code
def yX10_costOf : MethodName := ⟨RX10, "costOf", "(IIII)I"⟩
abbrev cX10_meets : ByteArray := prog_12_method_37_code
def yX10_meets : MethodName := ⟨RX10, "meets", "(IIII)I"⟩
abbrev cX10_laysRow : ByteArray := prog_12_method_38_code
def yX10_laysRow : MethodName := ⟨RX10, "laysRow", "(IIIIIIII)I"⟩
abbrev cX10_firstWay : ByteArray := prog_12_method_39_code
def yX10_firstWay : MethodName := ⟨RX10, "firstWay", "(III)I"⟩
abbrev cX10_walks : ByteArray := prog_12_method_40_code
def yX10_walks : MethodName := ⟨RX10, "walks", "(II)V"⟩
abbrev cX10_lays : ByteArray := prog_12_method_41_code
def yX10_lays : MethodName := ⟨RX10, "lays", "(III)I"⟩
abbrev cX10_tidies : ByteArray := prog_12_method_42_code
def yX10_tidies : MethodName := ⟨RX10, "tidies", "(IIII)V"⟩
abbrev cX10_tidiesOne : ByteArray := prog_12_method_43_code
def yX10_tidiesOne : MethodName := ⟨RX10, "tidiesOne", "(I)Z"⟩
abbrev cX10_isRepeat : ByteArray := prog_12_method_44_code
def yX10_isRepeat : MethodName := ⟨RX10, "isRepeat", "(II)Z"⟩
abbrev cX10_hasAt : ByteArray := prog_12_method_45_code
def yX10_hasAt : MethodName := ⟨RX10, "hasAt", "(IIII)Z"⟩
abbrev cX10_joinsTwo : ByteArray := prog_12_method_46_code
def yX10_joinsTwo : MethodName := ⟨RX10, "joinsTwo", "(III)V"⟩
abbrev cX10_takesIn : ByteArray := prog_12_method_47_code
def yX10_takesIn : MethodName := ⟨RX10, "takesIn", "(IIIZ)Z"⟩
abbrev cX10_tidiesAll : ByteArray := prog_12_method_48_code
def yX10_tidiesAll : MethodName := ⟨RX10, "tidiesAll", "()I"⟩
abbrev cX10_tidy : ByteArray := prog_12_method_49_code
def yX10_tidy : MethodName := ⟨RX10, "tidy", "()I"⟩
abbrev cX10_fitMany : ByteArray := prog_12_method_50_code
def yX10_fitMany : MethodName := ⟨RX10, "fitMany", "()I"⟩
abbrev cX10_tidied : ByteArray := prog_12_method_51_code
def yX10_tidied : MethodName := ⟨RX10, "tidied", "(I)I"⟩
abbrev cX10_remembers : ByteArray := prog_12_method_52_code
def yX10_remembers : MethodName := ⟨RX10, "remembers", "(I)V"⟩
abbrev cX10_lay : ByteArray := prog_12_method_53_code
def yX10_lay : MethodName := ⟨RX10, "lay", "(I)I"⟩
abbrev cX10_asIf : ByteArray := prog_12_method_54_code
def yX10_asIf : MethodName := ⟨RX10, "asIf", "(I)I"⟩
abbrev cX10_dropsOldest : ByteArray := prog_12_method_55_code
def yX10_dropsOldest : MethodName := ⟨RX10, "dropsOldest", "()V"⟩
abbrev cX10_undo : ByteArray := prog_12_method_56_code
def yX10_undo : MethodName := ⟨RX10, "undo", "()I"⟩
abbrev cX10_clear : ByteArray := prog_12_method_57_code
def yX10_clear : MethodName := ⟨RX10, "clear", "()I"⟩
abbrev cX10_ofSort : ByteArray := prog_12_method_58_code
def yX10_ofSort : MethodName := ⟨RX10, "ofSort", "(II)I"⟩
abbrev cX10_told : ByteArray := prog_12_method_59_code
def yX10_told : MethodName := ⟨RX10, "told", "(I)I"⟩
abbrev cX10_isPage : ByteArray := prog_12_method_60_code
def yX10_isPage : MethodName := ⟨RX10, "isPage", "(I)Z"⟩
abbrev cX10_parentOf : ByteArray := prog_12_method_61_code
def yX10_parentOf : MethodName := ⟨RX10, "parentOf", "(II)I"⟩
abbrev cX10_depthOf : ByteArray := prog_12_method_62_code
def yX10_depthOf : MethodName := ⟨RX10, "depthOf", "(III)I"⟩
abbrev cX10_deepest : ByteArray := prog_12_method_63_code
def yX10_deepest : MethodName := ⟨RX10, "deepest", "(I)I"⟩
abbrev cX10_pageOf : ByteArray := prog_12_method_64_code
def yX10_pageOf : MethodName := ⟨RX10, "pageOf", "(II)I"⟩
abbrev cX10_token : ByteArray := prog_12_method_65_code
def yX10_token : MethodName := ⟨RX10, "token", "(II)I"⟩
abbrev cX10_letter : ByteArray := prog_12_method_66_code
def yX10_letter : MethodName := ⟨RX10, "letter", "(II)I"⟩
abbrev cX10_pagesWith : ByteArray := prog_12_method_67_code
def yX10_pagesWith : MethodName := ⟨RX10, "pagesWith", "(I)I"⟩
abbrev cX10_tokenOf : ByteArray := prog_12_method_68_code
def yX10_tokenOf : MethodName := ⟨RX10, "tokenOf", "(II)I"⟩
abbrev cX10_of : ByteArray := prog_12_method_69_code
def yX10_of : MethodName := ⟨RX10, "of", "(III)I"⟩
abbrev cX10_isNode : ByteArray := prog_12_method_70_code
def yX10_isNode : MethodName := ⟨RX10, "isNode", "(I)Z"⟩
abbrev cX10_node : ByteArray := prog_12_method_71_code
def yX10_node : MethodName := ⟨RX10, "node", "(II)I"⟩
abbrev cX10_pageNode : ByteArray := prog_12_method_72_code
def yX10_pageNode : MethodName := ⟨RX10, "pageNode", "(III)I"⟩
abbrev cX10_laysStates : ByteArray := prog_12_method_73_code
def yX10_laysStates : MethodName := ⟨RX10, "laysStates", "()V"⟩
abbrev cX10_isLeaf : ByteArray := prog_12_method_74_code
def yX10_isLeaf : MethodName := ⟨RX10, "isLeaf", "(I)Z"⟩
abbrev cX10_isOption : ByteArray := prog_12_method_75_code
def yX10_isOption : MethodName := ⟨RX10, "isOption", "(I)Z"⟩
abbrev cX10_takes : ByteArray := prog_12_method_76_code
def yX10_takes : MethodName := ⟨RX10, "takes", "(II)Z"⟩
abbrev cX10_sum : ByteArray := prog_12_method_77_code
def yX10_sum : MethodName := ⟨RX10, "sum", "(II)I"⟩
abbrev cX10_waysFrom : ByteArray := prog_12_method_78_code
def yX10_waysFrom : MethodName := ⟨RX10, "waysFrom", "(III)I"⟩
abbrev cX10_laysWays : ByteArray := prog_12_method_79_code
def yX10_laysWays : MethodName := ⟨RX10, "laysWays", "(I)V"⟩
abbrev cX10_ways : ByteArray := prog_12_method_80_code
def yX10_ways : MethodName := ⟨RX10, "ways", "(I)I"⟩
abbrev cX10_isFit : ByteArray := prog_12_method_81_code
def yX10_isFit : MethodName := ⟨RX10, "isFit", "(I)Z"⟩
abbrev cX10_fits : ByteArray := prog_12_method_82_code
def yX10_fits : MethodName := ⟨RX10, "fits", "(I)Z"⟩
abbrev cX10_fitting : ByteArray := prog_12_method_83_code
def yX10_fitting : MethodName := ⟨RX10, "fitting", "()I"⟩
abbrev cX10_opensOn : ByteArray := prog_12_method_84_code
def yX10_opensOn : MethodName := ⟨RX10, "opensOn", "()Z"⟩
abbrev cX10_turnsOn : ByteArray := prog_12_method_85_code
def yX10_turnsOn : MethodName := ⟨RX10, "turnsOn", "(I)Z"⟩
abbrev cX10_reach : ByteArray := prog_12_method_86_code
def yX10_reach : MethodName := ⟨RX10, "reach", "(I)I"⟩
abbrev cX10_walksPage : ByteArray := prog_12_method_87_code
def yX10_walksPage : MethodName := ⟨RX10, "walksPage", "(I)Z"⟩
abbrev cX10_times : ByteArray := prog_12_method_88_code
def yX10_times : MethodName := ⟨RX10, "times", "(II)I"⟩
abbrev cX10_passes : ByteArray := prog_12_method_89_code
def yX10_passes : MethodName := ⟨RX10, "passes", "(II)I"⟩
abbrev cX10_value : ByteArray := prog_12_method_90_code
def yX10_value : MethodName := ⟨RX10, "value", "(III)I"⟩
abbrev cX10_taker : ByteArray := prog_12_method_91_code
def yX10_taker : MethodName := ⟨RX10, "taker", "(II)I"⟩
abbrev cX10_unlike : ByteArray := prog_12_method_92_code
def yX10_unlike : MethodName := ⟨RX10, "unlike", "(I)I"⟩
abbrev cX10_users : ByteArray := prog_12_method_93_code
def yX10_users : MethodName := ⟨RX10, "users", "(I)I"⟩
abbrev cX10_greatest : ByteArray := prog_12_method_94_code
def yX10_greatest : MethodName := ⟨RX10, "greatest", "(I)I"⟩
abbrev cX10_would : ByteArray := prog_12_method_95_code
def yX10_would : MethodName := ⟨RX10, "would", "(II)I"⟩
abbrev cX10_far : ByteArray := prog_12_method_96_code
def yX10_far : MethodName := ⟨RX10, "far", "(II)I"⟩
abbrev cX10_distance : ByteArray := prog_12_method_97_code
def yX10_distance : MethodName := ⟨RX10, "distance", "(II)I"⟩
abbrev cX10_nearest : ByteArray := prog_12_method_98_code
def yX10_nearest : MethodName := ⟨RX10, "nearest", "(I)I"⟩
abbrev cX10_areSame : ByteArray := prog_12_method_99_code
def yX10_areSame : MethodName := ⟨RX10, "areSame", "(II)Z"⟩
abbrev cX10_laysOrder : ByteArray := prog_12_method_100_code
def yX10_laysOrder : MethodName := ⟨RX10, "laysOrder", "(II)V"⟩
abbrev cX10_goesInOrder : ByteArray := prog_12_method_101_code
def yX10_goesInOrder : MethodName := ⟨RX10, "goesInOrder", "(II)V"⟩
abbrev cX10_orders : ByteArray := prog_12_method_102_code
def yX10_orders : MethodName := ⟨RX10, "orders", "(I)I"⟩
abbrev cX10_shortest : ByteArray := prog_12_method_103_code
def yX10_shortest : MethodName := ⟨RX10, "shortest", "()I"⟩
abbrev cX10_firm : ByteArray := prog_12_method_104_code
def yX10_firm : MethodName := ⟨RX10, "firm", "(I)I"⟩
abbrev cX10_alike : ByteArray := prog_12_method_105_code
def yX10_alike : MethodName := ⟨RX10, "alike", "(II)Z"⟩
abbrev cX10_cutsFrom : ByteArray := prog_12_method_106_code
def yX10_cutsFrom : MethodName := ⟨RX10, "cutsFrom", "(III)I"⟩
abbrev cX10_cuts : ByteArray := prog_12_method_107_code
def yX10_cuts : MethodName := ⟨RX10, "cuts", "(I)I"⟩
abbrev cX10_derived : ByteArray := prog_12_method_108_code
def yX10_derived : MethodName := ⟨RX10, "derived", "(I)I"⟩
abbrev cX10_common : ByteArray := prog_12_method_109_code
def yX10_common : MethodName := ⟨RX10, "common", "(II)I"⟩
abbrev cX10_similar : ByteArray := prog_12_method_110_code
def yX10_similar : MethodName := ⟨RX10, "similar", "(II)Z"⟩
abbrev cX10_step : ByteArray := prog_12_method_111_code
def yX10_step : MethodName := ⟨RX10, "step", "(III)I"⟩
abbrev cX10_status : ByteArray := prog_12_method_112_code
def yX10_status : MethodName := ⟨RX10, "status", "(I)I"⟩
def RJx145de : String := "java/io/Serializable"
def TJx145de : u_T := fun k => match k with
  | _ => ("", "", "", false)
def tyJx145de : Nat → FieldType := fun k => match k with
  | _ => .int
abbrev wsJx145de0 : List Cond := u_ws RJx145de TJx145de 0
theorem nmJx145de : ∀ a, a < 0 → ∀ b, b < 0 → a ≠ b → (TJx145de a).2.1 ≠ (TJx145de b).2.1 := by decide +kernel
theorem tyJx145de_ok : ∀ k, k < 0 → parseFieldDescriptor (TJx145de k).2.2.1 = some (tyJx145de k) := by decide +kernel
def RJ9 : String := "java/lang/Math"
def TJ9 : u_T := fun k => match k with
  | _ => ("", "", "", false)
def tyJ9 : Nat → FieldType := fun k => match k with
  | _ => .int
abbrev wsJ90 : List Cond := u_ws RJ9 TJ9 0
theorem nmJ9 : ∀ a, a < 0 → ∀ b, b < 0 → a ≠ b → (TJ9 a).2.1 ≠ (TJ9 b).2.1 := by decide +kernel
theorem tyJ9_ok : ∀ k, k < 0 → parseFieldDescriptor (TJ9 k).2.2.1 = some (tyJ9 k) := by decide +kernel
abbrev cJ9_max_7cf53 : ByteArray := prog_17_method_65_code
def yJ9_max_7cf53 : MethodName := ⟨RJ9, "max", "(II)I"⟩
abbrev cJ9_min_7cf53 : ByteArray := prog_17_method_69_code
def yJ9_min_7cf53 : MethodName := ⟨RJ9, "min", "(II)I"⟩
def RJ10 : String := "java/lang/System"
def TJ10 : u_T := fun k => match k with
  | _ => ("", "", "", false)
def tyJ10 : Nat → FieldType := fun k => match k with
  | _ => .int
abbrev wsJ100 : List Cond := u_ws RJ10 TJ10 0
theorem nmJ10 : ∀ a, a < 0 → ∀ b, b < 0 → a ≠ b → (TJ10 a).2.1 ≠ (TJ10 b).2.1 := by decide +kernel
theorem tyJ10_ok : ∀ k, k < 0 → parseFieldDescriptor (TJ10 k).2.2.1 = some (tyJ10 k) := by decide +kernel
def RJ7 : String := "java/util/Arrays"
def TJ7 : u_T := fun k => match k with
  | _ => ("", "", "", false)
def tyJ7 : Nat → FieldType := fun k => match k with
  | _ => .int
abbrev wsJ70 : List Cond := u_ws RJ7 TJ7 0
theorem nmJ7 : ∀ a, a < 0 → ∀ b, b < 0 → a ≠ b → (TJ7 a).2.1 ≠ (TJ7 b).2.1 := by decide +kernel
theorem tyJ7_ok : ∀ k, k < 0 → parseFieldDescriptor (TJ7 k).2.2.1 = some (tyJ7 k) := by decide +kernel
abbrev cJ7_fill_53178 : ByteArray := prog_21_method_103_code
def yJ7_fill_53178 : MethodName := ⟨RJ7, "fill", "([II)V"⟩
def RL : String := "PageSkeletonLaw"
abbrev cL_page : ByteArray := method_3_code
def yL_page : MethodName := ⟨RL, "page", "(LPageSkeleton;I[J)I"⟩
abbrev cL_lay : ByteArray := method_4_code
def yL_lay : MethodName := ⟨RL, "lay", "(LPageSkeleton;I[J)I"⟩
abbrev cL_tidied : ByteArray := method_5_code
def yL_tidied : MethodName := ⟨RL, "tidied", "(LPageSkeleton;I[J)I"⟩
abbrev cL_told : ByteArray := method_6_code
def yL_told : MethodName := ⟨RL, "told", "(LPageSkeleton;I[J)I"⟩
abbrev cL_pageOf : ByteArray := method_7_code
def yL_pageOf : MethodName := ⟨RL, "pageOf", "(LPageSkeleton;II[J)I"⟩
abbrev cL_token : ByteArray := method_8_code
def yL_token : MethodName := ⟨RL, "token", "(LPageSkeleton;II[J)I"⟩
abbrev cL_tokenOf : ByteArray := method_9_code
def yL_tokenOf : MethodName := ⟨RL, "tokenOf", "(LPageSkeleton;II[J)I"⟩
abbrev cL_node : ByteArray := method_10_code
def yL_node : MethodName := ⟨RL, "node", "(LPageSkeleton;II[J)I"⟩
abbrev cL_pageNode : ByteArray := method_11_code
def yL_pageNode : MethodName := ⟨RL, "pageNode", "(LPageSkeleton;III[J)I"⟩
abbrev cL_fits : ByteArray := method_12_code
def yL_fits : MethodName := ⟨RL, "fits", "(LPageSkeleton;I[J)I"⟩
abbrev cL_reach : ByteArray := method_13_code
def yL_reach : MethodName := ⟨RL, "reach", "(LPageSkeleton;I[J)I"⟩
abbrev cL_ways : ByteArray := method_14_code
def yL_ways : MethodName := ⟨RL, "ways", "(LPageSkeleton;I[J)I"⟩
abbrev cL_times : ByteArray := method_15_code
def yL_times : MethodName := ⟨RL, "times", "(LPageSkeleton;II[J)I"⟩
abbrev cL_passes : ByteArray := method_16_code
def yL_passes : MethodName := ⟨RL, "passes", "(LPageSkeleton;II[J)I"⟩
abbrev cL_value : ByteArray := method_17_code
def yL_value : MethodName := ⟨RL, "value", "(LPageSkeleton;III[J)I"⟩
abbrev cL_taker : ByteArray := method_18_code
def yL_taker : MethodName := ⟨RL, "taker", "(LPageSkeleton;II[J)I"⟩
abbrev cL_unlike : ByteArray := method_19_code
def yL_unlike : MethodName := ⟨RL, "unlike", "(LPageSkeleton;I[J)I"⟩
abbrev cL_would : ByteArray := method_20_code
def yL_would : MethodName := ⟨RL, "would", "(LPageSkeleton;II[J)I"⟩
abbrev cL_distance : ByteArray := method_21_code
def yL_distance : MethodName := ⟨RL, "distance", "(LPageSkeleton;II[J)I"⟩
abbrev cL_nearest : ByteArray := method_22_code
def yL_nearest : MethodName := ⟨RL, "nearest", "(LPageSkeleton;I[J)I"⟩
abbrev cL_orders : ByteArray := method_23_code
def yL_orders : MethodName := ⟨RL, "orders", "(LPageSkeleton;I[J)I"⟩
abbrev cL_firm : ByteArray := method_24_code
def yL_firm : MethodName := ⟨RL, "firm", "(LPageSkeleton;I[J)I"⟩
abbrev cL_alike : ByteArray := method_25_code
def yL_alike : MethodName := ⟨RL, "alike", "(LPageSkeleton;II[J)I"⟩
abbrev cL_cuts : ByteArray := method_26_code
def yL_cuts : MethodName := ⟨RL, "cuts", "(LPageSkeleton;I[J)I"⟩
abbrev cL_derived : ByteArray := method_27_code
def yL_derived : MethodName := ⟨RL, "derived", "(LPageSkeleton;I[J)I"⟩
abbrev cL_common : ByteArray := method_28_code
def yL_common : MethodName := ⟨RL, "common", "(LPageSkeleton;II[J)I"⟩
abbrev cL_similar : ByteArray := method_29_code
def yL_similar : MethodName := ⟨RL, "similar", "(LPageSkeleton;II[J)I"⟩
abbrev cL_step : ByteArray := method_30_code
def yL_step : MethodName := ⟨RL, "step", "(LPageSkeleton;III[J)I"⟩
abbrev cL_users : ByteArray := method_31_code
def yL_users : MethodName := ⟨RL, "users", "(LPageSkeleton;I[J)I"⟩
abbrev cL_greatest : ByteArray := method_32_code
def yL_greatest : MethodName := ⟨RL, "greatest", "(LPageSkeleton;I[J)I"⟩
abbrev cL_law : ByteArray := code
def yL_law : MethodName := ⟨RL, "law", "([I)Z"⟩
abbrev vwCl : List vw_C := [(RX0, TX0, 7), (RX1, TX1, 8), (RX2, TX2, 9), (RX3, TX3, 5), (RX4, TX4, 8), (RX5, TX5, 8), (RX6, TX6, 6), (RX7, TX7, 5), (RX8, TX8, 2), (RX9, TX9, 15), (RX10, TX10, 53)]

/-! the words: every good word of the tables; a method's words are its own code and these -/
def wsG : List Cond := lw_tbl.filter goodWord
theorem wsG_tbl {w : Cond} (h : w ∈ wsG) : w ∈ lw_tbl := (List.mem_filter.mp h).1
theorem wsG_mem {w : Cond} (h : w ∈ lw_tbl) (g : goodWord w = true) : w ∈ wsG := List.mem_filter.mpr ⟨h, g⟩
theorem wsG_good {w : Cond} (h : w ∈ wsG) : (w.onTables && w.keeps) = true ∨ ∃ ty, w = .arrayClass ty := good_of_word (List.mem_filter.mp h).2
theorem wsG_at (i : Nat) {w : Cond} (h : tables_1[i]? = some w) (g : goodWord w = true) : w ∈ wsG := wsG_mem (List.mem_append_right _ (List.mem_of_getElem? h)) g
theorem wsG_a1 (i : Nat) {w : Cond} (h : tables_1_1[i]? = some w) (g : goodWord w = true) : w ∈ wsG := wsG_mem (List.mem_append_right _ (tbm1 i h)) g
theorem wsG_a2 (i : Nat) {w : Cond} (h : tables_1_2[i]? = some w) (g : goodWord w = true) : w ∈ wsG := wsG_mem (List.mem_append_right _ (tbm2 i h)) g
theorem wsG_a3 (i : Nat) {w : Cond} (h : tables_1_3[i]? = some w) (g : goodWord w = true) : w ∈ wsG := wsG_mem (List.mem_append_right _ (tbm3 i h)) g
theorem wsG_a4 (i : Nat) {w : Cond} (h : tables_1_4[i]? = some w) (g : goodWord w = true) : w ∈ wsG := wsG_mem (List.mem_append_right _ (tbm4 i h)) g
theorem wsG_a5 (i : Nat) {w : Cond} (h : tables_1_5[i]? = some w) (g : goodWord w = true) : w ∈ wsG := wsG_mem (List.mem_append_right _ (tbm5 i h)) g
theorem wsG_a6 (i : Nat) {w : Cond} (h : tables_1_6[i]? = some w) (g : goodWord w = true) : w ∈ wsG := wsG_mem (List.mem_append_right _ (tbm6 i h)) g
theorem wsG_a7 (i : Nat) {w : Cond} (h : tables_1_7[i]? = some w) (g : goodWord w = true) : w ∈ wsG := wsG_mem (List.mem_append_right _ (tbm7 i h)) g
theorem wsG_a8 (i : Nat) {w : Cond} (h : tables_1_8[i]? = some w) (g : goodWord w = true) : w ∈ wsG := wsG_mem (List.mem_append_right _ (tbm8 i h)) g
theorem wsG_p (i : Nat) {w : Cond} (h : (k2_sels lw_privs)[i]? = some w) (g : goodWord w = true) : w ∈ wsG := wsG_mem (List.mem_append_left _ (List.mem_of_getElem? h)) g
theorem wsG_l {ws : List Cond} (ps : List Nat) (hp : ws = ps.filterMap (fun i => tables_1[i]?)) (h : ws.all goodWord = true) : ∀ w ∈ ws, w ∈ wsG := by
  intro w hw
  obtain ⟨i, _, hi⟩ := List.mem_filterMap.mp (hp ▸ hw)
  exact wsG_at i hi (List.all_eq_true.mp h w hw)
theorem gI_G {y : MethodName} {cc : ByteArray} {n : Nat} {r : Option FieldType} (hc : Cond.code y cc n r ∈ wsG) : GoodIn wsG (Cond.code y cc n r :: wsG) := fun w hw => (List.mem_cons.mp hw).elim (fun e => by rw [e]; exact ⟨hc, wsG_good hc⟩) (fun h => ⟨h, wsG_good h⟩)
theorem gV_G {own C : String} {idx : Nat} {y : MethodName} {cc : ByteArray} {n : Nat} {r : Option FieldType} (h1 : Cond.methodLink own idx y ∈ wsG) (h2 : Cond.instanceMethod y ∈ wsG) (h3 : Cond.selects C y y ∈ wsG) (h4 : Cond.initialized C ∈ wsG) (hc : Cond.code y cc n r ∈ wsG) : GoodIn wsG (wsV own idx C y (Cond.code y cc n r :: wsG)) := by
  have k : ∀ w ∈ wsV own idx C y (Cond.code y cc n r :: wsG), w ∈ wsG := by
    intro w hw
    simp only [wsV, List.cons_append, List.nil_append, List.mem_cons] at hw
    rcases hw with rfl | rfl | rfl | rfl | rfl | h
    · exact h1
    · exact h2
    · exact h3
    · exact h4
    · exact hc
    · exact h
  exact fun w hw => ⟨k w hw, wsG_good (k w hw)⟩
theorem gS_G {own : String} {idx : Nat} {y : MethodName} {cc : ByteArray} {n : Nat} {r : Option FieldType} (h1 : Cond.methodLink own idx y ∈ wsG) (h2 : Cond.static y ∈ wsG) (h4 : Cond.initialized own ∈ wsG) (hc : Cond.code y cc n r ∈ wsG) : GoodIn wsG (wsS own idx y (Cond.code y cc n r :: wsG)) := by
  have k : ∀ w ∈ wsS own idx y (Cond.code y cc n r :: wsG), w ∈ wsG := by
    intro w hw
    simp only [wsS, List.cons_append, List.nil_append, List.mem_cons] at hw
    rcases hw with rfl | rfl | rfl | rfl | h
    · exact h1
    · exact h2
    · exact h4
    · exact hc
    · exact h
  exact fun w hw => ⟨k w hw, wsG_good (k w hw)⟩
theorem hG_of {y : MethodName} {cc : ByteArray} {n : Nat} {r : Option FieldType} {args : Array Value} {s : State} (h : ∀ w ∈ (Cond.code y cc n r :: wsG), w.before args s = true) : ∀ w ∈ wsG, w.before args s = true := fun w hw => h w (List.mem_cons_of_mem _ hw)
theorem inG0 : ∀ w ∈ wsX00, w ∈ wsG := wsG_l [189, 191, 193, 195, 197, 199, 201] (by decide +kernel) (by decide +kernel)
theorem inG1 : ∀ w ∈ wsX10, w ∈ wsG := wsG_l [312, 314, 316, 318, 320, 322, 324, 326] (by decide +kernel) (by decide +kernel)
theorem inG2 : ∀ w ∈ wsX20, w ∈ wsG := wsG_l [239, 241, 243, 245, 247, 249, 251, 253, 255] (by decide +kernel) (by decide +kernel)
theorem inG3 : ∀ w ∈ wsX30, w ∈ wsG := wsG_l [136, 138, 140, 142, 144] (by decide +kernel) (by decide +kernel)
theorem inG4 : ∀ w ∈ wsX40, w ∈ wsG := wsG_l [105, 107, 109, 111, 113, 115, 117, 119] (by decide +kernel) (by decide +kernel)
theorem inG5 : ∀ w ∈ wsX50, w ∈ wsG := wsG_l [48, 50, 52, 54, 56, 58, 60, 62] (by decide +kernel) (by decide +kernel)
theorem inG6 : ∀ w ∈ wsX60, w ∈ wsG := wsG_l [162, 164, 166, 168, 170, 172] (by decide +kernel) (by decide +kernel)
theorem inG7 : ∀ w ∈ wsX70, w ∈ wsG := wsG_l [285, 287, 289, 291, 293] (by decide +kernel) (by decide +kernel)
theorem inG8 : ∀ w ∈ wsX80, w ∈ wsG := wsG_l [213, 215] (by decide +kernel) (by decide +kernel)
theorem inG9 : ∀ w ∈ wsX90, w ∈ wsG := wsG_l [347, 349, 351, 353, 355, 357, 359, 361, 363, 365, 367, 369, 371, 373, 375] (by decide +kernel) (by decide +kernel)
theorem inG10 : ∀ w ∈ wsX100, w ∈ wsG := wsG_l [1219, 1221, 1223, 1225, 1227, 1229, 1231, 1233, 1235, 1237, 1239, 1241, 1243, 1245, 1247, 1249, 1251, 1253, 1255, 1257, 1259, 1261, 1263, 1265, 1267, 1269, 1271, 1273, 1275, 1277, 1279, 1281, 1283, 1285, 1287, 1289, 1291, 1293, 1295, 1297, 1299, 1301, 1303, 1305, 1307, 1309, 1311, 1313, 1315, 1317, 1319, 1321, 1323] (by decide +kernel) (by decide +kernel)

set_option maxRecDepth 100000 in
theorem k1342 : (Cond.methodLink "PageSkeletonModel" (177 : Nat) ({ cls := "PageSkeletonModel", name := "bad", desc := "(ZII)Z" } : MethodName)) ∈ wsG := wsG_a6 142 rfl rfl
set_option maxRecDepth 100000 in
theorem k1344 : (Cond.instanceMethod ({ cls := "PageSkeletonModel", name := "bad", desc := "(ZII)Z" } : MethodName)) ∈ wsG := wsG_a6 144 rfl rfl
set_option maxRecDepth 100000 in
theorem k1345 : (Cond.code ({ cls := "PageSkeletonModel", name := "bad", desc := "(ZII)Z" } : MethodName) prog_12_method_3_code (4 : Nat) (Option.some FieldType.boolean)) ∈ wsG := wsG_a6 145 rfl rfl
set_option maxRecDepth 100000 in
theorem k1373 : (Cond.methodLink "PageSkeletonModel" (190 : Nat) ({ cls := "PageSkeletonModel", name := "folds", desc := "(I)V" } : MethodName)) ∈ wsG := wsG_a6 173 rfl rfl
set_option maxRecDepth 100000 in
theorem k1375 : (Cond.instanceMethod ({ cls := "PageSkeletonModel", name := "folds", desc := "(I)V" } : MethodName)) ∈ wsG := wsG_a6 175 rfl rfl
set_option maxRecDepth 100000 in
theorem k1376 : (Cond.code ({ cls := "PageSkeletonModel", name := "folds", desc := "(I)V" } : MethodName) prog_12_method_33_code (4 : Nat) (Option.none : Option Jvm.ClassFile.FieldType)) ∈ wsG := wsG_a6 176 rfl rfl
set_option maxRecDepth 100000 in
theorem ks_yX10_bad : Cond.selects RX10 yX10_bad yX10_bad ∈ wsG := wsG_p 48 rfl rfl
set_option maxRecDepth 100000 in
theorem ks_yX10_folds : Cond.selects RX10 yX10_folds yX10_folds ∈ wsG := wsG_p 55 rfl rfl
theorem dX10_page_0 : decode cX10_page 0 = .ok (.aload_n 0, 1) := by decide +kernel
theorem dX10_page_1 : decode cX10_page 1 = .ok (.iconst 0, 1) := by decide +kernel
theorem dX10_page_2 : decode cX10_page 2 = .ok (.putfield 127, 3) := by decide +kernel
theorem dX10_page_5 : decode cX10_page 5 = .ok (.aload_n 0, 1) := by decide +kernel
theorem dX10_page_6 : decode cX10_page 6 = .ok (.iload_n 1, 1) := by decide +kernel
theorem dX10_page_7 : decode cX10_page 7 = .ok (.iconst 0, 1) := by decide +kernel
theorem dX10_page_8 : decode cX10_page 8 = .ok (.aload_n 0, 1) := by decide +kernel
theorem dX10_page_9 : decode cX10_page 9 = .ok (.getfield 130, 3) := by decide +kernel
theorem dX10_page_12 : decode cX10_page 12 = .ok (.invokestatic 173, 3) := by decide +kernel
theorem dX10_page_15 : decode cX10_page 15 = .ok (.ifCond .ne 7, 3) := by decide +kernel
theorem dX10_page_18 : decode cX10_page 18 = .ok (.iconst 1, 1) := by decide +kernel
theorem dX10_page_19 : decode cX10_page 19 = .ok (.goto 4, 3) := by decide +kernel
theorem dX10_page_22 : decode cX10_page 22 = .ok (.iconst 0, 1) := by decide +kernel
theorem dX10_page_23 : decode cX10_page 23 = .ok (.iconst 1, 1) := by decide +kernel
theorem dX10_page_24 : decode cX10_page 24 = .ok (.iconst 1, 1) := by decide +kernel
theorem dX10_page_25 : decode cX10_page 25 = .ok (.invokevirtual 177, 3) := by decide +kernel
theorem dX10_page_28 : decode cX10_page 28 = .ok (.ifCond .ne 26, 3) := by decide +kernel
theorem dX10_page_31 : decode cX10_page 31 = .ok (.aload_n 0, 1) := by decide +kernel
theorem dX10_page_32 : decode cX10_page 32 = .ok (.aload_n 0, 1) := by decide +kernel
theorem dX10_page_33 : decode cX10_page 33 = .ok (.getfield 181, 3) := by decide +kernel
theorem dX10_page_36 : decode cX10_page 36 = .ok (.bipush 8, 2) := by decide +kernel
theorem dX10_page_38 : decode cX10_page 38 = .ok (.if_icmp .ne 7, 3) := by decide +kernel
theorem dX10_page_41 : decode cX10_page 41 = .ok (.iconst 1, 1) := by decide +kernel
theorem dX10_page_42 : decode cX10_page 42 = .ok (.goto 4, 3) := by decide +kernel
theorem dX10_page_45 : decode cX10_page 45 = .ok (.iconst 0, 1) := by decide +kernel
theorem dX10_page_46 : decode cX10_page 46 = .ok (.iconst 2, 1) := by decide +kernel
theorem dX10_page_47 : decode cX10_page 47 = .ok (.iconst 2, 1) := by decide +kernel
theorem dX10_page_48 : decode cX10_page 48 = .ok (.invokevirtual 177, 3) := by decide +kernel
theorem dX10_page_51 : decode cX10_page 51 = .ok (.ifCond .eq 5, 3) := by decide +kernel
theorem dX10_page_54 : decode cX10_page 54 = .ok (.iconst 0, 1) := by decide +kernel
theorem dX10_page_55 : decode cX10_page 55 = .ok (.ireturn, 1) := by decide +kernel
theorem dX10_page_56 : decode cX10_page 56 = .ok (.aload_n 0, 1) := by decide +kernel
theorem dX10_page_57 : decode cX10_page 57 = .ok (.iconst 0, 1) := by decide +kernel
theorem dX10_page_58 : decode cX10_page 58 = .ok (.putfield 130, 3) := by decide +kernel
theorem dX10_page_61 : decode cX10_page 61 = .ok (.aload_n 0, 1) := by decide +kernel
theorem dX10_page_62 : decode cX10_page 62 = .ok (.iload_n 1, 1) := by decide +kernel
theorem dX10_page_63 : decode cX10_page 63 = .ok (.putfield 133, 3) := by decide +kernel
theorem dX10_page_66 : decode cX10_page 66 = .ok (.aload_n 0, 1) := by decide +kernel
theorem dX10_page_67 : decode cX10_page 67 = .ok (.iconst 0, 1) := by decide +kernel
theorem dX10_page_68 : decode cX10_page 68 = .ok (.putfield 142, 3) := by decide +kernel
theorem dX10_page_71 : decode cX10_page 71 = .ok (.aload_n 0, 1) := by decide +kernel
theorem dX10_page_72 : decode cX10_page 72 = .ok (.iconst 0, 1) := by decide +kernel
theorem dX10_page_73 : decode cX10_page 73 = .ok (.putfield 136, 3) := by decide +kernel
theorem dX10_page_76 : decode cX10_page 76 = .ok (.aload_n 0, 1) := by decide +kernel
theorem dX10_page_77 : decode cX10_page 77 = .ok (.iconst (-1), 1) := by decide +kernel
theorem dX10_page_78 : decode cX10_page 78 = .ok (.putfield 139, 3) := by decide +kernel
theorem dX10_page_81 : decode cX10_page 81 = .ok (.aload_n 0, 1) := by decide +kernel
theorem dX10_page_82 : decode cX10_page 82 = .ok (.getfield 170, 3) := by decide +kernel
theorem dX10_page_85 : decode cX10_page 85 = .ok (.istore_n 2, 1) := by decide +kernel
theorem dX10_page_86 : decode cX10_page 86 = .ok (.iconst 0, 1) := by decide +kernel
theorem dX10_page_87 : decode cX10_page 87 = .ok (.istore_n 3, 1) := by decide +kernel
theorem dX10_page_188 : decode cX10_page 188 = .ok (.iload_n 3, 1) := by decide +kernel
theorem dX10_page_189 : decode cX10_page 189 = .ok (.ifCond .ne 12, 3) := by decide +kernel
theorem dX10_page_192 : decode cX10_page 192 = .ok (.aload_n 0, 1) := by decide +kernel
theorem dX10_page_193 : decode cX10_page 193 = .ok (.iconst 1, 1) := by decide +kernel
theorem dX10_page_194 : decode cX10_page 194 = .ok (.aload_n 0, 1) := by decide +kernel
theorem dX10_page_195 : decode cX10_page 195 = .ok (.getfield 142, 3) := by decide +kernel
theorem dX10_page_198 : decode cX10_page 198 = .ok (.invokevirtual 159, 3) := by decide +kernel
theorem dX10_page_201 : decode cX10_page 201 = .ok (.aload_n 0, 1) := by decide +kernel
theorem dX10_page_202 : decode cX10_page 202 = .ok (.aload_n 0, 1) := by decide +kernel
theorem dX10_page_203 : decode cX10_page 203 = .ok (.getfield 139, 3) := by decide +kernel
theorem dX10_page_206 : decode cX10_page 206 = .ok (.putfield 13, 3) := by decide +kernel
theorem dX10_page_209 : decode cX10_page 209 = .ok (.aload_n 0, 1) := by decide +kernel
theorem dX10_page_210 : decode cX10_page 210 = .ok (.getfield 136, 3) := by decide +kernel
theorem dX10_page_213 : decode cX10_page 213 = .ok (.ifCond .le 16, 3) := by decide +kernel
theorem dX10_page_216 : decode cX10_page 216 = .ok (.aload_n 0, 1) := by decide +kernel
theorem dX10_page_217 : decode cX10_page 217 = .ok (.iload_n 2, 1) := by decide +kernel
theorem dX10_page_218 : decode cX10_page 218 = .ok (.putfield 170, 3) := by decide +kernel
theorem dX10_page_221 : decode cX10_page 221 = .ok (.aload_n 0, 1) := by decide +kernel
theorem dX10_page_222 : decode cX10_page 222 = .ok (.getfield 136, 3) := by decide +kernel
theorem dX10_page_225 : decode cX10_page 225 = .ok (.bipush 10, 2) := by decide +kernel
theorem dX10_page_227 : decode cX10_page 227 = .ok (.isub, 1) := by decide +kernel
theorem dX10_page_228 : decode cX10_page 228 = .ok (.ireturn, 1) := by decide +kernel
theorem dX10_page_229 : decode cX10_page 229 = .ok (.aload_n 0, 1) := by decide +kernel
theorem dX10_page_230 : decode cX10_page 230 = .ok (.getfield 34, 3) := by decide +kernel
theorem dX10_page_233 : decode cX10_page 233 = .ok (.aload_n 0, 1) := by decide +kernel
theorem dX10_page_234 : decode cX10_page 234 = .ok (.getfield 181, 3) := by decide +kernel
theorem dX10_page_237 : decode cX10_page 237 = .ok (.iload_n 3, 1) := by decide +kernel
theorem dX10_page_238 : decode cX10_page 238 = .ok (.iastore, 1) := by decide +kernel
theorem dX10_page_239 : decode cX10_page 239 = .ok (.aload_n 0, 1) := by decide +kernel
theorem dX10_page_240 : decode cX10_page 240 = .ok (.aload_n 0, 1) := by decide +kernel
theorem dX10_page_241 : decode cX10_page 241 = .ok (.getfield 181, 3) := by decide +kernel
theorem dX10_page_244 : decode cX10_page 244 = .ok (.invokevirtual 190, 3) := by decide +kernel
theorem dX10_page_247 : decode cX10_page 247 = .ok (.aload_n 0, 1) := by decide +kernel
theorem dX10_page_248 : decode cX10_page 248 = .ok (.dup, 1) := by decide +kernel
theorem dX10_page_249 : decode cX10_page 249 = .ok (.getfield 181, 3) := by decide +kernel
theorem dX10_page_252 : decode cX10_page 252 = .ok (.iconst 1, 1) := by decide +kernel
theorem dX10_page_253 : decode cX10_page 253 = .ok (.iadd, 1) := by decide +kernel
theorem dX10_page_254 : decode cX10_page 254 = .ok (.putfield 181, 3) := by decide +kernel
theorem dX10_page_257 : decode cX10_page 257 = .ok (.aload_n 0, 1) := by decide +kernel
theorem dX10_page_258 : decode cX10_page 258 = .ok (.getfield 181, 3) := by decide +kernel
theorem dX10_page_261 : decode cX10_page 261 = .ok (.iconst 1, 1) := by decide +kernel
theorem dX10_page_262 : decode cX10_page 262 = .ok (.isub, 1) := by decide +kernel
theorem dX10_page_263 : decode cX10_page 263 = .ok (.ireturn, 1) := by decide +kernel
theorem pfin_fr {μ0 μ : va_M} {pp : Nat} {T0 T : List Tk} {so : Int} {S : List Int} (h : pfin μ0 μ pp T0 so T S) : fr (PR pp T0.length) μ0 μ := by
  rcases h with h | h
  · exact h.1.1
  · exact h.1
theorem pfin_6 {μ0 μ : va_M} {pp : Nat} {T0 T : List Tk} {so : Int} {S : List Int} (h : pfin μ0 μ pp T0 so T S) : 0 ≤ μ 0 6 ∧ μ 0 6 ≤ 2 := by
  rcases h with h | h
  · have h1 := h.1.2.1; omega
  · have h1 := h.2.1; omega
theorem pfin_so {μ0 μ : va_M} {pp : Nat} {T0 T : List Tk} {so : Int} {S : List Int} (h : pfin μ0 μ pp T0 so T S) : 0 ≤ so ∧ so ≤ 61 := by
  rcases h with h | h
  · have h1 := h.1.2.2.2.2.2.2.2.2.1; have h2 := h.1.2.2.2.2.2.2.2.2.2.1; omega
  · exact ⟨h.2.2.2.1, h.2.2.2.2.1⟩
theorem pfin_sr {μ0 μ : va_M} {pp : Nat} {T0 T : List Tk} {so : Int} {S : List Int} (h : pfin μ0 μ pp T0 so T S) : ∀ j : Nat, j < 201 → inR (μ 3 j) := by
  rcases h with h | h
  · exact h.1.2.2.2.2.2.2.2.2.2.2.1
  · exact h.2.2.2.2.2
theorem pfin_0 {μ0 μ : va_M} {pp : Nat} {T0 T : List Tk} {so : Int} {S : List Int} (h : pfin μ0 μ pp T0 so T S) (h0 : so = 0) : pg (bA μ0) (μ0 0 3) 0 T0 [] = none := by
  rcases h with h | h
  · rw [pok_end h.1 h.2, if_pos h0]
  · exact h.2.2.1
theorem pfin_n {μ0 μ : va_M} {pp : Nat} {T0 T : List Tk} {so : Int} {S : List Int} (h : pfin μ0 μ pp T0 so T S) (h0 : μ 0 6 ≠ 0) : pg (bA μ0) (μ0 0 3) 0 T0 [] = none := by
  rcases h with h | h
  · exact absurd h.1.2.1 h0
  · exact h.2.2.1
theorem pfin_ok {μ0 μ : va_M} {pp : Nat} {T0 T : List Tk} {so : Int} {S : List Int} (h : pfin μ0 μ pp T0 so T S) (h0 : μ 0 6 ≤ 0) : pok μ0 μ pp T0 so T S ∧ μ0 0 3 ≤ μ 0 4 := by
  rcases h with h | h
  · exact h
  · have h1 := h.2.1; omega

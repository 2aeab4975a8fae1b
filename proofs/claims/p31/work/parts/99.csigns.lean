theorem dX4_after_0 : decode cX4_after 0 = .ok (.aload_n 0, 1) := by decide +kernel
theorem dX4_after_1 : decode cX4_after 1 = .ok (.getfield 32, 3) := by decide +kernel
theorem dX4_after_4 : decode cX4_after 4 = .ok (.iload_n 1, 1) := by decide +kernel
theorem dX4_after_5 : decode cX4_after 5 = .ok (.iaload, 1) := by decide +kernel
theorem dX4_after_6 : decode cX4_after 6 = .ok (.iconst 1, 1) := by decide +kernel
theorem dX4_after_7 : decode cX4_after 7 = .ok (.iadd, 1) := by decide +kernel
theorem dX4_after_8 : decode cX4_after 8 = .ok (.ireturn, 1) := by decide +kernel
theorem dX4_codeOf_0 : decode cX4_codeOf 0 = .ok (.aload_n 0, 1) := by decide +kernel
theorem dX4_codeOf_1 : decode cX4_codeOf 1 = .ok (.getfield 28, 3) := by decide +kernel
theorem dX4_codeOf_4 : decode cX4_codeOf 4 = .ok (.aload_n 0, 1) := by decide +kernel
theorem dX4_codeOf_5 : decode cX4_codeOf 5 = .ok (.getfield 41, 3) := by decide +kernel
theorem dX4_codeOf_8 : decode cX4_codeOf 8 = .ok (.iload_n 1, 1) := by decide +kernel
theorem dX4_codeOf_9 : decode cX4_codeOf 9 = .ok (.iaload, 1) := by decide +kernel
theorem dX4_codeOf_10 : decode cX4_codeOf 10 = .ok (.iaload, 1) := by decide +kernel
theorem dX4_codeOf_11 : decode cX4_codeOf 11 = .ok (.ireturn, 1) := by decide +kernel
theorem dX4_empty_0 : decode cX4_empty 0 = .ok (.aload_n 0, 1) := by decide +kernel
theorem dX4_empty_1 : decode cX4_empty 1 = .ok (.iconst 0, 1) := by decide +kernel
theorem dX4_empty_2 : decode cX4_empty 2 = .ok (.putfield 9, 3) := by decide +kernel
theorem dX4_empty_5 : decode cX4_empty 5 = .ok (.aload_n 0, 1) := by decide +kernel
theorem dX4_empty_6 : decode cX4_empty 6 = .ok (.iconst 0, 1) := by decide +kernel
theorem dX4_empty_7 : decode cX4_empty 7 = .ok (.putfield 18, 3) := by decide +kernel
theorem dX4_empty_10 : decode cX4_empty 10 = .ok (.return_, 1) := by decide +kernel
theorem dX4_endsAt_0 : decode cX4_endsAt 0 = .ok (.iload_n 1, 1) := by decide +kernel
theorem dX4_endsAt_1 : decode cX4_endsAt 1 = .ok (.aload_n 0, 1) := by decide +kernel
theorem dX4_endsAt_2 : decode cX4_endsAt 2 = .ok (.getfield 9, 3) := by decide +kernel
theorem dX4_endsAt_5 : decode cX4_endsAt 5 = .ok (.if_icmp .ge 15, 3) := by decide +kernel
theorem dX4_endsAt_8 : decode cX4_endsAt 8 = .ok (.aload_n 0, 1) := by decide +kernel
theorem dX4_endsAt_9 : decode cX4_endsAt 9 = .ok (.getfield 28, 3) := by decide +kernel
theorem dX4_endsAt_12 : decode cX4_endsAt 12 = .ok (.iload_n 1, 1) := by decide +kernel
theorem dX4_endsAt_13 : decode cX4_endsAt 13 = .ok (.iaload, 1) := by decide +kernel
theorem dX4_endsAt_14 : decode cX4_endsAt 14 = .ok (.sipush 515, 3) := by decide +kernel
theorem dX4_endsAt_17 : decode cX4_endsAt 17 = .ok (.if_icmp .ne 7, 3) := by decide +kernel
theorem dX4_endsAt_20 : decode cX4_endsAt 20 = .ok (.iconst 1, 1) := by decide +kernel
theorem dX4_endsAt_21 : decode cX4_endsAt 21 = .ok (.goto 4, 3) := by decide +kernel
theorem dX4_endsAt_24 : decode cX4_endsAt 24 = .ok (.iconst 0, 1) := by decide +kernel
theorem dX4_endsAt_25 : decode cX4_endsAt 25 = .ok (.ireturn, 1) := by decide +kernel
theorem dX4_put_0 : decode cX4_put 0 = .ok (.aload_n 0, 1) := by decide +kernel
theorem dX4_put_1 : decode cX4_put 1 = .ok (.getfield 9, 3) := by decide +kernel
theorem dX4_put_4 : decode cX4_put 4 = .ok (.aload_n 0, 1) := by decide +kernel
theorem dX4_put_5 : decode cX4_put 5 = .ok (.getfield 28, 3) := by decide +kernel
theorem dX4_put_8 : decode cX4_put 8 = .ok (.arraylength, 1) := by decide +kernel
theorem dX4_put_9 : decode cX4_put 9 = .ok (.if_icmp .ge 26, 3) := by decide +kernel
theorem dX4_put_12 : decode cX4_put 12 = .ok (.aload_n 0, 1) := by decide +kernel
theorem dX4_put_13 : decode cX4_put 13 = .ok (.getfield 28, 3) := by decide +kernel
theorem dX4_put_16 : decode cX4_put 16 = .ok (.aload_n 0, 1) := by decide +kernel
theorem dX4_put_17 : decode cX4_put 17 = .ok (.getfield 9, 3) := by decide +kernel
theorem dX4_put_20 : decode cX4_put 20 = .ok (.iload_n 1, 1) := by decide +kernel
theorem dX4_put_21 : decode cX4_put 21 = .ok (.iastore, 1) := by decide +kernel
theorem dX4_put_22 : decode cX4_put 22 = .ok (.aload_n 0, 1) := by decide +kernel
theorem dX4_put_23 : decode cX4_put 23 = .ok (.dup, 1) := by decide +kernel
theorem dX4_put_24 : decode cX4_put 24 = .ok (.getfield 9, 3) := by decide +kernel
theorem dX4_put_27 : decode cX4_put 27 = .ok (.iconst 1, 1) := by decide +kernel
theorem dX4_put_28 : decode cX4_put 28 = .ok (.iadd, 1) := by decide +kernel
theorem dX4_put_29 : decode cX4_put 29 = .ok (.putfield 9, 3) := by decide +kernel
theorem dX4_put_32 : decode cX4_put 32 = .ok (.goto 8, 3) := by decide +kernel
theorem dX4_put_35 : decode cX4_put 35 = .ok (.aload_n 0, 1) := by decide +kernel
theorem dX4_put_36 : decode cX4_put 36 = .ok (.iconst 1, 1) := by decide +kernel
theorem dX4_put_37 : decode cX4_put 37 = .ok (.putfield 18, 3) := by decide +kernel
theorem dX4_put_40 : decode cX4_put 40 = .ok (.return_, 1) := by decide +kernel
theorem dX4_size_0 : decode cX4_size 0 = .ok (.aload_n 0, 1) := by decide +kernel
theorem dX4_size_1 : decode cX4_size 1 = .ok (.getfield 35, 3) := by decide +kernel
theorem dX4_size_4 : decode cX4_size 4 = .ok (.aload_n 0, 1) := by decide +kernel
theorem dX4_size_5 : decode cX4_size 5 = .ok (.getfield 9, 3) := by decide +kernel
theorem dX4_size_8 : decode cX4_size 8 = .ok (.iaload, 1) := by decide +kernel
theorem dX4_size_9 : decode cX4_size 9 = .ok (.ireturn, 1) := by decide +kernel
theorem dX9_areAlike_0 : decode cX9_areAlike 0 = .ok (.iload_n 0, 1) := by decide +kernel
theorem dX9_areAlike_1 : decode cX9_areAlike 1 = .ok (.iload_n 1, 1) := by decide +kernel
theorem dX9_areAlike_2 : decode cX9_areAlike 2 = .ok (.if_icmp .eq 31, 3) := by decide +kernel
theorem dX9_areAlike_5 : decode cX9_areAlike 5 = .ok (.iload_n 0, 1) := by decide +kernel
theorem dX9_areAlike_6 : decode cX9_areAlike 6 = .ok (.sipush 256, 3) := by decide +kernel
theorem dX9_areAlike_9 : decode cX9_areAlike 9 = .ok (.if_icmp .lt 28, 3) := by decide +kernel
theorem dX9_areAlike_12 : decode cX9_areAlike 12 = .ok (.iload_n 0, 1) := by decide +kernel
theorem dX9_areAlike_13 : decode cX9_areAlike 13 = .ok (.sipush 512, 3) := by decide +kernel
theorem dX9_areAlike_16 : decode cX9_areAlike 16 = .ok (.if_icmp .gt 21, 3) := by decide +kernel
theorem dX9_areAlike_19 : decode cX9_areAlike 19 = .ok (.iload_n 1, 1) := by decide +kernel
theorem dX9_areAlike_20 : decode cX9_areAlike 20 = .ok (.sipush 256, 3) := by decide +kernel
theorem dX9_areAlike_23 : decode cX9_areAlike 23 = .ok (.if_icmp .lt 14, 3) := by decide +kernel
theorem dX9_areAlike_26 : decode cX9_areAlike 26 = .ok (.iload_n 1, 1) := by decide +kernel
theorem dX9_areAlike_27 : decode cX9_areAlike 27 = .ok (.sipush 512, 3) := by decide +kernel
theorem dX9_areAlike_30 : decode cX9_areAlike 30 = .ok (.if_icmp .gt 7, 3) := by decide +kernel
theorem dX9_areAlike_33 : decode cX9_areAlike 33 = .ok (.iconst 1, 1) := by decide +kernel
theorem dX9_areAlike_34 : decode cX9_areAlike 34 = .ok (.goto 4, 3) := by decide +kernel
theorem dX9_areAlike_37 : decode cX9_areAlike 37 = .ok (.iconst 0, 1) := by decide +kernel
theorem dX9_areAlike_38 : decode cX9_areAlike 38 = .ok (.ireturn, 1) := by decide +kernel
theorem dX9_costOfFusing_0 : decode cX9_costOfFusing 0 = .ok (.iload_n 0, 1) := by decide +kernel
theorem dX9_costOfFusing_1 : decode cX9_costOfFusing 1 = .ok (.iload_n 1, 1) := by decide +kernel
theorem dX9_costOfFusing_2 : decode cX9_costOfFusing 2 = .ok (.if_icmp .eq 35, 3) := by decide +kernel
theorem dX9_costOfFusing_5 : decode cX9_costOfFusing 5 = .ok (.iload_n 0, 1) := by decide +kernel
theorem dX9_costOfFusing_6 : decode cX9_costOfFusing 6 = .ok (.sipush 256, 3) := by decide +kernel
theorem dX9_costOfFusing_9 : decode cX9_costOfFusing 9 = .ok (.if_icmp .lt 28, 3) := by decide +kernel
theorem dX9_costOfFusing_12 : decode cX9_costOfFusing 12 = .ok (.iload_n 0, 1) := by decide +kernel
theorem dX9_costOfFusing_13 : decode cX9_costOfFusing 13 = .ok (.sipush 512, 3) := by decide +kernel
theorem dX9_costOfFusing_16 : decode cX9_costOfFusing 16 = .ok (.if_icmp .ge 21, 3) := by decide +kernel
theorem dX9_costOfFusing_19 : decode cX9_costOfFusing 19 = .ok (.iload_n 1, 1) := by decide +kernel
theorem dX9_costOfFusing_20 : decode cX9_costOfFusing 20 = .ok (.sipush 256, 3) := by decide +kernel
theorem dX9_costOfFusing_23 : decode cX9_costOfFusing 23 = .ok (.if_icmp .lt 14, 3) := by decide +kernel
theorem dX9_costOfFusing_26 : decode cX9_costOfFusing 26 = .ok (.iload_n 1, 1) := by decide +kernel
theorem dX9_costOfFusing_27 : decode cX9_costOfFusing 27 = .ok (.sipush 512, 3) := by decide +kernel
theorem dX9_costOfFusing_30 : decode cX9_costOfFusing 30 = .ok (.if_icmp .ge 7, 3) := by decide +kernel
theorem dX9_costOfFusing_33 : decode cX9_costOfFusing 33 = .ok (.iconst 1, 1) := by decide +kernel
theorem dX9_costOfFusing_34 : decode cX9_costOfFusing 34 = .ok (.goto 4, 3) := by decide +kernel
theorem dX9_costOfFusing_37 : decode cX9_costOfFusing 37 = .ok (.iconst 0, 1) := by decide +kernel
theorem dX9_costOfFusing_38 : decode cX9_costOfFusing 38 = .ok (.ireturn, 1) := by decide +kernel
theorem dX9_fused_0 : decode cX9_fused 0 = .ok (.iload_n 0, 1) := by decide +kernel
theorem dX9_fused_1 : decode cX9_fused 1 = .ok (.iload_n 1, 1) := by decide +kernel
theorem dX9_fused_2 : decode cX9_fused 2 = .ok (.if_icmp .ne 7, 3) := by decide +kernel
theorem dX9_fused_5 : decode cX9_fused 5 = .ok (.iload_n 0, 1) := by decide +kernel
theorem dX9_fused_6 : decode cX9_fused 6 = .ok (.goto 6, 3) := by decide +kernel
theorem dX9_fused_9 : decode cX9_fused 9 = .ok (.sipush 512, 3) := by decide +kernel
theorem dX9_fused_12 : decode cX9_fused 12 = .ok (.ireturn, 1) := by decide +kernel
theorem dX9_isLeaf_0 : decode cX9_isLeaf 0 = .ok (.iload_n 0, 1) := by decide +kernel
theorem dX9_isLeaf_1 : decode cX9_isLeaf 1 = .ok (.ifCond .lt 14, 3) := by decide +kernel
theorem dX9_isLeaf_4 : decode cX9_isLeaf 4 = .ok (.iload_n 0, 1) := by decide +kernel
theorem dX9_isLeaf_5 : decode cX9_isLeaf 5 = .ok (.sipush 512, 3) := by decide +kernel
theorem dX9_isLeaf_8 : decode cX9_isLeaf 8 = .ok (.if_icmp .gt 7, 3) := by decide +kernel
theorem dX9_isLeaf_11 : decode cX9_isLeaf 11 = .ok (.iconst 1, 1) := by decide +kernel
theorem dX9_isLeaf_12 : decode cX9_isLeaf 12 = .ok (.goto 4, 3) := by decide +kernel
theorem dX9_isLeaf_15 : decode cX9_isLeaf 15 = .ok (.iconst 0, 1) := by decide +kernel
theorem dX9_isLeaf_16 : decode cX9_isLeaf 16 = .ok (.ireturn, 1) := by decide +kernel
theorem dX9_isOpen_0 : decode cX9_isOpen 0 = .ok (.iload_n 0, 1) := by decide +kernel
theorem dX9_isOpen_1 : decode cX9_isOpen 1 = .ok (.sipush 513, 3) := by decide +kernel
theorem dX9_isOpen_4 : decode cX9_isOpen 4 = .ok (.if_icmp .eq 10, 3) := by decide +kernel
theorem dX9_isOpen_7 : decode cX9_isOpen 7 = .ok (.iload_n 0, 1) := by decide +kernel
theorem dX9_isOpen_8 : decode cX9_isOpen 8 = .ok (.sipush 514, 3) := by decide +kernel
theorem dX9_isOpen_11 : decode cX9_isOpen 11 = .ok (.if_icmp .ne 7, 3) := by decide +kernel
theorem dX9_isOpen_14 : decode cX9_isOpen 14 = .ok (.iconst 1, 1) := by decide +kernel
theorem dX9_isOpen_15 : decode cX9_isOpen 15 = .ok (.goto 4, 3) := by decide +kernel
theorem dX9_isOpen_18 : decode cX9_isOpen 18 = .ok (.iconst 0, 1) := by decide +kernel
theorem dX9_isOpen_19 : decode cX9_isOpen 19 = .ok (.ireturn, 1) := by decide +kernel
theorem dX9_isTag_0 : decode cX9_isTag 0 = .ok (.iload_n 0, 1) := by decide +kernel
theorem dX9_isTag_1 : decode cX9_isTag 1 = .ok (.ifCond .lt 14, 3) := by decide +kernel
theorem dX9_isTag_4 : decode cX9_isTag 4 = .ok (.iload_n 0, 1) := by decide +kernel
theorem dX9_isTag_5 : decode cX9_isTag 5 = .ok (.sipush 256, 3) := by decide +kernel
theorem dX9_isTag_8 : decode cX9_isTag 8 = .ok (.if_icmp .ge 7, 3) := by decide +kernel
theorem dX9_isTag_11 : decode cX9_isTag 11 = .ok (.iconst 1, 1) := by decide +kernel
theorem dX9_isTag_12 : decode cX9_isTag 12 = .ok (.goto 4, 3) := by decide +kernel
theorem dX9_isTag_15 : decode cX9_isTag 15 = .ok (.iconst 0, 1) := by decide +kernel
theorem dX9_isTag_16 : decode cX9_isTag 16 = .ok (.ireturn, 1) := by decide +kernel
theorem dX9_isWord_0 : decode cX9_isWord 0 = .ok (.iload_n 0, 1) := by decide +kernel
theorem dX9_isWord_1 : decode cX9_isWord 1 = .ok (.sipush 256, 3) := by decide +kernel
theorem dX9_isWord_4 : decode cX9_isWord 4 = .ok (.if_icmp .lt 14, 3) := by decide +kernel
theorem dX9_isWord_7 : decode cX9_isWord 7 = .ok (.iload_n 0, 1) := by decide +kernel
theorem dX9_isWord_8 : decode cX9_isWord 8 = .ok (.sipush 512, 3) := by decide +kernel
theorem dX9_isWord_11 : decode cX9_isWord 11 = .ok (.if_icmp .ge 7, 3) := by decide +kernel
theorem dX9_isWord_14 : decode cX9_isWord 14 = .ok (.iconst 1, 1) := by decide +kernel
theorem dX9_isWord_15 : decode cX9_isWord 15 = .ok (.goto 4, 3) := by decide +kernel
theorem dX9_isWord_18 : decode cX9_isWord 18 = .ok (.iconst 0, 1) := by decide +kernel
theorem dX9_isWord_19 : decode cX9_isWord 19 = .ok (.ireturn, 1) := by decide +kernel
/-! the class: what a sign is; and the simplest of a row -/
set_option maxHeartbeats 4000000 in
set_option maxRecDepth 100000 in
theorem s_isTag (l : Launch) (dC : Nat → ClassId) (dI : Nat → Nat → Nat) (cI cZ cII cIII : ClassId) (h0 sz : Nat) (μ : va_M) (v : Int) (h_v : inR v) : Met l yX9_isTag (Cond.code yX9_isTag cX9_isTag 1 (some .boolean) :: wsG) ({ frames := 1, cells := 0, slots := 0, locals := 14 } : Room) (va_Pc [.int (iZ (v))] (fun U => U.heap.size = sz ∧ va_P (dC, dI) vwCl (fw (sE cI cZ cII cIII h0) h0 233 μ) U.heap ∧ va_K (dC, dI) vwCl (sT cI cZ cII cIII) U ∧ xM U)) (va_Qi (fun (r9 : Int32) (u : va_M × Int) => r9 = iZ u.2 ∧ (fun (u : va_M) (r : Int) => u = μ ∧ r = if 0 ≤ v ∧ v < 256 then 1 else 0) u.1 u.2) (fun u t => va_P (dC, dI) vwCl (fw (sE cI cZ cII cIII h0) h0 233 u.1) t.heap ∧ va_K (dC, dI) vwCl (sT cI cZ cII cIII) t) (fA h0 233 sz)) 0 0 (fA h0 233 sz) := by
  refine Met.ofW (cc := cX9_isTag) (maxL := 1) (ret := (some .boolean)) (by decide) rfl ?_
  intro p e s m args below meth c s₁ B hml hv
  obtain ⟨rfl, hsz, hP, hK, hM⟩ := hv
  have hx := B.exec
  have hb := B.bytes
  have hr := B.returns
  have hts : ∀ w ∈ wsG, w.before _ s = true := hG_of (atoms_spec (ws := (Cond.code yX9_isTag cX9_isTag 1 (some .boolean) :: wsG)) B.pre)
  have hown : s.vm.findClass RX9 = some m.cls := findClass_of_methodNamed B.named
  have hlocks := B.notSynchronized
  subst hsz
  have hS : va_S (fA h0 233 s.heap.size) s.heap s.heap [] := va_S.rf
  have hl := lv_entry ([.int (iZ (v))]) (n := 1) (Nat.le_of_ble_eq_true rfl)
  rw [lg_entry_eq]
  generalize (lg_sl ([.int (iZ (v))]) ++ List.replicate (1 - (lg_sl ([.int (iZ (v))])).length) Slot.unset).toArray = ls at hl ⊢
  have hl : lv_has ls 1 [(0, .int (iZ (v)))] := hl
  refine lv_iload_n hx hb dX9_isTag_0 rfl (lv_at hl 0 rfl) ?_
  refine fz_if_lt (tgt := 15) (by constructor <;> (first | ((try clear hsz); (try clear s₁); omega) | omega)) hx hb dX9_isTag_1 (by decide) (fun c1_ => ?_) (fun c1_ => ?_)
  · refine lv_iconst (v := iZ 0) hx hb dX9_isTag_15 rfl ?_
    exact W.zret (v := iZ (0)) hx hb hr (by decide +kernel) (fun t9 ht9 hW9 => ⟨⟨iZ (0), (μ, 0), rfl, ⟨rfl, (by
                dsimp only
                refine ⟨rfl, ?_⟩
                split <;> (first | ((try clear hsz); (try clear s₁); omega) | omega))⟩, by rw [ht9]; exact hP, va_K.moved hW9.alike hK⟩, hS.F ht9⟩) hS.2.2 dX9_isTag_16
  · refine lv_iload_n hx hb dX9_isTag_4 rfl (lv_at hl 0 rfl) ?_
    refine lv_sipush (v := iZ 256) hx hb dX9_isTag_5 rfl ?_
    refine fz_icmp_ge (tgt := 15) (by constructor <;> (first | ((try clear hsz); (try clear s₁); omega) | omega)) (by decide) hx hb dX9_isTag_8 (by decide) (fun c8_ => ?_) (fun c8_ => ?_)
    · refine lv_iconst (v := iZ 0) hx hb dX9_isTag_15 rfl ?_
      exact W.zret (v := iZ (0)) hx hb hr (by decide +kernel) (fun t9 ht9 hW9 => ⟨⟨iZ (0), (μ, 0), rfl, ⟨rfl, (by
                    dsimp only
                    refine ⟨rfl, ?_⟩
                    split <;> (first | ((try clear hsz); (try clear s₁); omega) | omega))⟩, by rw [ht9]; exact hP, va_K.moved hW9.alike hK⟩, hS.F ht9⟩) hS.2.2 dX9_isTag_16
    · refine lv_iconst (v := iZ 1) hx hb dX9_isTag_11 rfl ?_
      refine lv_goto (tgt := 16) hx hb dX9_isTag_12 (by decide) ?_
      exact W.zret (v := iZ (1)) hx hb hr (by decide +kernel) (fun t9 ht9 hW9 => ⟨⟨iZ (1), (μ, 1), rfl, ⟨rfl, (by
                    dsimp only
                    refine ⟨rfl, ?_⟩
                    split <;> (first | ((try clear hsz); (try clear s₁); omega) | omega))⟩, by rw [ht9]; exact hP, va_K.moved hW9.alike hK⟩, hS.F ht9⟩) hS.2.2 dX9_isTag_16
set_option maxHeartbeats 4000000 in
set_option maxRecDepth 100000 in
theorem s_isWord (l : Launch) (dC : Nat → ClassId) (dI : Nat → Nat → Nat) (cI cZ cII cIII : ClassId) (h0 sz : Nat) (μ : va_M) (v : Int) (h_v : inR v) : Met l yX9_isWord (Cond.code yX9_isWord cX9_isWord 1 (some .boolean) :: wsG) ({ frames := 1, cells := 0, slots := 0, locals := 14 } : Room) (va_Pc [.int (iZ (v))] (fun U => U.heap.size = sz ∧ va_P (dC, dI) vwCl (fw (sE cI cZ cII cIII h0) h0 233 μ) U.heap ∧ va_K (dC, dI) vwCl (sT cI cZ cII cIII) U ∧ xM U)) (va_Qi (fun (r9 : Int32) (u : va_M × Int) => r9 = iZ u.2 ∧ (fun (u : va_M) (r : Int) => u = μ ∧ r = if 256 ≤ v ∧ v < 512 then 1 else 0) u.1 u.2) (fun u t => va_P (dC, dI) vwCl (fw (sE cI cZ cII cIII h0) h0 233 u.1) t.heap ∧ va_K (dC, dI) vwCl (sT cI cZ cII cIII) t) (fA h0 233 sz)) 0 0 (fA h0 233 sz) := by
  refine Met.ofW (cc := cX9_isWord) (maxL := 1) (ret := (some .boolean)) (by decide) rfl ?_
  intro p e s m args below meth c s₁ B hml hv
  obtain ⟨rfl, hsz, hP, hK, hM⟩ := hv
  have hx := B.exec
  have hb := B.bytes
  have hr := B.returns
  have hts : ∀ w ∈ wsG, w.before _ s = true := hG_of (atoms_spec (ws := (Cond.code yX9_isWord cX9_isWord 1 (some .boolean) :: wsG)) B.pre)
  have hown : s.vm.findClass RX9 = some m.cls := findClass_of_methodNamed B.named
  have hlocks := B.notSynchronized
  subst hsz
  have hS : va_S (fA h0 233 s.heap.size) s.heap s.heap [] := va_S.rf
  have hl := lv_entry ([.int (iZ (v))]) (n := 1) (Nat.le_of_ble_eq_true rfl)
  rw [lg_entry_eq]
  generalize (lg_sl ([.int (iZ (v))]) ++ List.replicate (1 - (lg_sl ([.int (iZ (v))])).length) Slot.unset).toArray = ls at hl ⊢
  have hl : lv_has ls 1 [(0, .int (iZ (v)))] := hl
  refine lv_iload_n hx hb dX9_isWord_0 rfl (lv_at hl 0 rfl) ?_
  refine lv_sipush (v := iZ 256) hx hb dX9_isWord_1 rfl ?_
  refine fz_icmp_lt (tgt := 18) (by constructor <;> (first | ((try clear hsz); (try clear s₁); omega) | omega)) (by decide) hx hb dX9_isWord_4 (by decide) (fun c4_ => ?_) (fun c4_ => ?_)
  · refine lv_iconst (v := iZ 0) hx hb dX9_isWord_18 rfl ?_
    exact W.zret (v := iZ (0)) hx hb hr (by decide +kernel) (fun t9 ht9 hW9 => ⟨⟨iZ (0), (μ, 0), rfl, ⟨rfl, (by
                dsimp only
                refine ⟨rfl, ?_⟩
                split <;> (first | ((try clear hsz); (try clear s₁); omega) | omega))⟩, by rw [ht9]; exact hP, va_K.moved hW9.alike hK⟩, hS.F ht9⟩) hS.2.2 dX9_isWord_19
  · refine lv_iload_n hx hb dX9_isWord_7 rfl (lv_at hl 0 rfl) ?_
    refine lv_sipush (v := iZ 512) hx hb dX9_isWord_8 rfl ?_
    refine fz_icmp_ge (tgt := 18) (by constructor <;> (first | ((try clear hsz); (try clear s₁); omega) | omega)) (by decide) hx hb dX9_isWord_11 (by decide) (fun c11_ => ?_) (fun c11_ => ?_)
    · refine lv_iconst (v := iZ 0) hx hb dX9_isWord_18 rfl ?_
      exact W.zret (v := iZ (0)) hx hb hr (by decide +kernel) (fun t9 ht9 hW9 => ⟨⟨iZ (0), (μ, 0), rfl, ⟨rfl, (by
                    dsimp only
                    refine ⟨rfl, ?_⟩
                    split <;> (first | ((try clear hsz); (try clear s₁); omega) | omega))⟩, by rw [ht9]; exact hP, va_K.moved hW9.alike hK⟩, hS.F ht9⟩) hS.2.2 dX9_isWord_19
    · refine lv_iconst (v := iZ 1) hx hb dX9_isWord_14 rfl ?_
      refine lv_goto (tgt := 19) hx hb dX9_isWord_15 (by decide) ?_
      exact W.zret (v := iZ (1)) hx hb hr (by decide +kernel) (fun t9 ht9 hW9 => ⟨⟨iZ (1), (μ, 1), rfl, ⟨rfl, (by
                    dsimp only
                    refine ⟨rfl, ?_⟩
                    split <;> (first | ((try clear hsz); (try clear s₁); omega) | omega))⟩, by rw [ht9]; exact hP, va_K.moved hW9.alike hK⟩, hS.F ht9⟩) hS.2.2 dX9_isWord_19
set_option maxHeartbeats 4000000 in
set_option maxRecDepth 100000 in
theorem s_isLeaf (l : Launch) (dC : Nat → ClassId) (dI : Nat → Nat → Nat) (cI cZ cII cIII : ClassId) (h0 sz : Nat) (μ : va_M) (v : Int) (h_v : inR v) : Met l yX9_isLeaf (Cond.code yX9_isLeaf cX9_isLeaf 1 (some .boolean) :: wsG) ({ frames := 1, cells := 0, slots := 0, locals := 14 } : Room) (va_Pc [.int (iZ (v))] (fun U => U.heap.size = sz ∧ va_P (dC, dI) vwCl (fw (sE cI cZ cII cIII h0) h0 233 μ) U.heap ∧ va_K (dC, dI) vwCl (sT cI cZ cII cIII) U ∧ xM U)) (va_Qi (fun (r9 : Int32) (u : va_M × Int) => r9 = iZ u.2 ∧ (fun (u : va_M) (r : Int) => u = μ ∧ r = if 0 ≤ v ∧ v ≤ 512 then 1 else 0) u.1 u.2) (fun u t => va_P (dC, dI) vwCl (fw (sE cI cZ cII cIII h0) h0 233 u.1) t.heap ∧ va_K (dC, dI) vwCl (sT cI cZ cII cIII) t) (fA h0 233 sz)) 0 0 (fA h0 233 sz) := by
  refine Met.ofW (cc := cX9_isLeaf) (maxL := 1) (ret := (some .boolean)) (by decide) rfl ?_
  intro p e s m args below meth c s₁ B hml hv
  obtain ⟨rfl, hsz, hP, hK, hM⟩ := hv
  have hx := B.exec
  have hb := B.bytes
  have hr := B.returns
  have hts : ∀ w ∈ wsG, w.before _ s = true := hG_of (atoms_spec (ws := (Cond.code yX9_isLeaf cX9_isLeaf 1 (some .boolean) :: wsG)) B.pre)
  have hown : s.vm.findClass RX9 = some m.cls := findClass_of_methodNamed B.named
  have hlocks := B.notSynchronized
  subst hsz
  have hS : va_S (fA h0 233 s.heap.size) s.heap s.heap [] := va_S.rf
  have hl := lv_entry ([.int (iZ (v))]) (n := 1) (Nat.le_of_ble_eq_true rfl)
  rw [lg_entry_eq]
  generalize (lg_sl ([.int (iZ (v))]) ++ List.replicate (1 - (lg_sl ([.int (iZ (v))])).length) Slot.unset).toArray = ls at hl ⊢
  have hl : lv_has ls 1 [(0, .int (iZ (v)))] := hl
  refine lv_iload_n hx hb dX9_isLeaf_0 rfl (lv_at hl 0 rfl) ?_
  refine fz_if_lt (tgt := 15) (by constructor <;> (first | ((try clear hsz); (try clear s₁); omega) | omega)) hx hb dX9_isLeaf_1 (by decide) (fun c1_ => ?_) (fun c1_ => ?_)
  · refine lv_iconst (v := iZ 0) hx hb dX9_isLeaf_15 rfl ?_
    exact W.zret (v := iZ (0)) hx hb hr (by decide +kernel) (fun t9 ht9 hW9 => ⟨⟨iZ (0), (μ, 0), rfl, ⟨rfl, (by
                dsimp only
                refine ⟨rfl, ?_⟩
                split <;> (first | ((try clear hsz); (try clear s₁); omega) | omega))⟩, by rw [ht9]; exact hP, va_K.moved hW9.alike hK⟩, hS.F ht9⟩) hS.2.2 dX9_isLeaf_16
  · refine lv_iload_n hx hb dX9_isLeaf_4 rfl (lv_at hl 0 rfl) ?_
    refine lv_sipush (v := iZ 512) hx hb dX9_isLeaf_5 rfl ?_
    refine fz_icmp_gt (tgt := 15) (by constructor <;> (first | ((try clear hsz); (try clear s₁); omega) | omega)) (by decide) hx hb dX9_isLeaf_8 (by decide) (fun c8_ => ?_) (fun c8_ => ?_)
    · refine lv_iconst (v := iZ 0) hx hb dX9_isLeaf_15 rfl ?_
      exact W.zret (v := iZ (0)) hx hb hr (by decide +kernel) (fun t9 ht9 hW9 => ⟨⟨iZ (0), (μ, 0), rfl, ⟨rfl, (by
                    dsimp only
                    refine ⟨rfl, ?_⟩
                    split <;> (first | ((try clear hsz); (try clear s₁); omega) | omega))⟩, by rw [ht9]; exact hP, va_K.moved hW9.alike hK⟩, hS.F ht9⟩) hS.2.2 dX9_isLeaf_16
    · refine lv_iconst (v := iZ 1) hx hb dX9_isLeaf_11 rfl ?_
      refine lv_goto (tgt := 16) hx hb dX9_isLeaf_12 (by decide) ?_
      exact W.zret (v := iZ (1)) hx hb hr (by decide +kernel) (fun t9 ht9 hW9 => ⟨⟨iZ (1), (μ, 1), rfl, ⟨rfl, (by
                    dsimp only
                    refine ⟨rfl, ?_⟩
                    split <;> (first | ((try clear hsz); (try clear s₁); omega) | omega))⟩, by rw [ht9]; exact hP, va_K.moved hW9.alike hK⟩, hS.F ht9⟩) hS.2.2 dX9_isLeaf_16
set_option maxHeartbeats 4000000 in
set_option maxRecDepth 100000 in
theorem s_isOpen (l : Launch) (dC : Nat → ClassId) (dI : Nat → Nat → Nat) (cI cZ cII cIII : ClassId) (h0 sz : Nat) (μ : va_M) (v : Int) (h_v : inR v) : Met l yX9_isOpen (Cond.code yX9_isOpen cX9_isOpen 1 (some .boolean) :: wsG) ({ frames := 1, cells := 0, slots := 0, locals := 14 } : Room) (va_Pc [.int (iZ (v))] (fun U => U.heap.size = sz ∧ va_P (dC, dI) vwCl (fw (sE cI cZ cII cIII h0) h0 233 μ) U.heap ∧ va_K (dC, dI) vwCl (sT cI cZ cII cIII) U ∧ xM U)) (va_Qi (fun (r9 : Int32) (u : va_M × Int) => r9 = iZ u.2 ∧ (fun (u : va_M) (r : Int) => u = μ ∧ r = if v = 513 ∨ v = 514 then 1 else 0) u.1 u.2) (fun u t => va_P (dC, dI) vwCl (fw (sE cI cZ cII cIII h0) h0 233 u.1) t.heap ∧ va_K (dC, dI) vwCl (sT cI cZ cII cIII) t) (fA h0 233 sz)) 0 0 (fA h0 233 sz) := by
  refine Met.ofW (cc := cX9_isOpen) (maxL := 1) (ret := (some .boolean)) (by decide) rfl ?_
  intro p e s m args below meth c s₁ B hml hv
  obtain ⟨rfl, hsz, hP, hK, hM⟩ := hv
  have hx := B.exec
  have hb := B.bytes
  have hr := B.returns
  have hts : ∀ w ∈ wsG, w.before _ s = true := hG_of (atoms_spec (ws := (Cond.code yX9_isOpen cX9_isOpen 1 (some .boolean) :: wsG)) B.pre)
  have hown : s.vm.findClass RX9 = some m.cls := findClass_of_methodNamed B.named
  have hlocks := B.notSynchronized
  subst hsz
  have hS : va_S (fA h0 233 s.heap.size) s.heap s.heap [] := va_S.rf
  have hl := lv_entry ([.int (iZ (v))]) (n := 1) (Nat.le_of_ble_eq_true rfl)
  rw [lg_entry_eq]
  generalize (lg_sl ([.int (iZ (v))]) ++ List.replicate (1 - (lg_sl ([.int (iZ (v))])).length) Slot.unset).toArray = ls at hl ⊢
  have hl : lv_has ls 1 [(0, .int (iZ (v)))] := hl
  refine lv_iload_n hx hb dX9_isOpen_0 rfl (lv_at hl 0 rfl) ?_
  refine lv_sipush (v := iZ 513) hx hb dX9_isOpen_1 rfl ?_
  refine fz_icmp_eq (tgt := 14) (by constructor <;> (first | ((try clear hsz); (try clear s₁); omega) | omega)) (by decide) hx hb dX9_isOpen_4 (by decide) (fun c4_ => ?_) (fun c4_ => ?_)
  · refine lv_iconst (v := iZ 1) hx hb dX9_isOpen_14 rfl ?_
    refine lv_goto (tgt := 19) hx hb dX9_isOpen_15 (by decide) ?_
    exact W.zret (v := iZ (1)) hx hb hr (by decide +kernel) (fun t9 ht9 hW9 => ⟨⟨iZ (1), (μ, 1), rfl, ⟨rfl, (by
                dsimp only
                refine ⟨rfl, ?_⟩
                split <;> (first | ((try clear hsz); (try clear s₁); omega) | omega))⟩, by rw [ht9]; exact hP, va_K.moved hW9.alike hK⟩, hS.F ht9⟩) hS.2.2 dX9_isOpen_19
  · refine lv_iload_n hx hb dX9_isOpen_7 rfl (lv_at hl 0 rfl) ?_
    refine lv_sipush (v := iZ 514) hx hb dX9_isOpen_8 rfl ?_
    refine fz_icmp_ne (tgt := 18) (by constructor <;> (first | ((try clear c4_); (try clear hsz); (try clear s₁); omega) | omega)) (by decide) hx hb dX9_isOpen_11 (by decide) (fun c11_ => ?_) (fun c11_ => ?_)
    · refine lv_iconst (v := iZ 0) hx hb dX9_isOpen_18 rfl ?_
      exact W.zret (v := iZ (0)) hx hb hr (by decide +kernel) (fun t9 ht9 hW9 => ⟨⟨iZ (0), (μ, 0), rfl, ⟨rfl, (by
                    dsimp only
                    refine ⟨rfl, ?_⟩
                    split <;> (first | ((try clear hsz); (try clear s₁); omega) | omega))⟩, by rw [ht9]; exact hP, va_K.moved hW9.alike hK⟩, hS.F ht9⟩) hS.2.2 dX9_isOpen_19
    · refine lv_iconst (v := iZ 1) hx hb dX9_isOpen_14 rfl ?_
      refine lv_goto (tgt := 19) hx hb dX9_isOpen_15 (by decide) ?_
      exact W.zret (v := iZ (1)) hx hb hr (by decide +kernel) (fun t9 ht9 hW9 => ⟨⟨iZ (1), (μ, 1), rfl, ⟨rfl, (by
                    dsimp only
                    refine ⟨rfl, ?_⟩
                    split <;> (first | ((try clear c4_); (try clear hsz); (try clear s₁); omega) | omega))⟩, by rw [ht9]; exact hP, va_K.moved hW9.alike hK⟩, hS.F ht9⟩) hS.2.2 dX9_isOpen_19
set_option maxHeartbeats 4000000 in
set_option maxRecDepth 100000 in
theorem s_areAlike (l : Launch) (dC : Nat → ClassId) (dI : Nat → Nat → Nat) (cI cZ cII cIII : ClassId) (h0 sz : Nat) (μ : va_M) (v : Int) (w : Int) (h_v : inR v) (h_w : inR w) : Met l yX9_areAlike (Cond.code yX9_areAlike cX9_areAlike 2 (some .boolean) :: wsG) ({ frames := 1, cells := 0, slots := 0, locals := 14 } : Room) (va_Pc [.int (iZ (v)), .int (iZ (w))] (fun U => U.heap.size = sz ∧ va_P (dC, dI) vwCl (fw (sE cI cZ cII cIII h0) h0 233 μ) U.heap ∧ va_K (dC, dI) vwCl (sT cI cZ cII cIII) U ∧ xM U)) (va_Qi (fun (r9 : Int32) (u : va_M × Int) => r9 = iZ u.2 ∧ (fun (u : va_M) (r : Int) => u = μ ∧ r = if v = w ∨ ((256 ≤ v ∧ v ≤ 512) ∧ (256 ≤ w ∧ w ≤ 512)) then 1 else 0) u.1 u.2) (fun u t => va_P (dC, dI) vwCl (fw (sE cI cZ cII cIII h0) h0 233 u.1) t.heap ∧ va_K (dC, dI) vwCl (sT cI cZ cII cIII) t) (fA h0 233 sz)) 0 0 (fA h0 233 sz) := by
  refine Met.ofW (cc := cX9_areAlike) (maxL := 2) (ret := (some .boolean)) (by decide) rfl ?_
  intro p e s m args below meth c s₁ B hml hv
  obtain ⟨rfl, hsz, hP, hK, hM⟩ := hv
  have hx := B.exec
  have hb := B.bytes
  have hr := B.returns
  have hts : ∀ w ∈ wsG, w.before _ s = true := hG_of (atoms_spec (ws := (Cond.code yX9_areAlike cX9_areAlike 2 (some .boolean) :: wsG)) B.pre)
  have hown : s.vm.findClass RX9 = some m.cls := findClass_of_methodNamed B.named
  have hlocks := B.notSynchronized
  subst hsz
  have hS : va_S (fA h0 233 s.heap.size) s.heap s.heap [] := va_S.rf
  have hl := lv_entry ([.int (iZ (v)), .int (iZ (w))]) (n := 2) (Nat.le_of_ble_eq_true rfl)
  rw [lg_entry_eq]
  generalize (lg_sl ([.int (iZ (v)), .int (iZ (w))]) ++ List.replicate (2 - (lg_sl ([.int (iZ (v)), .int (iZ (w))])).length) Slot.unset).toArray = ls at hl ⊢
  have hl : lv_has ls 2 [(0, .int (iZ (v))), (1, .int (iZ (w)))] := hl
  refine lv_iload_n hx hb dX9_areAlike_0 rfl (lv_at hl 0 rfl) ?_
  refine lv_iload_n hx hb dX9_areAlike_1 rfl (lv_at hl 1 rfl) ?_
  refine fz_icmp_eq (tgt := 33) (by constructor <;> (first | ((try clear hsz); (try clear s₁); omega) | omega)) (by constructor <;> (first | ((try clear hsz); (try clear s₁); omega) | omega)) hx hb dX9_areAlike_2 (by decide) (fun c2_ => ?_) (fun c2_ => ?_)
  · refine lv_iconst (v := iZ 1) hx hb dX9_areAlike_33 rfl ?_
    refine lv_goto (tgt := 38) hx hb dX9_areAlike_34 (by decide) ?_
    exact W.zret (v := iZ (1)) hx hb hr (by decide +kernel) (fun t9 ht9 hW9 => ⟨⟨iZ (1), (μ, 1), rfl, ⟨rfl, (by
                dsimp only
                refine ⟨rfl, ?_⟩
                split <;> (first | ((try clear hsz); (try clear s₁); omega) | omega))⟩, by rw [ht9]; exact hP, va_K.moved hW9.alike hK⟩, hS.F ht9⟩) hS.2.2 dX9_areAlike_38
  · refine lv_iload_n hx hb dX9_areAlike_5 rfl (lv_at hl 0 rfl) ?_
    refine lv_sipush (v := iZ 256) hx hb dX9_areAlike_6 rfl ?_
    refine fz_icmp_lt (tgt := 37) (by constructor <;> (first | ((try clear c2_); (try clear hsz); (try clear s₁); omega) | omega)) (by decide) hx hb dX9_areAlike_9 (by decide) (fun c9_ => ?_) (fun c9_ => ?_)
    · refine lv_iconst (v := iZ 0) hx hb dX9_areAlike_37 rfl ?_
      exact W.zret (v := iZ (0)) hx hb hr (by decide +kernel) (fun t9 ht9 hW9 => ⟨⟨iZ (0), (μ, 0), rfl, ⟨rfl, (by
                    dsimp only
                    refine ⟨rfl, ?_⟩
                    split <;> (first | ((try clear hsz); (try clear s₁); omega) | omega))⟩, by rw [ht9]; exact hP, va_K.moved hW9.alike hK⟩, hS.F ht9⟩) hS.2.2 dX9_areAlike_38
    · refine lv_iload_n hx hb dX9_areAlike_12 rfl (lv_at hl 0 rfl) ?_
      refine lv_sipush (v := iZ 512) hx hb dX9_areAlike_13 rfl ?_
      refine fz_icmp_gt (tgt := 37) (by constructor <;> (first | ((try clear c2_); (try clear hsz); (try clear s₁); omega) | omega)) (by decide) hx hb dX9_areAlike_16 (by decide) (fun c16_ => ?_) (fun c16_ => ?_)
      · refine lv_iconst (v := iZ 0) hx hb dX9_areAlike_37 rfl ?_
        exact W.zret (v := iZ (0)) hx hb hr (by decide +kernel) (fun t9 ht9 hW9 => ⟨⟨iZ (0), (μ, 0), rfl, ⟨rfl, (by
                        dsimp only
                        refine ⟨rfl, ?_⟩
                        split <;> (first | ((try clear hsz); (try clear s₁); omega) | omega))⟩, by rw [ht9]; exact hP, va_K.moved hW9.alike hK⟩, hS.F ht9⟩) hS.2.2 dX9_areAlike_38
      · refine lv_iload_n hx hb dX9_areAlike_19 rfl (lv_at hl 1 rfl) ?_
        refine lv_sipush (v := iZ 256) hx hb dX9_areAlike_20 rfl ?_
        refine fz_icmp_lt (tgt := 37) (by constructor <;> (first | ((try clear c16_); (try clear c9_); (try clear c2_); (try clear hsz); (try clear s₁); omega) | omega)) (by decide) hx hb dX9_areAlike_23 (by decide) (fun c23_ => ?_) (fun c23_ => ?_)
        · refine lv_iconst (v := iZ 0) hx hb dX9_areAlike_37 rfl ?_
          exact W.zret (v := iZ (0)) hx hb hr (by decide +kernel) (fun t9 ht9 hW9 => ⟨⟨iZ (0), (μ, 0), rfl, ⟨rfl, (by
                            dsimp only
                            refine ⟨rfl, ?_⟩
                            split <;> (first | ((try clear c2_); (try clear hsz); (try clear s₁); omega) | omega))⟩, by rw [ht9]; exact hP, va_K.moved hW9.alike hK⟩, hS.F ht9⟩) hS.2.2 dX9_areAlike_38
        · refine lv_iload_n hx hb dX9_areAlike_26 rfl (lv_at hl 1 rfl) ?_
          refine lv_sipush (v := iZ 512) hx hb dX9_areAlike_27 rfl ?_
          refine fz_icmp_gt (tgt := 37) (by constructor <;> (first | ((try clear c16_); (try clear c9_); (try clear c2_); (try clear hsz); (try clear s₁); omega) | omega)) (by decide) hx hb dX9_areAlike_30 (by decide) (fun c30_ => ?_) (fun c30_ => ?_)
          · refine lv_iconst (v := iZ 0) hx hb dX9_areAlike_37 rfl ?_
            exact W.zret (v := iZ (0)) hx hb hr (by decide +kernel) (fun t9 ht9 hW9 => ⟨⟨iZ (0), (μ, 0), rfl, ⟨rfl, (by
                                dsimp only
                                refine ⟨rfl, ?_⟩
                                split <;> (first | ((try clear c2_); (try clear hsz); (try clear s₁); omega) | omega))⟩, by rw [ht9]; exact hP, va_K.moved hW9.alike hK⟩, hS.F ht9⟩) hS.2.2 dX9_areAlike_38
          · refine lv_iconst (v := iZ 1) hx hb dX9_areAlike_33 rfl ?_
            refine lv_goto (tgt := 38) hx hb dX9_areAlike_34 (by decide) ?_
            exact W.zret (v := iZ (1)) hx hb hr (by decide +kernel) (fun t9 ht9 hW9 => ⟨⟨iZ (1), (μ, 1), rfl, ⟨rfl, (by
                                dsimp only
                                refine ⟨rfl, ?_⟩
                                split <;> (first | ((try clear c2_); (try clear hsz); (try clear s₁); omega) | omega))⟩, by rw [ht9]; exact hP, va_K.moved hW9.alike hK⟩, hS.F ht9⟩) hS.2.2 dX9_areAlike_38
set_option maxHeartbeats 4000000 in
set_option maxRecDepth 100000 in
theorem s_fused (l : Launch) (dC : Nat → ClassId) (dI : Nat → Nat → Nat) (cI cZ cII cIII : ClassId) (h0 sz : Nat) (μ : va_M) (v : Int) (w : Int) (h_v : inR v) (h_w : inR w) : Met l yX9_fused (Cond.code yX9_fused cX9_fused 2 (some .int) :: wsG) ({ frames := 1, cells := 0, slots := 0, locals := 14 } : Room) (va_Pc [.int (iZ (v)), .int (iZ (w))] (fun U => U.heap.size = sz ∧ va_P (dC, dI) vwCl (fw (sE cI cZ cII cIII h0) h0 233 μ) U.heap ∧ va_K (dC, dI) vwCl (sT cI cZ cII cIII) U ∧ xM U)) (va_Qi (fun (r9 : Int32) (u : va_M × Int) => r9 = iZ u.2 ∧ (fun (u : va_M) (r : Int) => u = μ ∧ r = if v = w then v else 512) u.1 u.2) (fun u t => va_P (dC, dI) vwCl (fw (sE cI cZ cII cIII h0) h0 233 u.1) t.heap ∧ va_K (dC, dI) vwCl (sT cI cZ cII cIII) t) (fA h0 233 sz)) 0 0 (fA h0 233 sz) := by
  refine Met.ofW (cc := cX9_fused) (maxL := 2) (ret := (some .int)) (by decide) rfl ?_
  intro p e s m args below meth c s₁ B hml hv
  obtain ⟨rfl, hsz, hP, hK, hM⟩ := hv
  have hx := B.exec
  have hb := B.bytes
  have hr := B.returns
  have hts : ∀ w ∈ wsG, w.before _ s = true := hG_of (atoms_spec (ws := (Cond.code yX9_fused cX9_fused 2 (some .int) :: wsG)) B.pre)
  have hown : s.vm.findClass RX9 = some m.cls := findClass_of_methodNamed B.named
  have hlocks := B.notSynchronized
  subst hsz
  have hS : va_S (fA h0 233 s.heap.size) s.heap s.heap [] := va_S.rf
  have hl := lv_entry ([.int (iZ (v)), .int (iZ (w))]) (n := 2) (Nat.le_of_ble_eq_true rfl)
  rw [lg_entry_eq]
  generalize (lg_sl ([.int (iZ (v)), .int (iZ (w))]) ++ List.replicate (2 - (lg_sl ([.int (iZ (v)), .int (iZ (w))])).length) Slot.unset).toArray = ls at hl ⊢
  have hl : lv_has ls 2 [(0, .int (iZ (v))), (1, .int (iZ (w)))] := hl
  refine lv_iload_n hx hb dX9_fused_0 rfl (lv_at hl 0 rfl) ?_
  refine lv_iload_n hx hb dX9_fused_1 rfl (lv_at hl 1 rfl) ?_
  refine fz_icmp_ne (tgt := 9) (by constructor <;> (first | ((try clear hsz); (try clear s₁); omega) | omega)) (by constructor <;> (first | ((try clear hsz); (try clear s₁); omega) | omega)) hx hb dX9_fused_2 (by decide) (fun c2_ => ?_) (fun c2_ => ?_)
  · refine lv_sipush (v := iZ 512) hx hb dX9_fused_9 rfl ?_
    exact W.iret (v := iZ (512)) hx hb hr (fun t9 ht9 hW9 => ⟨⟨iZ (512), (μ, 512), rfl, ⟨rfl, (by
                dsimp only
                refine ⟨rfl, ?_⟩
                split <;> (first | ((try clear hsz); (try clear s₁); omega) | omega))⟩, by rw [ht9]; exact hP, va_K.moved hW9.alike hK⟩, hS.F ht9⟩) hS.2.2 dX9_fused_12
  · refine lv_iload_n hx hb dX9_fused_5 rfl (lv_at hl 0 rfl) ?_
    refine lv_goto (tgt := 12) hx hb dX9_fused_6 (by decide) ?_
    exact W.iret (v := iZ (v)) hx hb hr (fun t9 ht9 hW9 => ⟨⟨iZ (v), (μ, v), rfl, ⟨rfl, (by
                dsimp only
                refine ⟨rfl, ?_⟩
                split <;> (first | ((try clear c2_); (try clear hsz); (try clear s₁); omega) | omega))⟩, by rw [ht9]; exact hP, va_K.moved hW9.alike hK⟩, hS.F ht9⟩) hS.2.2 dX9_fused_12
set_option maxHeartbeats 4000000 in
set_option maxRecDepth 100000 in
theorem s_costOfFusing (l : Launch) (dC : Nat → ClassId) (dI : Nat → Nat → Nat) (cI cZ cII cIII : ClassId) (h0 sz : Nat) (μ : va_M) (v : Int) (w : Int) (h_v : inR v) (h_w : inR w) : Met l yX9_costOfFusing (Cond.code yX9_costOfFusing cX9_costOfFusing 2 (some .int) :: wsG) ({ frames := 1, cells := 0, slots := 0, locals := 14 } : Room) (va_Pc [.int (iZ (v)), .int (iZ (w))] (fun U => U.heap.size = sz ∧ va_P (dC, dI) vwCl (fw (sE cI cZ cII cIII h0) h0 233 μ) U.heap ∧ va_K (dC, dI) vwCl (sT cI cZ cII cIII) U ∧ xM U)) (va_Qi (fun (r9 : Int32) (u : va_M × Int) => r9 = iZ u.2 ∧ (fun (u : va_M) (r : Int) => u = μ ∧ r = if v ≠ w ∧ (256 ≤ v ∧ v < 512) ∧ (256 ≤ w ∧ w < 512) then 1 else 0) u.1 u.2) (fun u t => va_P (dC, dI) vwCl (fw (sE cI cZ cII cIII h0) h0 233 u.1) t.heap ∧ va_K (dC, dI) vwCl (sT cI cZ cII cIII) t) (fA h0 233 sz)) 0 0 (fA h0 233 sz) := by
  refine Met.ofW (cc := cX9_costOfFusing) (maxL := 2) (ret := (some .int)) (by decide) rfl ?_
  intro p e s m args below meth c s₁ B hml hv
  obtain ⟨rfl, hsz, hP, hK, hM⟩ := hv
  have hx := B.exec
  have hb := B.bytes
  have hr := B.returns
  have hts : ∀ w ∈ wsG, w.before _ s = true := hG_of (atoms_spec (ws := (Cond.code yX9_costOfFusing cX9_costOfFusing 2 (some .int) :: wsG)) B.pre)
  have hown : s.vm.findClass RX9 = some m.cls := findClass_of_methodNamed B.named
  have hlocks := B.notSynchronized
  subst hsz
  have hS : va_S (fA h0 233 s.heap.size) s.heap s.heap [] := va_S.rf
  have hl := lv_entry ([.int (iZ (v)), .int (iZ (w))]) (n := 2) (Nat.le_of_ble_eq_true rfl)
  rw [lg_entry_eq]
  generalize (lg_sl ([.int (iZ (v)), .int (iZ (w))]) ++ List.replicate (2 - (lg_sl ([.int (iZ (v)), .int (iZ (w))])).length) Slot.unset).toArray = ls at hl ⊢
  have hl : lv_has ls 2 [(0, .int (iZ (v))), (1, .int (iZ (w)))] := hl
  refine lv_iload_n hx hb dX9_costOfFusing_0 rfl (lv_at hl 0 rfl) ?_
  refine lv_iload_n hx hb dX9_costOfFusing_1 rfl (lv_at hl 1 rfl) ?_
  refine fz_icmp_eq (tgt := 37) (by constructor <;> (first | ((try clear hsz); (try clear s₁); omega) | omega)) (by constructor <;> (first | ((try clear hsz); (try clear s₁); omega) | omega)) hx hb dX9_costOfFusing_2 (by decide) (fun c2_ => ?_) (fun c2_ => ?_)
  · refine lv_iconst (v := iZ 0) hx hb dX9_costOfFusing_37 rfl ?_
    exact W.iret (v := iZ (0)) hx hb hr (fun t9 ht9 hW9 => ⟨⟨iZ (0), (μ, 0), rfl, ⟨rfl, (by
                dsimp only
                refine ⟨rfl, ?_⟩
                split <;> (first | ((try clear hsz); (try clear s₁); omega) | omega))⟩, by rw [ht9]; exact hP, va_K.moved hW9.alike hK⟩, hS.F ht9⟩) hS.2.2 dX9_costOfFusing_38
  · refine lv_iload_n hx hb dX9_costOfFusing_5 rfl (lv_at hl 0 rfl) ?_
    refine lv_sipush (v := iZ 256) hx hb dX9_costOfFusing_6 rfl ?_
    refine fz_icmp_lt (tgt := 37) (by constructor <;> (first | ((try clear c2_); (try clear hsz); (try clear s₁); omega) | omega)) (by decide) hx hb dX9_costOfFusing_9 (by decide) (fun c9_ => ?_) (fun c9_ => ?_)
    · refine lv_iconst (v := iZ 0) hx hb dX9_costOfFusing_37 rfl ?_
      exact W.iret (v := iZ (0)) hx hb hr (fun t9 ht9 hW9 => ⟨⟨iZ (0), (μ, 0), rfl, ⟨rfl, (by
                    dsimp only
                    refine ⟨rfl, ?_⟩
                    split <;> (first | ((try clear c2_); (try clear hsz); (try clear s₁); omega) | omega))⟩, by rw [ht9]; exact hP, va_K.moved hW9.alike hK⟩, hS.F ht9⟩) hS.2.2 dX9_costOfFusing_38
    · refine lv_iload_n hx hb dX9_costOfFusing_12 rfl (lv_at hl 0 rfl) ?_
      refine lv_sipush (v := iZ 512) hx hb dX9_costOfFusing_13 rfl ?_
      refine fz_icmp_ge (tgt := 37) (by constructor <;> (first | ((try clear c2_); (try clear hsz); (try clear s₁); omega) | omega)) (by decide) hx hb dX9_costOfFusing_16 (by decide) (fun c16_ => ?_) (fun c16_ => ?_)
      · refine lv_iconst (v := iZ 0) hx hb dX9_costOfFusing_37 rfl ?_
        exact W.iret (v := iZ (0)) hx hb hr (fun t9 ht9 hW9 => ⟨⟨iZ (0), (μ, 0), rfl, ⟨rfl, (by
                        dsimp only
                        refine ⟨rfl, ?_⟩
                        split <;> (first | ((try clear c2_); (try clear hsz); (try clear s₁); omega) | omega))⟩, by rw [ht9]; exact hP, va_K.moved hW9.alike hK⟩, hS.F ht9⟩) hS.2.2 dX9_costOfFusing_38
      · refine lv_iload_n hx hb dX9_costOfFusing_19 rfl (lv_at hl 1 rfl) ?_
        refine lv_sipush (v := iZ 256) hx hb dX9_costOfFusing_20 rfl ?_
        refine fz_icmp_lt (tgt := 37) (by constructor <;> (first | ((try clear c16_); (try clear c9_); (try clear c2_); (try clear hsz); (try clear s₁); omega) | omega)) (by decide) hx hb dX9_costOfFusing_23 (by decide) (fun c23_ => ?_) (fun c23_ => ?_)
        · refine lv_iconst (v := iZ 0) hx hb dX9_costOfFusing_37 rfl ?_
          exact W.iret (v := iZ (0)) hx hb hr (fun t9 ht9 hW9 => ⟨⟨iZ (0), (μ, 0), rfl, ⟨rfl, (by
                            dsimp only
                            refine ⟨rfl, ?_⟩
                            split <;> (first | ((try clear c16_); (try clear c9_); (try clear c2_); (try clear hsz); (try clear s₁); omega) | omega))⟩, by rw [ht9]; exact hP, va_K.moved hW9.alike hK⟩, hS.F ht9⟩) hS.2.2 dX9_costOfFusing_38
        · refine lv_iload_n hx hb dX9_costOfFusing_26 rfl (lv_at hl 1 rfl) ?_
          refine lv_sipush (v := iZ 512) hx hb dX9_costOfFusing_27 rfl ?_
          refine fz_icmp_ge (tgt := 37) (by constructor <;> (first | ((try clear c16_); (try clear c9_); (try clear c2_); (try clear hsz); (try clear s₁); omega) | omega)) (by decide) hx hb dX9_costOfFusing_30 (by decide) (fun c30_ => ?_) (fun c30_ => ?_)
          · refine lv_iconst (v := iZ 0) hx hb dX9_costOfFusing_37 rfl ?_
            exact W.iret (v := iZ (0)) hx hb hr (fun t9 ht9 hW9 => ⟨⟨iZ (0), (μ, 0), rfl, ⟨rfl, (by
                                dsimp only
                                refine ⟨rfl, ?_⟩
                                split <;> (first | ((try clear c16_); (try clear c9_); (try clear c2_); (try clear hsz); (try clear s₁); omega) | omega))⟩, by rw [ht9]; exact hP, va_K.moved hW9.alike hK⟩, hS.F ht9⟩) hS.2.2 dX9_costOfFusing_38
          · refine lv_iconst (v := iZ 1) hx hb dX9_costOfFusing_33 rfl ?_
            refine lv_goto (tgt := 38) hx hb dX9_costOfFusing_34 (by decide) ?_
            exact W.iret (v := iZ (1)) hx hb hr (fun t9 ht9 hW9 => ⟨⟨iZ (1), (μ, 1), rfl, ⟨rfl, (by
                                dsimp only
                                refine ⟨rfl, ?_⟩
                                split <;> (first | ((try clear hsz); (try clear s₁); omega) | omega))⟩, by rw [ht9]; exact hP, va_K.moved hW9.alike hK⟩, hS.F ht9⟩) hS.2.2 dX9_costOfFusing_38
set_option maxHeartbeats 4000000 in
set_option maxRecDepth 100000 in
theorem s_Rsize (l : Launch) (dC : Nat → ClassId) (dI : Nat → Nat → Nat) (cI cZ cII cIII : ClassId) (h0 sz : Nat) (μ : va_M) (q : Nat) (rm : Nat) (hq : rowB q rm) (hlen : 0 ≤ μ q 5 ∧ μ q 5 ≤ rm) : Met l yX4_size (Cond.code yX4_size cX4_size 1 (some .int) :: wsG) ({ frames := 1, cells := 0, slots := 0, locals := 14 } : Room) (va_Pc [.ref (h0 + q)] (fun U => U.heap.size = sz ∧ va_P (dC, dI) vwCl (fw (sE cI cZ cII cIII h0) h0 233 μ) U.heap ∧ va_K (dC, dI) vwCl (sT cI cZ cII cIII) U ∧ xM U)) (va_Qi (fun (r9 : Int32) (u : va_M × Int) => r9 = iZ u.2 ∧ (fun (u : va_M) (r : Int) => u = μ ∧ r = μ (q + 3) (μ q 5).toNat) u.1 u.2) (fun u t => va_P (dC, dI) vwCl (fw (sE cI cZ cII cIII h0) h0 233 u.1) t.heap ∧ va_K (dC, dI) vwCl (sT cI cZ cII cIII) t) (fA h0 233 sz)) 0 0 (fA h0 233 sz) := by
  refine Met.ofW (cc := cX4_size) (maxL := 1) (ret := (some .int)) (by decide) rfl ?_
  intro p e s m args below meth c s₁ B hml hv
  obtain ⟨rfl, hsz, hP, hK, hM⟩ := hv
  have hx := B.exec
  have hb := B.bytes
  have hr := B.returns
  have hts : ∀ w ∈ wsG, w.before _ s = true := hG_of (atoms_spec (ws := (Cond.code yX4_size cX4_size 1 (some .int) :: wsG)) B.pre)
  have hown : s.vm.findClass RX4 = some m.cls := findClass_of_methodNamed B.named
  have hlocks := B.notSynchronized
  subst hsz
  have hS : va_S (fA h0 233 s.heap.size) s.heap s.heap [] := va_S.rf
  have hl := lv_entry ([.ref (h0 + q)]) (n := 1) (Nat.le_of_ble_eq_true rfl)
  rw [lg_entry_eq]
  generalize (lg_sl ([.ref (h0 + q)]) ++ List.replicate (1 - (lg_sl ([.ref (h0 + q)])).length) Slot.unset).toArray = ls at hl ⊢
  have hl : lv_has ls 1 [(0, .ref (h0 + q))] := hl
  have hqb := rowB_b hq
  refine lv_aload_n hx hb dX4_size_0 rfl (lv_at hl 0 rfl) ?_
  refine fz_get (D := (dC, dI)) (ci := 4) (v := .ref (h0 + (q + 3))) (C := RX4) (T := TX4) (N := 8) hx hb hts inG4 hown hK hP (k := q) (by (first | ((try clear hsz); (try clear s₁); (try clear hlen); omega) | omega)) (F := (sRF h0 q)) (sE_rowO hq) rfl 2 (by decide) (hts _ k87) (fun _ h9 => h9) rfl dX4_size_1 ?_
  refine lv_aload_n hx hb dX4_size_4 rfl (lv_at hl 0 rfl) ?_
  refine fz_get (D := (dC, dI)) (ci := 4) (v := .int (iZ (μ q 5))) (C := RX4) (T := TX4) (N := 8) hx hb hts inG4 hown hK hP (k := q) (by (first | ((try clear hsz); (try clear s₁); (try clear hlen); omega) | omega)) (F := (sRF h0 q)) (sE_rowO hq) rfl 5 (by decide) (hts _ k92) (fun _ h9 => h9) rfl dX4_size_5 ?_
  refine fz_ld (k := (q + 3)) (n := (rm + 1)) hx hb hK hP 0 (by (first | ((try clear hsz); (try clear s₁); (try clear hlen); omega) | omega)) (sE_row3 hq) rfl ⟨by (first | ((try clear hqb); (try clear hsz); (try clear s₁); omega) | omega), by (first | ((try clear hqb); (try clear hsz); (try clear s₁); omega) | omega)⟩ (by (first | ((try clear hsz); (try clear s₁); (try clear hlen); omega) | omega)) dX4_size_8 ?_
  exact W.iret (v := iZ (μ (q + 3) (μ q 5).toNat)) hx hb hr (fun t9 ht9 hW9 => ⟨⟨iZ (μ (q + 3) (μ q 5).toNat), (μ, μ (q + 3) (μ q 5).toNat), rfl, ⟨rfl, (by
            dsimp only
            exact ⟨rfl, rfl⟩)⟩, by rw [ht9]; exact hP, va_K.moved hW9.alike hK⟩, hS.F ht9⟩) hS.2.2 dX4_size_9
set_option maxHeartbeats 4000000 in
set_option maxRecDepth 100000 in
theorem s_Rput (l : Launch) (dC : Nat → ClassId) (dI : Nat → Nat → Nat) (cI cZ cII cIII : ClassId) (h0 sz : Nat) (μ : va_M) (q : Nat) (rm : Nat) (sg : Int) (hq : rowB q rm) (hlen : 0 ≤ μ q 5 ∧ μ q 5 ≤ rm) : Met l yX4_put (Cond.code yX4_put cX4_put 2 none :: wsG) ({ frames := 1, cells := 0, slots := 0, locals := 14 } : Room) (va_Pc [.ref (h0 + q), .int (iZ (sg))] (fun U => U.heap.size = sz ∧ va_P (dC, dI) vwCl (fw (sE cI cZ cII cIII h0) h0 233 μ) U.heap ∧ va_K (dC, dI) vwCl (sT cI cZ cII cIII) U ∧ xM U)) (va_Qv (fun (u : va_M) => (μ q 5 < rm → u = uz (uz μ (q + 1) (μ q 5).toNat sg) q 5 (μ q 5 + 1)) ∧ (¬ μ q 5 < rm → u = uz μ q 7 1)) (fun u t => va_P (dC, dI) vwCl (fw (sE cI cZ cII cIII h0) h0 233 u) t.heap ∧ va_K (dC, dI) vwCl (sT cI cZ cII cIII) t) (fA h0 233 sz)) 0 0 (fA h0 233 sz) := by
  refine Met.ofW (cc := cX4_put) (maxL := 2) (ret := none) (by decide) rfl ?_
  intro p e s m args below meth c s₁ B hml hv
  obtain ⟨rfl, hsz, hP, hK, hM⟩ := hv
  have hx := B.exec
  have hb := B.bytes
  have hr := B.returns
  have hts : ∀ w ∈ wsG, w.before _ s = true := hG_of (atoms_spec (ws := (Cond.code yX4_put cX4_put 2 none :: wsG)) B.pre)
  have hown : s.vm.findClass RX4 = some m.cls := findClass_of_methodNamed B.named
  have hlocks := B.notSynchronized
  subst hsz
  have hS : va_S (fA h0 233 s.heap.size) s.heap s.heap [] := va_S.rf
  have hl := lv_entry ([.ref (h0 + q), .int (iZ (sg))]) (n := 2) (Nat.le_of_ble_eq_true rfl)
  rw [lg_entry_eq]
  generalize (lg_sl ([.ref (h0 + q), .int (iZ (sg))]) ++ List.replicate (2 - (lg_sl ([.ref (h0 + q), .int (iZ (sg))])).length) Slot.unset).toArray = ls at hl ⊢
  have hl : lv_has ls 2 [(0, .ref (h0 + q)), (1, .int (iZ (sg)))] := hl
  have hqb := rowB_b hq
  refine lv_aload_n hx hb dX4_put_0 rfl (lv_at hl 0 rfl) ?_
  refine fz_get (D := (dC, dI)) (ci := 4) (v := .int (iZ (μ q 5))) (C := RX4) (T := TX4) (N := 8) hx hb hts inG4 hown hK hP (k := q) (by (first | ((try clear hsz); (try clear s₁); (try clear hlen); omega) | omega)) (F := (sRF h0 q)) (sE_rowO hq) rfl 5 (by decide) (hts _ k92) (fun _ h9 => h9) rfl dX4_put_1 ?_
  refine lv_aload_n hx hb dX4_put_4 rfl (lv_at hl 0 rfl) ?_
  refine fz_get (D := (dC, dI)) (ci := 4) (v := .ref (h0 + (q + 1))) (C := RX4) (T := TX4) (N := 8) hx hb hts inG4 hown hK hP (k := q) (by (first | ((try clear hsz); (try clear s₁); (try clear hlen); omega) | omega)) (F := (sRF h0 q)) (sE_rowO hq) rfl 0 (by decide) (hts _ k77) (fun _ h9 => h9) rfl dX4_put_5 ?_
  refine fz_len (k := (q + 1)) (n := rm) hx hb hK hP 0 (by (first | ((try clear hsz); (try clear s₁); (try clear hlen); omega) | omega)) (sE_rowA (r := 1) hq (by decide)) rfl dX4_put_8 ?_
  refine fz_icmp_ge (tgt := 35) (by constructor <;> (first | ((try clear hsz); (try clear s₁); omega) | omega)) (by constructor <;> (first | ((try clear hsz); (try clear s₁); (try clear hlen); omega) | omega)) hx hb dX4_put_9 (by decide) (fun c9_ => ?_) (fun c9_ => ?_)
  · refine lv_aload_n hx hb dX4_put_35 rfl (lv_at hl 0 rfl) ?_
    refine lv_iconst (v := iZ 1) hx hb dX4_put_36 rfl ?_
    refine fz_put (D := (dC, dI)) (ci := 4) (ty := .boolean) (z := 1) (C := RX4) (T := TX4) (N := 8) hx hb hts inG4 tyX4 tyX4_ok nmX4 hown hK hP fA_in hS (k := q) (by (first | ((try clear c9_); (try clear hsz); (try clear s₁); (try clear hlen); omega) | omega)) (F := (sRF h0 q)) (sE_rowO hq) rfl 7 (by decide) (hts _ k103) (fun _ h9 => h9) rfl (by decide +kernel) (fz_narZ (by decide)) rfl (fun _ => Nat.le_of_ble_eq_true rfl) (fun _ _ => rfl) dX4_put_37 (fun H locs hP hS => ?_)
    obtain ⟨μ1, eμ1⟩ : ∃ x : va_M, x = uz μ q 7 (1) := ⟨_, rfl⟩
    rw [← eμ1] at hP
    exact W.vret hx hb hr (fun t9 ht9 hW9 => ⟨⟨μ1, rfl, (by
                try dsimp only
                exact ⟨fun h9 => absurd h9 (by (first | ((try clear x); (try clear eμ1); (try clear μ1); (try clear hqb); (try clear hsz); (try clear s₁); omega) | omega)), fun h9 => by rw [eμ1]⟩), by rw [ht9]; exact hP, va_K.moved hW9.alike hK⟩, hS.F ht9⟩) hS.2.2 dX4_put_40
  · refine lv_aload_n hx hb dX4_put_12 rfl (lv_at hl 0 rfl) ?_
    refine fz_get (D := (dC, dI)) (ci := 4) (v := .ref (h0 + (q + 1))) (C := RX4) (T := TX4) (N := 8) hx hb hts inG4 hown hK hP (k := q) (by (first | ((try clear c9_); (try clear hsz); (try clear s₁); (try clear hlen); omega) | omega)) (F := (sRF h0 q)) (sE_rowO hq) rfl 0 (by decide) (hts _ k77) (fun _ h9 => h9) rfl dX4_put_13 ?_
    refine lv_aload_n hx hb dX4_put_16 rfl (lv_at hl 0 rfl) ?_
    refine fz_get (D := (dC, dI)) (ci := 4) (v := .int (iZ (μ q 5))) (C := RX4) (T := TX4) (N := 8) hx hb hts inG4 hown hK hP (k := q) (by (first | ((try clear c9_); (try clear hsz); (try clear s₁); (try clear hlen); omega) | omega)) (F := (sRF h0 q)) (sE_rowO hq) rfl 5 (by decide) (hts _ k92) (fun _ h9 => h9) rfl dX4_put_17 ?_
    refine lv_iload_n hx hb dX4_put_20 rfl (lv_at hl 1 rfl) ?_
    refine fz_st (k := (q + 1)) (n := rm) (i := (μ q 5)) (z := sg) hx hb hK hP fA_in hS 0 (by (first | ((try clear c9_); (try clear hsz); (try clear s₁); (try clear hlen); omega) | omega)) (sE_rowA (r := 1) hq (by decide)) rfl ⟨by (first | ((try clear c9_); (try clear hqb); (try clear hsz); (try clear s₁); omega) | omega), by (first | ((try clear hqb); (try clear hsz); (try clear s₁); (try clear hlen); omega) | omega)⟩ (by (first | ((try clear c9_); (try clear hsz); (try clear s₁); (try clear hlen); omega) | omega)) dX4_put_21 (fun H locs hP hS => ?_)
    obtain ⟨μ2, eμ2⟩ : ∃ x : va_M, x = uz μ (q + 1) (μ q 5).toNat (sg) := ⟨_, rfl⟩
    rw [← eμ2] at hP
    refine lv_aload_n hx hb dX4_put_22 rfl (lv_at hl 0 rfl) ?_
    refine lv_dup hx hb dX4_put_23 rfl ?_
    refine fz_get (D := (dC, dI)) (ci := 4) (v := .int (iZ (μ2 q 5))) (C := RX4) (T := TX4) (N := 8) hx hb hts inG4 hown hK hP (k := q) (by (first | ((try clear x); (try clear eμ2); (try clear μ2); (try clear c9_); (try clear hsz); (try clear s₁); (try clear hlen); omega) | omega)) (F := (sRF h0 q)) (sE_rowO hq) rfl 5 (by decide) (hts _ k92) (fun _ h9 => h9) rfl dX4_put_24 ?_
    rw [show μ2 q 5 = μ q 5 from by rw [eμ2, uz_n (by (first | ((try clear x); (try clear eμ2); (try clear μ2); (try clear c9_); (try clear hqb); (try clear hsz); (try clear s₁); (try clear hlen); omega) | omega))]]
    refine lv_iconst (v := iZ 1) hx hb dX4_put_27 rfl ?_
    refine lv_iadd hx hb dX4_put_28 ?_
    refine lv_topi (fun x9 ex9 => ?_)
    obtain rfl : x9 = iZ ((μ q 5) + 1) := ex9.trans (iZ_add _ _)
    refine fz_put (D := (dC, dI)) (ci := 4) (ty := .int) (z := ((μ q 5) + 1)) (C := RX4) (T := TX4) (N := 8) hx hb hts inG4 tyX4 tyX4_ok nmX4 hown hK hP fA_in hS (k := q) (by (first | ((try clear ex9); (try clear x); (try clear eμ2); (try clear μ2); (try clear c9_); (try clear hsz); (try clear s₁); (try clear hlen); omega) | omega)) (F := (sRF h0 q)) (sE_rowO hq) rfl 5 (by decide) (hts _ k92) (fun _ h9 => h9) rfl (by decide +kernel) rfl rfl (fun _ => Nat.le_of_ble_eq_true rfl) (fun _ _ => rfl) dX4_put_29 (fun H locs hP hS => ?_)
    obtain ⟨μ3, eμ3⟩ : ∃ x : va_M, x = uz μ2 q 5 ((μ q 5) + 1) := ⟨_, rfl⟩
    rw [← eμ3] at hP
    refine lv_goto (tgt := 40) hx hb dX4_put_32 (by decide) ?_
    exact W.vret hx hb hr (fun t9 ht9 hW9 => ⟨⟨μ3, rfl, (by
                try dsimp only
                exact ⟨fun h9 => by rw [eμ3, eμ2], fun h9 => absurd h9 (by (first | ((try clear μ2); (try clear x); (try clear eμ3); (try clear μ3); (try clear ex9); (try clear eμ2); (try clear hqb); (try clear hsz); (try clear s₁); (try clear hlen); omega) | omega))⟩), by rw [ht9]; exact hP, va_K.moved hW9.alike hK⟩, hS.F ht9⟩) hS.2.2 dX4_put_40
set_option maxHeartbeats 4000000 in
set_option maxRecDepth 100000 in
theorem s_Rempty (l : Launch) (dC : Nat → ClassId) (dI : Nat → Nat → Nat) (cI cZ cII cIII : ClassId) (h0 sz : Nat) (μ : va_M) (q : Nat) (rm : Nat) (hq : rowB q rm) : Met l yX4_empty (Cond.code yX4_empty cX4_empty 1 none :: wsG) ({ frames := 1, cells := 0, slots := 0, locals := 14 } : Room) (va_Pc [.ref (h0 + q)] (fun U => U.heap.size = sz ∧ va_P (dC, dI) vwCl (fw (sE cI cZ cII cIII h0) h0 233 μ) U.heap ∧ va_K (dC, dI) vwCl (sT cI cZ cII cIII) U ∧ xM U)) (va_Qv (fun (u : va_M) => u = uz (uz μ q 5 0) q 7 0) (fun u t => va_P (dC, dI) vwCl (fw (sE cI cZ cII cIII h0) h0 233 u) t.heap ∧ va_K (dC, dI) vwCl (sT cI cZ cII cIII) t) (fA h0 233 sz)) 0 0 (fA h0 233 sz) := by
  refine Met.ofW (cc := cX4_empty) (maxL := 1) (ret := none) (by decide) rfl ?_
  intro p e s m args below meth c s₁ B hml hv
  obtain ⟨rfl, hsz, hP, hK, hM⟩ := hv
  have hx := B.exec
  have hb := B.bytes
  have hr := B.returns
  have hts : ∀ w ∈ wsG, w.before _ s = true := hG_of (atoms_spec (ws := (Cond.code yX4_empty cX4_empty 1 none :: wsG)) B.pre)
  have hown : s.vm.findClass RX4 = some m.cls := findClass_of_methodNamed B.named
  have hlocks := B.notSynchronized
  subst hsz
  have hS : va_S (fA h0 233 s.heap.size) s.heap s.heap [] := va_S.rf
  have hl := lv_entry ([.ref (h0 + q)]) (n := 1) (Nat.le_of_ble_eq_true rfl)
  rw [lg_entry_eq]
  generalize (lg_sl ([.ref (h0 + q)]) ++ List.replicate (1 - (lg_sl ([.ref (h0 + q)])).length) Slot.unset).toArray = ls at hl ⊢
  have hl : lv_has ls 1 [(0, .ref (h0 + q))] := hl
  have hqb := rowB_b hq
  refine lv_aload_n hx hb dX4_empty_0 rfl (lv_at hl 0 rfl) ?_
  refine lv_iconst (v := iZ 0) hx hb dX4_empty_1 rfl ?_
  refine fz_put (D := (dC, dI)) (ci := 4) (ty := .int) (z := 0) (C := RX4) (T := TX4) (N := 8) hx hb hts inG4 tyX4 tyX4_ok nmX4 hown hK hP fA_in hS (k := q) (by (first | ((try clear hsz); (try clear s₁); omega) | omega)) (F := (sRF h0 q)) (sE_rowO hq) rfl 5 (by decide) (hts _ k92) (fun _ h9 => h9) rfl (by decide +kernel) rfl rfl (fun _ => Nat.le_of_ble_eq_true rfl) (fun _ _ => rfl) dX4_empty_2 (fun H locs hP hS => ?_)
  obtain ⟨μ1, eμ1⟩ : ∃ x : va_M, x = uz μ q 5 (0) := ⟨_, rfl⟩
  rw [← eμ1] at hP
  refine lv_aload_n hx hb dX4_empty_5 rfl (lv_at hl 0 rfl) ?_
  refine lv_iconst (v := iZ 0) hx hb dX4_empty_6 rfl ?_
  refine fz_put (D := (dC, dI)) (ci := 4) (ty := .boolean) (z := 0) (C := RX4) (T := TX4) (N := 8) hx hb hts inG4 tyX4 tyX4_ok nmX4 hown hK hP fA_in hS (k := q) (by (first | ((try clear x); (try clear eμ1); (try clear μ1); (try clear hsz); (try clear s₁); omega) | omega)) (F := (sRF h0 q)) (sE_rowO hq) rfl 7 (by decide) (hts _ k103) (fun _ h9 => h9) rfl (by decide +kernel) (fz_narZ (by decide)) rfl (fun _ => Nat.le_of_ble_eq_true rfl) (fun _ _ => rfl) dX4_empty_7 (fun H locs hP hS => ?_)
  obtain ⟨μ2, eμ2⟩ : ∃ x : va_M, x = uz μ1 q 7 (0) := ⟨_, rfl⟩
  rw [← eμ2] at hP
  exact W.vret hx hb hr (fun t9 ht9 hW9 => ⟨⟨μ2, rfl, (by
            try dsimp only
            rw [eμ2, eμ1]), by rw [ht9]; exact hP, va_K.moved hW9.alike hK⟩, hS.F ht9⟩) hS.2.2 dX4_empty_10
set_option maxHeartbeats 4000000 in
set_option maxRecDepth 100000 in
theorem s_Rafter (l : Launch) (dC : Nat → ClassId) (dI : Nat → Nat → Nat) (cI cZ cII cIII : ClassId) (h0 sz : Nat) (μ : va_M) (q : Nat) (rm : Nat) (p9 : Int) (hq : rowB q rm) (h_p : 0 ≤ p9 ∧ p9 < rm) (hr9 : inR (μ (q + 2) p9.toNat)) : Met l yX4_after (Cond.code yX4_after cX4_after 2 (some .int) :: wsG) ({ frames := 1, cells := 0, slots := 0, locals := 14 } : Room) (va_Pc [.ref (h0 + q), .int (iZ (p9))] (fun U => U.heap.size = sz ∧ va_P (dC, dI) vwCl (fw (sE cI cZ cII cIII h0) h0 233 μ) U.heap ∧ va_K (dC, dI) vwCl (sT cI cZ cII cIII) U ∧ xM U)) (va_Qi (fun (r9 : Int32) (u : va_M × Int) => r9 = iZ u.2 ∧ (fun (u : va_M) (r : Int) => u = μ ∧ r = μ (q + 2) p9.toNat + 1) u.1 u.2) (fun u t => va_P (dC, dI) vwCl (fw (sE cI cZ cII cIII h0) h0 233 u.1) t.heap ∧ va_K (dC, dI) vwCl (sT cI cZ cII cIII) t) (fA h0 233 sz)) 0 0 (fA h0 233 sz) := by
  refine Met.ofW (cc := cX4_after) (maxL := 2) (ret := (some .int)) (by decide) rfl ?_
  intro p e s m args below meth c s₁ B hml hv
  obtain ⟨rfl, hsz, hP, hK, hM⟩ := hv
  have hx := B.exec
  have hb := B.bytes
  have hr := B.returns
  have hts : ∀ w ∈ wsG, w.before _ s = true := hG_of (atoms_spec (ws := (Cond.code yX4_after cX4_after 2 (some .int) :: wsG)) B.pre)
  have hown : s.vm.findClass RX4 = some m.cls := findClass_of_methodNamed B.named
  have hlocks := B.notSynchronized
  subst hsz
  have hS : va_S (fA h0 233 s.heap.size) s.heap s.heap [] := va_S.rf
  have hl := lv_entry ([.ref (h0 + q), .int (iZ (p9))]) (n := 2) (Nat.le_of_ble_eq_true rfl)
  rw [lg_entry_eq]
  generalize (lg_sl ([.ref (h0 + q), .int (iZ (p9))]) ++ List.replicate (2 - (lg_sl ([.ref (h0 + q), .int (iZ (p9))])).length) Slot.unset).toArray = ls at hl ⊢
  have hl : lv_has ls 2 [(0, .ref (h0 + q)), (1, .int (iZ (p9)))] := hl
  have hqb := rowB_b hq
  refine lv_aload_n hx hb dX4_after_0 rfl (lv_at hl 0 rfl) ?_
  refine fz_get (D := (dC, dI)) (ci := 4) (v := .ref (h0 + (q + 2))) (C := RX4) (T := TX4) (N := 8) hx hb hts inG4 hown hK hP (k := q) (by (first | ((try clear hsz); (try clear s₁); (try clear h_p); omega) | omega)) (F := (sRF h0 q)) (sE_rowO hq) rfl 1 (by decide) (hts _ k83) (fun _ h9 => h9) rfl dX4_after_1 ?_
  refine lv_iload_n hx hb dX4_after_4 rfl (lv_at hl 1 rfl) ?_
  refine fz_ld (k := (q + 2)) (n := rm) hx hb hK hP 0 (by (first | ((try clear hsz); (try clear s₁); (try clear h_p); omega) | omega)) (sE_rowA (r := 2) hq (by decide)) rfl ⟨by (first | ((try clear hqb); (try clear hsz); (try clear s₁); omega) | omega), by (first | ((try clear hqb); (try clear hsz); (try clear s₁); omega) | omega)⟩ (by (first | ((try clear hsz); (try clear s₁); (try clear h_p); omega) | omega)) dX4_after_5 ?_
  refine lv_iconst (v := iZ 1) hx hb dX4_after_6 rfl ?_
  refine lv_iadd hx hb dX4_after_7 ?_
  refine lv_topi (fun x9 ex9 => ?_)
  obtain rfl : x9 = iZ ((μ (q + 2) (p9).toNat) + 1) := ex9.trans (iZ_add _ _)
  exact W.iret (v := iZ ((μ (q + 2) (p9).toNat) + 1)) hx hb hr (fun t9 ht9 hW9 => ⟨⟨iZ ((μ (q + 2) (p9).toNat) + 1), (μ, (μ (q + 2) (p9).toNat) + 1), rfl, ⟨rfl, (by
            dsimp only
            exact ⟨rfl, rfl⟩)⟩, by rw [ht9]; exact hP, va_K.moved hW9.alike hK⟩, hS.F ht9⟩) hS.2.2 dX4_after_8
set_option maxHeartbeats 4000000 in
set_option maxRecDepth 100000 in
theorem s_RendsAt (l : Launch) (dC : Nat → ClassId) (dI : Nat → Nat → Nat) (cI cZ cII cIII : ClassId) (h0 sz : Nat) (μ : va_M) (q : Nat) (rm : Nat) (p9 : Int) (hq : rowB q rm) (h_p : 0 ≤ p9 ∧ p9 ≤ rm) (hlen : 0 ≤ μ q 5 ∧ μ q 5 ≤ rm) (hr9 : p9 < μ q 5 → inR (μ (q + 1) p9.toNat)) : Met l yX4_endsAt (Cond.code yX4_endsAt cX4_endsAt 2 (some .boolean) :: wsG) ({ frames := 1, cells := 0, slots := 0, locals := 14 } : Room) (va_Pc [.ref (h0 + q), .int (iZ (p9))] (fun U => U.heap.size = sz ∧ va_P (dC, dI) vwCl (fw (sE cI cZ cII cIII h0) h0 233 μ) U.heap ∧ va_K (dC, dI) vwCl (sT cI cZ cII cIII) U ∧ xM U)) (va_Qi (fun (r9 : Int32) (u : va_M × Int) => r9 = iZ u.2 ∧ (fun (u : va_M) (r : Int) => u = μ ∧ r = if μ q 5 ≤ p9 ∨ μ (q + 1) p9.toNat = 515 then 1 else 0) u.1 u.2) (fun u t => va_P (dC, dI) vwCl (fw (sE cI cZ cII cIII h0) h0 233 u.1) t.heap ∧ va_K (dC, dI) vwCl (sT cI cZ cII cIII) t) (fA h0 233 sz)) 0 0 (fA h0 233 sz) := by
  refine Met.ofW (cc := cX4_endsAt) (maxL := 2) (ret := (some .boolean)) (by decide) rfl ?_
  intro p e s m args below meth c s₁ B hml hv
  obtain ⟨rfl, hsz, hP, hK, hM⟩ := hv
  have hx := B.exec
  have hb := B.bytes
  have hr := B.returns
  have hts : ∀ w ∈ wsG, w.before _ s = true := hG_of (atoms_spec (ws := (Cond.code yX4_endsAt cX4_endsAt 2 (some .boolean) :: wsG)) B.pre)
  have hown : s.vm.findClass RX4 = some m.cls := findClass_of_methodNamed B.named
  have hlocks := B.notSynchronized
  subst hsz
  have hS : va_S (fA h0 233 s.heap.size) s.heap s.heap [] := va_S.rf
  have hl := lv_entry ([.ref (h0 + q), .int (iZ (p9))]) (n := 2) (Nat.le_of_ble_eq_true rfl)
  rw [lg_entry_eq]
  generalize (lg_sl ([.ref (h0 + q), .int (iZ (p9))]) ++ List.replicate (2 - (lg_sl ([.ref (h0 + q), .int (iZ (p9))])).length) Slot.unset).toArray = ls at hl ⊢
  have hl : lv_has ls 2 [(0, .ref (h0 + q)), (1, .int (iZ (p9)))] := hl
  have hqb := rowB_b hq
  refine lv_iload_n hx hb dX4_endsAt_0 rfl (lv_at hl 1 rfl) ?_
  refine lv_aload_n hx hb dX4_endsAt_1 rfl (lv_at hl 0 rfl) ?_
  refine fz_get (D := (dC, dI)) (ci := 4) (v := .int (iZ (μ q 5))) (C := RX4) (T := TX4) (N := 8) hx hb hts inG4 hown hK hP (k := q) (by (first | ((try clear hsz); (try clear s₁); (try clear hlen); (try clear h_p); omega) | omega)) (F := (sRF h0 q)) (sE_rowO hq) rfl 5 (by decide) (hts _ k92) (fun _ h9 => h9) rfl dX4_endsAt_2 ?_
  refine fz_icmp_ge (tgt := 20) (by constructor <;> (first | ((try clear hsz); (try clear s₁); (try clear hlen); omega) | omega)) (by constructor <;> (first | ((try clear hsz); (try clear s₁); (try clear h_p); omega) | omega)) hx hb dX4_endsAt_5 (by decide) (fun c5_ => ?_) (fun c5_ => ?_)
  · refine lv_iconst (v := iZ 1) hx hb dX4_endsAt_20 rfl ?_
    refine lv_goto (tgt := 25) hx hb dX4_endsAt_21 (by decide) ?_
    exact W.zret (v := iZ (1)) hx hb hr (by decide +kernel) (fun t9 ht9 hW9 => ⟨⟨iZ (1), (μ, 1), rfl, ⟨rfl, (by
                dsimp only
                refine ⟨rfl, ?_⟩
                split <;> (first | ((try clear hqb); (try clear hsz); (try clear s₁); (try clear hlen); (try clear h_p); omega) | omega))⟩, by rw [ht9]; exact hP, va_K.moved hW9.alike hK⟩, hS.F ht9⟩) hS.2.2 dX4_endsAt_25
  · have hr8 := hr9 (by (first | ((try clear hr8); (try clear hqb); (try clear hsz); (try clear s₁); (try clear hlen); (try clear h_p); omega) | omega))
    refine lv_aload_n hx hb dX4_endsAt_8 rfl (lv_at hl 0 rfl) ?_
    refine fz_get (D := (dC, dI)) (ci := 4) (v := .ref (h0 + (q + 1))) (C := RX4) (T := TX4) (N := 8) hx hb hts inG4 hown hK hP (k := q) (by (first | ((try clear hr8); (try clear c5_); (try clear hsz); (try clear s₁); (try clear hlen); (try clear h_p); omega) | omega)) (F := (sRF h0 q)) (sE_rowO hq) rfl 0 (by decide) (hts _ k77) (fun _ h9 => h9) rfl dX4_endsAt_9 ?_
    refine lv_iload_n hx hb dX4_endsAt_12 rfl (lv_at hl 1 rfl) ?_
    refine fz_ld (k := (q + 1)) (n := rm) hx hb hK hP 0 (by (first | ((try clear hr8); (try clear c5_); (try clear hsz); (try clear s₁); (try clear hlen); (try clear h_p); omega) | omega)) (sE_rowA (r := 1) hq (by decide)) rfl ⟨by (first | ((try clear hr8); (try clear c5_); (try clear hqb); (try clear hsz); (try clear s₁); (try clear hlen); omega) | omega), by (first | ((try clear hr8); (try clear hqb); (try clear hsz); (try clear s₁); omega) | omega)⟩ (by (first | ((try clear hr8); (try clear c5_); (try clear hsz); (try clear s₁); (try clear hlen); (try clear h_p); omega) | omega)) dX4_endsAt_13 ?_
    refine lv_sipush (v := iZ 515) hx hb dX4_endsAt_14 rfl ?_
    refine fz_icmp_ne (tgt := 24) (by constructor <;> (first | ((try clear c5_); (try clear hqb); (try clear hsz); (try clear s₁); (try clear hlen); (try clear h_p); omega) | omega)) (by decide) hx hb dX4_endsAt_17 (by decide) (fun c17_ => ?_) (fun c17_ => ?_)
    · refine lv_iconst (v := iZ 0) hx hb dX4_endsAt_24 rfl ?_
      exact W.zret (v := iZ (0)) hx hb hr (by decide +kernel) (fun t9 ht9 hW9 => ⟨⟨iZ (0), (μ, 0), rfl, ⟨rfl, (by
                    dsimp only
                    refine ⟨rfl, ?_⟩
                    split <;> (first | ((try clear hr8); (try clear hqb); (try clear hsz); (try clear s₁); (try clear hlen); (try clear h_p); omega) | omega))⟩, by rw [ht9]; exact hP, va_K.moved hW9.alike hK⟩, hS.F ht9⟩) hS.2.2 dX4_endsAt_25
    · refine lv_iconst (v := iZ 1) hx hb dX4_endsAt_20 rfl ?_
      refine lv_goto (tgt := 25) hx hb dX4_endsAt_21 (by decide) ?_
      exact W.zret (v := iZ (1)) hx hb hr (by decide +kernel) (fun t9 ht9 hW9 => ⟨⟨iZ (1), (μ, 1), rfl, ⟨rfl, (by
                    dsimp only
                    refine ⟨rfl, ?_⟩
                    split <;> (first | ((try clear hr8); (try clear c5_); (try clear hqb); (try clear hsz); (try clear s₁); (try clear hlen); (try clear h_p); omega) | omega))⟩, by rw [ht9]; exact hP, va_K.moved hW9.alike hK⟩, hS.F ht9⟩) hS.2.2 dX4_endsAt_25
set_option maxHeartbeats 4000000 in
set_option maxRecDepth 100000 in
theorem s_RcodeOf (l : Launch) (dC : Nat → ClassId) (dI : Nat → Nat → Nat) (cI cZ cII cIII : ClassId) (h0 sz : Nat) (μ : va_M) (q : Nat) (rm : Nat) (nd : Int) (hq : rowB q rm) (h_p : 0 ≤ nd ∧ nd < rm) (hr9 : 0 ≤ μ (q + 5) nd.toNat ∧ μ (q + 5) nd.toNat < rm) : Met l yX4_codeOf (Cond.code yX4_codeOf cX4_codeOf 2 (some .int) :: wsG) ({ frames := 1, cells := 0, slots := 0, locals := 14 } : Room) (va_Pc [.ref (h0 + q), .int (iZ (nd))] (fun U => U.heap.size = sz ∧ va_P (dC, dI) vwCl (fw (sE cI cZ cII cIII h0) h0 233 μ) U.heap ∧ va_K (dC, dI) vwCl (sT cI cZ cII cIII) U ∧ xM U)) (va_Qi (fun (r9 : Int32) (u : va_M × Int) => r9 = iZ u.2 ∧ (fun (u : va_M) (r : Int) => u = μ ∧ r = μ (q + 1) (μ (q + 5) nd.toNat).toNat) u.1 u.2) (fun u t => va_P (dC, dI) vwCl (fw (sE cI cZ cII cIII h0) h0 233 u.1) t.heap ∧ va_K (dC, dI) vwCl (sT cI cZ cII cIII) t) (fA h0 233 sz)) 0 0 (fA h0 233 sz) := by
  refine Met.ofW (cc := cX4_codeOf) (maxL := 2) (ret := (some .int)) (by decide) rfl ?_
  intro p e s m args below meth c s₁ B hml hv
  obtain ⟨rfl, hsz, hP, hK, hM⟩ := hv
  have hx := B.exec
  have hb := B.bytes
  have hr := B.returns
  have hts : ∀ w ∈ wsG, w.before _ s = true := hG_of (atoms_spec (ws := (Cond.code yX4_codeOf cX4_codeOf 2 (some .int) :: wsG)) B.pre)
  have hown : s.vm.findClass RX4 = some m.cls := findClass_of_methodNamed B.named
  have hlocks := B.notSynchronized
  subst hsz
  have hS : va_S (fA h0 233 s.heap.size) s.heap s.heap [] := va_S.rf
  have hl := lv_entry ([.ref (h0 + q), .int (iZ (nd))]) (n := 2) (Nat.le_of_ble_eq_true rfl)
  rw [lg_entry_eq]
  generalize (lg_sl ([.ref (h0 + q), .int (iZ (nd))]) ++ List.replicate (2 - (lg_sl ([.ref (h0 + q), .int (iZ (nd))])).length) Slot.unset).toArray = ls at hl ⊢
  have hl : lv_has ls 2 [(0, .ref (h0 + q)), (1, .int (iZ (nd)))] := hl
  have hqb := rowB_b hq
  refine lv_aload_n hx hb dX4_codeOf_0 rfl (lv_at hl 0 rfl) ?_
  refine fz_get (D := (dC, dI)) (ci := 4) (v := .ref (h0 + (q + 1))) (C := RX4) (T := TX4) (N := 8) hx hb hts inG4 hown hK hP (k := q) (by (first | ((try clear hsz); (try clear s₁); (try clear h_p); omega) | omega)) (F := (sRF h0 q)) (sE_rowO hq) rfl 0 (by decide) (hts _ k77) (fun _ h9 => h9) rfl dX4_codeOf_1 ?_
  refine lv_aload_n hx hb dX4_codeOf_4 rfl (lv_at hl 0 rfl) ?_
  refine fz_get (D := (dC, dI)) (ci := 4) (v := .ref (h0 + (q + 5))) (C := RX4) (T := TX4) (N := 8) hx hb hts inG4 hown hK hP (k := q) (by (first | ((try clear hsz); (try clear s₁); (try clear h_p); omega) | omega)) (F := (sRF h0 q)) (sE_rowO hq) rfl 4 (by decide) (hts _ k90) (fun _ h9 => h9) rfl dX4_codeOf_5 ?_
  refine lv_iload_n hx hb dX4_codeOf_8 rfl (lv_at hl 1 rfl) ?_
  refine fz_ld (k := (q + 5)) (n := rm) hx hb hK hP 0 (by (first | ((try clear hsz); (try clear s₁); (try clear h_p); omega) | omega)) (sE_rowA (r := 5) hq (by decide)) rfl ⟨by (first | ((try clear hqb); (try clear hsz); (try clear s₁); omega) | omega), by (first | ((try clear hqb); (try clear hsz); (try clear s₁); omega) | omega)⟩ (by (first | ((try clear hsz); (try clear s₁); (try clear h_p); omega) | omega)) dX4_codeOf_9 ?_
  refine fz_ld (k := (q + 1)) (n := rm) hx hb hK hP 0 (by (first | ((try clear hsz); (try clear s₁); (try clear h_p); omega) | omega)) (sE_rowA (r := 1) hq (by decide)) rfl ⟨by (first | ((try clear hqb); (try clear hsz); (try clear s₁); (try clear h_p); omega) | omega), by (first | ((try clear hqb); (try clear hsz); (try clear s₁); (try clear h_p); omega) | omega)⟩ (by (first | ((try clear hsz); (try clear s₁); (try clear h_p); omega) | omega)) dX4_codeOf_10 ?_
  exact W.iret (v := iZ (μ (q + 1) (μ (q + 5) (nd).toNat).toNat)) hx hb hr (fun t9 ht9 hW9 => ⟨⟨iZ (μ (q + 1) (μ (q + 5) (nd).toNat).toNat), (μ, μ (q + 1) (μ (q + 5) (nd).toNat).toNat), rfl, ⟨rfl, (by
            dsimp only
            exact ⟨rfl, rfl⟩)⟩, by rw [ht9]; exact hP, va_K.moved hW9.alike hK⟩, hS.F ht9⟩) hS.2.2 dX4_codeOf_11

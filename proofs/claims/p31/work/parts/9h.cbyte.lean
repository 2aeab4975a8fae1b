
/-! a byte of a number, shifted with its sign or without -/
theorem by_us (X : Int32) (s : Nat) (hs : s + 8 ≤ 32) : ∀ i : Nat, i < 32 → ((X.toBitVec >>> s) &&& 255#32).getLsbD i = ((X.toBitVec.sshiftRight s) &&& 255#32).getLsbD i := by
  intro i hi
  rw [BitVec.getLsbD_and, BitVec.getLsbD_and, BitVec.getLsbD_ushiftRight, BitVec.getLsbD_sshiftRight]
  by_cases h : i < 8
  · have h1 : s + i < 32 := by omega
    have h2 : i < 32 := by omega
    have h3 : decide (32 ≤ i) = false := decide_eq_false (by omega)
    simp [h1, h2, h3]
  · have h9 : (255#32).getLsbD i = false := by
      have hk : ∀ j : Fin 32, ¬ j.val < 8 → (255#32).getLsbD j.val = false := by decide
      exact hk ⟨i, hi⟩ h
    rw [h9, Bool.and_false, Bool.and_false]
theorem by_eq (X : Int32) (s : Nat) (hs : s + 8 ≤ 32) : (X.toBitVec >>> s) &&& 255#32 = (X.toBitVec.sshiftRight s) &&& 255#32 := BitVec.eq_of_getLsbD_eq (fun i hi => by_us X s hs i hi)
theorem by_24 (X : Int32) : (X.toUInt32 >>> ((iZ 24).toUInt32 &&& Int32.toUInt32 31)).toInt32 &&& iZ 255 = (X >>> (iZ 24 &&& 31)) &&& iZ 255 := by
  apply Int32.toBitVec_inj.mp
  exact by_eq X 24 (by decide)
theorem by_16 (X : Int32) : (X.toUInt32 >>> ((iZ 16).toUInt32 &&& Int32.toUInt32 31)).toInt32 &&& iZ 255 = (X >>> (iZ 16 &&& 31)) &&& iZ 255 := by
  apply Int32.toBitVec_inj.mp
  exact by_eq X 16 (by decide)
theorem by_8 (X : Int32) : (X.toUInt32 >>> ((iZ 8).toUInt32 &&& Int32.toUInt32 31)).toInt32 &&& iZ 255 = (X >>> (iZ 8 &&& 31)) &&& iZ 255 := by
  apply Int32.toBitVec_inj.mp
  exact by_eq X 8 (by decide)
theorem by_0 (X : Int32) : (X.toUInt32 >>> ((iZ 0).toUInt32 &&& Int32.toUInt32 31)).toInt32 &&& iZ 255 = (X >>> (iZ 0 &&& 31)) &&& iZ 255 := by
  apply Int32.toBitVec_inj.mp
  exact by_eq X 0 (by decide)

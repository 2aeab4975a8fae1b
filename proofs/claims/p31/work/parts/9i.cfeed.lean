theorem dX5_feedNumber_0 : decode cX5_feedNumber 0 = .ok (.bipush 24, 2) := by decide +kernel
theorem dX5_feedNumber_2 : decode cX5_feedNumber 2 = .ok (.istore_n 2, 1) := by decide +kernel
theorem dX5_feedNumber_3 : decode cX5_feedNumber 3 = .ok (.iload_n 2, 1) := by decide +kernel
theorem dX5_feedNumber_4 : decode cX5_feedNumber 4 = .ok (.ifCond .lt 47, 3) := by decide +kernel
theorem dX5_feedNumber_7 : decode cX5_feedNumber 7 = .ok (.aload_n 0, 1) := by decide +kernel
theorem dX5_feedNumber_8 : decode cX5_feedNumber 8 = .ok (.getfield 15, 3) := by decide +kernel
theorem dX5_feedNumber_11 : decode cX5_feedNumber 11 = .ok (.aload_n 0, 1) := by decide +kernel
theorem dX5_feedNumber_12 : decode cX5_feedNumber 12 = .ok (.getfield 9, 3) := by decide +kernel
theorem dX5_feedNumber_15 : decode cX5_feedNumber 15 = .ok (.arraylength, 1) := by decide +kernel
theorem dX5_feedNumber_16 : decode cX5_feedNumber 16 = .ok (.if_icmp .ge 29, 3) := by decide +kernel
theorem dX5_feedNumber_19 : decode cX5_feedNumber 19 = .ok (.aload_n 0, 1) := by decide +kernel
theorem dX5_feedNumber_20 : decode cX5_feedNumber 20 = .ok (.getfield 9, 3) := by decide +kernel
theorem dX5_feedNumber_23 : decode cX5_feedNumber 23 = .ok (.aload_n 0, 1) := by decide +kernel
theorem dX5_feedNumber_24 : decode cX5_feedNumber 24 = .ok (.getfield 15, 3) := by decide +kernel
theorem dX5_feedNumber_27 : decode cX5_feedNumber 27 = .ok (.iload_n 1, 1) := by decide +kernel
theorem dX5_feedNumber_28 : decode cX5_feedNumber 28 = .ok (.iload_n 2, 1) := by decide +kernel
theorem dX5_feedNumber_29 : decode cX5_feedNumber 29 = .ok (.iushr, 1) := by decide +kernel
theorem dX5_feedNumber_30 : decode cX5_feedNumber 30 = .ok (.sipush 255, 3) := by decide +kernel
theorem dX5_feedNumber_33 : decode cX5_feedNumber 33 = .ok (.iand, 1) := by decide +kernel
theorem dX5_feedNumber_34 : decode cX5_feedNumber 34 = .ok (.iastore, 1) := by decide +kernel
theorem dX5_feedNumber_35 : decode cX5_feedNumber 35 = .ok (.aload_n 0, 1) := by decide +kernel
theorem dX5_feedNumber_36 : decode cX5_feedNumber 36 = .ok (.dup, 1) := by decide +kernel
theorem dX5_feedNumber_37 : decode cX5_feedNumber 37 = .ok (.getfield 15, 3) := by decide +kernel
theorem dX5_feedNumber_40 : decode cX5_feedNumber 40 = .ok (.iconst 1, 1) := by decide +kernel
theorem dX5_feedNumber_41 : decode cX5_feedNumber 41 = .ok (.iadd, 1) := by decide +kernel
theorem dX5_feedNumber_42 : decode cX5_feedNumber 42 = .ok (.putfield 15, 3) := by decide +kernel
theorem dX5_feedNumber_45 : decode cX5_feedNumber 45 = .ok (.iinc 2 (-8), 3) := by decide +kernel
theorem dX5_feedNumber_48 : decode cX5_feedNumber 48 = .ok (.goto (-45), 3) := by decide +kernel
theorem dX5_feedNumber_51 : decode cX5_feedNumber 51 = .ok (.return_, 1) := by decide +kernel
/-! the class is fed -/
theorem by_bz {a k sh z0 z1 : Int} (hk : 0 ≤ k ∧ k < 4) (hsh : sh = 24 - 8 * k) (h : inR z1) (e0 : iZ z0 = ((iZ a).toUInt32 >>> ((iZ sh).toUInt32 &&& Int32.toUInt32 31)).toInt32) (e1 : iZ z1 = iZ z0 &&& iZ 255) : z1 = bz a k := by
  unfold bz
  rcases (show k = 0 ∨ k = 1 ∨ k = 2 ∨ k = 3 by omega) with rfl | rfl | rfl | rfl
  · obtain rfl : sh = 24 := by omega
    rw [show (24 : Int) - 8 * 0 = 24 from rfl, ← by_24, ← e0, ← e1, iZ_toInt h]
  · obtain rfl : sh = 16 := by omega
    rw [show (24 : Int) - 8 * 1 = 16 from rfl, ← by_16, ← e0, ← e1, iZ_toInt h]
  · obtain rfl : sh = 8 := by omega
    rw [show (24 : Int) - 8 * 2 = 8 from rfl, ← by_8, ← e0, ← e1, iZ_toInt h]
  · obtain rfl : sh = 0 := by omega
    rw [show (24 : Int) - 8 * 3 = 0 from rfl, ← by_0, ← e0, ← e1, iZ_toInt h]

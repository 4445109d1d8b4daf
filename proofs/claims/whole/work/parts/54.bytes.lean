/-! a byte of a long, by both ways -/
theorem by_bits (b : BitVec 64) (s : Nat) (hs : s ≤ 56) : (((b >>> s).signExtend 32).signExtend 8).signExtend 32 &&& 255#32 = ((b.sshiftRight s) &&& 255#64).signExtend 32 := by
  apply BitVec.eq_of_getLsbD_eq
  intro j hj
  have h1 : (255#32).getLsbD j = decide (j < 8) := by
    rcases (show j < 8 ∨ 8 ≤ j by omega) with h | h
    · have : j = 0 ∨ j = 1 ∨ j = 2 ∨ j = 3 ∨ j = 4 ∨ j = 5 ∨ j = 6 ∨ j = 7 := by omega
      rcases this with rfl | rfl | rfl | rfl | rfl | rfl | rfl | rfl <;> rfl
    · have e : decide (j < 8) = false := by simp; omega
      rw [e]
      show Nat.testBit _ j = false
      exact Nat.testBit_lt_two_pow (Nat.lt_of_lt_of_le (by decide : (255#32).toNat < 2 ^ 8) (Nat.pow_le_pow_right (by decide) h))
  have h2 : (255#64).getLsbD j = decide (j < 8) := by
    rcases (show j < 8 ∨ 8 ≤ j by omega) with h | h
    · have : j = 0 ∨ j = 1 ∨ j = 2 ∨ j = 3 ∨ j = 4 ∨ j = 5 ∨ j = 6 ∨ j = 7 := by omega
      rcases this with rfl | rfl | rfl | rfl | rfl | rfl | rfl | rfl <;> rfl
    · have e : decide (j < 8) = false := by simp; omega
      rw [e]
      show Nat.testBit _ j = false
      exact Nat.testBit_lt_two_pow (Nat.lt_of_lt_of_le (by decide : (255#64).toNat < 2 ^ 8) (Nat.pow_le_pow_right (by decide) h))
  have h3 : (((b.sshiftRight s) &&& 255#64).signExtend 32).getLsbD j = ((b.sshiftRight s).getLsbD j && decide (j < 8)) := by
    rw [BitVec.getLsbD_signExtend, if_pos (by omega), BitVec.getLsbD_and, h2]
    simp [hj]
  rw [BitVec.getLsbD_and, h3, h1]
  by_cases h : j < 8
  · have e1 : ((((b >>> s).signExtend 32).signExtend 8).signExtend 32).getLsbD j = b.getLsbD (s + j) := by
      rw [BitVec.getLsbD_signExtend, if_pos h, BitVec.getLsbD_signExtend, if_pos hj, BitVec.getLsbD_signExtend, if_pos (by omega), BitVec.getLsbD_ushiftRight]
      simp [h, hj]
    have e2 : (b.sshiftRight s).getLsbD j = b.getLsbD (s + j) := by
      rw [BitVec.getLsbD_sshiftRight, if_pos (by omega)]
      have : ¬ 64 ≤ j := by omega
      simp [this]
    rw [e1, e2]
  · simp [h]
theorem by_eq (e : Int64) (i : Nat) (h : i < 8) : xa_by e i &&& 255 = ma_by e i := by
  have hn : ∀ z : Int32, vp_nar .byte z.toInt8.toInt32 = z.toInt8.toInt32 := fun z => by
    have := pk_nb z
    unfold vp_nar
    rw [this]
  unfold xa_by ma_by
  rw [hn]
  apply Int32.toBitVec_inj.mp
  have hi : i = 0 ∨ i = 1 ∨ i = 2 ∨ i = 3 ∨ i = 4 ∨ i = 5 ∨ i = 6 ∨ i = 7 := by omega
  rcases hi with rfl | rfl | rfl | rfl | rfl | rfl | rfl | rfl
  · have s1 : (((8 : Int32) * nI 0).toInt64.toUInt64 &&& Int64.toUInt64 63) = 0 := by decide
    have s2 : (((8 : Int32) * nI 0).toInt64 &&& 63) = 0 := by decide
    rw [s1, s2, Int32.toBitVec_and, Int8.toBitVec_toInt32, Int32.toBitVec_toInt8, Int64.toBitVec_toInt32, UInt64.toBitVec_toInt64, UInt64.toBitVec_shiftRight, Int64.toBitVec_toInt32, Int64.toBitVec_and, Int64.toBitVec_shiftRight]
    exact by_bits e.toBitVec 0 (by decide)
  · have s1 : (((8 : Int32) * nI 1).toInt64.toUInt64 &&& Int64.toUInt64 63) = 8 := by decide
    have s2 : (((8 : Int32) * nI 1).toInt64 &&& 63) = 8 := by decide
    rw [s1, s2, Int32.toBitVec_and, Int8.toBitVec_toInt32, Int32.toBitVec_toInt8, Int64.toBitVec_toInt32, UInt64.toBitVec_toInt64, UInt64.toBitVec_shiftRight, Int64.toBitVec_toInt32, Int64.toBitVec_and, Int64.toBitVec_shiftRight]
    exact by_bits e.toBitVec 8 (by decide)
  · have s1 : (((8 : Int32) * nI 2).toInt64.toUInt64 &&& Int64.toUInt64 63) = 16 := by decide
    have s2 : (((8 : Int32) * nI 2).toInt64 &&& 63) = 16 := by decide
    rw [s1, s2, Int32.toBitVec_and, Int8.toBitVec_toInt32, Int32.toBitVec_toInt8, Int64.toBitVec_toInt32, UInt64.toBitVec_toInt64, UInt64.toBitVec_shiftRight, Int64.toBitVec_toInt32, Int64.toBitVec_and, Int64.toBitVec_shiftRight]
    exact by_bits e.toBitVec 16 (by decide)
  · have s1 : (((8 : Int32) * nI 3).toInt64.toUInt64 &&& Int64.toUInt64 63) = 24 := by decide
    have s2 : (((8 : Int32) * nI 3).toInt64 &&& 63) = 24 := by decide
    rw [s1, s2, Int32.toBitVec_and, Int8.toBitVec_toInt32, Int32.toBitVec_toInt8, Int64.toBitVec_toInt32, UInt64.toBitVec_toInt64, UInt64.toBitVec_shiftRight, Int64.toBitVec_toInt32, Int64.toBitVec_and, Int64.toBitVec_shiftRight]
    exact by_bits e.toBitVec 24 (by decide)
  · have s1 : (((8 : Int32) * nI 4).toInt64.toUInt64 &&& Int64.toUInt64 63) = 32 := by decide
    have s2 : (((8 : Int32) * nI 4).toInt64 &&& 63) = 32 := by decide
    rw [s1, s2, Int32.toBitVec_and, Int8.toBitVec_toInt32, Int32.toBitVec_toInt8, Int64.toBitVec_toInt32, UInt64.toBitVec_toInt64, UInt64.toBitVec_shiftRight, Int64.toBitVec_toInt32, Int64.toBitVec_and, Int64.toBitVec_shiftRight]
    exact by_bits e.toBitVec 32 (by decide)
  · have s1 : (((8 : Int32) * nI 5).toInt64.toUInt64 &&& Int64.toUInt64 63) = 40 := by decide
    have s2 : (((8 : Int32) * nI 5).toInt64 &&& 63) = 40 := by decide
    rw [s1, s2, Int32.toBitVec_and, Int8.toBitVec_toInt32, Int32.toBitVec_toInt8, Int64.toBitVec_toInt32, UInt64.toBitVec_toInt64, UInt64.toBitVec_shiftRight, Int64.toBitVec_toInt32, Int64.toBitVec_and, Int64.toBitVec_shiftRight]
    exact by_bits e.toBitVec 40 (by decide)
  · have s1 : (((8 : Int32) * nI 6).toInt64.toUInt64 &&& Int64.toUInt64 63) = 48 := by decide
    have s2 : (((8 : Int32) * nI 6).toInt64 &&& 63) = 48 := by decide
    rw [s1, s2, Int32.toBitVec_and, Int8.toBitVec_toInt32, Int32.toBitVec_toInt8, Int64.toBitVec_toInt32, UInt64.toBitVec_toInt64, UInt64.toBitVec_shiftRight, Int64.toBitVec_toInt32, Int64.toBitVec_and, Int64.toBitVec_shiftRight]
    exact by_bits e.toBitVec 48 (by decide)
  · have s1 : (((8 : Int32) * nI 7).toInt64.toUInt64 &&& Int64.toUInt64 63) = 56 := by decide
    have s2 : (((8 : Int32) * nI 7).toInt64 &&& 63) = 56 := by decide
    rw [s1, s2, Int32.toBitVec_and, Int8.toBitVec_toInt32, Int32.toBitVec_toInt8, Int64.toBitVec_toInt32, UInt64.toBitVec_toInt64, UInt64.toBitVec_shiftRight, Int64.toBitVec_toInt32, Int64.toBitVec_and, Int64.toBitVec_shiftRight]
    exact by_bits e.toBitVec 56 (by decide)
theorem by_fit (e : Int64) (i : Nat) : fits .byte (.int (xa_by e i)) = true := by
  have hn : ∀ z : Int32, vp_nar .byte z.toInt8.toInt32 = z.toInt8.toInt32 := fun z => by
    have := pk_nb z
    unfold vp_nar
    rw [this]
  unfold xa_by
  rw [hn]
  exact pk_fb _
theorem bit01 (s e : Int32) : xa_bit s e = 0 ∨ xa_bit s e = 1 := by
  obtain ⟨j, hj, h⟩ := pk_andE (s >>> (e &&& 31)) (m := 1) 1 rfl
  unfold xa_bit
  rw [h]
  rcases (show j = 0 ∨ j = 1 by omega) with rfl | rfl
  · exact Or.inl rfl
  · exact Or.inr rfl
theorem bit_par (s i j : Int32) : ¬ (xa_bit s i = 1 ↔ xa_bit s j = 1) ↔ ¬ xa_bit s i = xa_bit s j := by
  rcases bit01 s i with h | h <;> rcases bit01 s j with h2 | h2 <;> rw [h, h2] <;> decide

theorem bv_by (x : BitVec 32) (s : Nat) (hs : s ≤ 24) : (x >>> s) &&& 255#32 = (x.sshiftRight s) &&& 255#32 := by
  apply BitVec.eq_of_getLsbD_eq
  intro i hi
  rw [BitVec.getLsbD_and, BitVec.getLsbD_and]
  by_cases h8 : i < 8
  · rw [BitVec.getLsbD_ushiftRight, BitVec.getLsbD_sshiftRight]
    have h1 : s + i < 32 := by omega
    have h2 : ¬ 32 ≤ i := by omega
    simp [h1, hi, h2]
  · have h255 : (255#32).getLsbD i = false := by
      rw [BitVec.getLsbD_ofNat, Nat.testBit_lt_two_pow (Nat.lt_of_lt_of_le (show 255 < 2 ^ 8 by decide) (Nat.pow_le_pow_right (by decide) (by omega)))]
      simp
    rw [h255]
    simp
theorem by_24 (x : Int32) : (x.toUInt32 >>> ((24 : Int32).toUInt32 &&& Int32.toUInt32 31)).toInt32 &&& 255 = (x >>> (((24 : Int32) - ((8 : Int32) * 0)) &&& 31)) &&& 255 := by
  apply Int32.toBitVec_inj.mp
  exact bv_by x.toBitVec 24 (by omega)
theorem by_16 (x : Int32) : (x.toUInt32 >>> ((16 : Int32).toUInt32 &&& Int32.toUInt32 31)).toInt32 &&& 255 = (x >>> (((24 : Int32) - ((8 : Int32) * 1)) &&& 31)) &&& 255 := by
  apply Int32.toBitVec_inj.mp
  exact bv_by x.toBitVec 16 (by omega)
theorem by_8 (x : Int32) : (x.toUInt32 >>> ((8 : Int32).toUInt32 &&& Int32.toUInt32 31)).toInt32 &&& 255 = (x >>> (((24 : Int32) - ((8 : Int32) * 2)) &&& 31)) &&& 255 := by
  apply Int32.toBitVec_inj.mp
  exact bv_by x.toBitVec 8 (by omega)
theorem by_0 (x : Int32) : (x.toUInt32 >>> ((0 : Int32).toUInt32 &&& Int32.toUInt32 31)).toInt32 &&& 255 = (x >>> (((24 : Int32) - ((8 : Int32) * 3)) &&& 31)) &&& 255 := by
  apply Int32.toBitVec_inj.mp
  exact bv_by x.toBitVec 0 (by omega)
/-- byte j of a number -/
def byM (x : Int32) (j : Nat) : Int32 := (x >>> (((24 : Int32) - ((8 : Int32) * nI j)) &&& 31)) &&& 255
theorem byM_b (x : Int32) (j : Nat) : 0 ≤ (byM x j).toInt ∧ (byM x j).toInt ≤ 255 := by
  have h := i_and (a := x >>> (((24 : Int32) - ((8 : Int32) * nI j)) &&& 31)) (c := 255) (by decide)
  rw [li_255] at h
  exact h
theorem byK {x s : Int32} {j : Nat} (h : s.toInt = 24 - 8 * (j : Int)) (hj : j < 4) : (x.toUInt32 >>> (s.toUInt32 &&& Int32.toUInt32 31)).toInt32 &&& 255 = byM x j := by
  rcases (show j = 0 ∨ j = 1 ∨ j = 2 ∨ j = 3 by omega) with rfl | rfl | rfl | rfl
  · obtain rfl : s = 24 := i_eq (h.trans (by decide))
    exact by_24 x
  · obtain rfl : s = 16 := i_eq (h.trans (by decide))
    exact by_16 x
  · obtain rfl : s = 8 := i_eq (h.trans (by decide))
    exact by_8 x
  · obtain rfl : s = 0 := i_eq (h.trans (by decide))
    exact by_0 x

/-! an int & 31 -/
theorem and31 (x : Int32) : ∃ v : Nat, v < 32 ∧ x &&& zI 31 = zI (v : Int) := by
  refine ⟨(x &&& zI 31).toBitVec.toNat, ?_, ?_⟩
  · show (x.toBitVec &&& (31#32)).toNat < 32
    rw [BitVec.toNat_and]
    exact Nat.lt_of_le_of_lt Nat.and_le_right (by decide)
  · have h1 : (x.toBitVec &&& (31#32)).toNat < 32 := by
      rw [BitVec.toNat_and]
      exact Nat.lt_of_le_of_lt Nat.and_le_right (by decide)
    apply Int32.toBitVec_inj.mp
    show x.toBitVec &&& 31#32 = BitVec.ofInt 32 (((x.toBitVec &&& 31#32).toNat : Nat) : Int)
    rw [BitVec.ofInt_natCast, BitVec.ofNat_toNat, BitVec.setWidth_eq]

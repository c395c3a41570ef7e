/-! The bytes of an int. -/
/-- byte k of an int, the highest first -/
def tb (w : Int32) (k : Nat) : Nat := w.toBitVec.toNat / 2 ^ (24 - 8 * k) % 256
theorem tb_lt (w : Int32) (k : Nat) : tb w k < 256 := Nat.mod_lt _ (by decide)
theorem bv_255 (b : BitVec 32) (s : Nat) (hs : s ≤ 24) : b.sshiftRight s &&& 255#32 = b >>> s &&& 255#32 := by
  apply BitVec.eq_of_getLsbD_eq
  intro i hi
  rw [BitVec.getLsbD_and, BitVec.getLsbD_and]
  by_cases h : i < 8
  · rw [BitVec.getLsbD_sshiftRight, BitVec.getLsbD_ushiftRight]
    have h1 : s + i < 32 := by omega
    have h2 : ¬ 32 ≤ i := by omega
    simp [h1, h2]
  · have : (255#32).getLsbD i = false := by
      rw [BitVec.getLsbD_ofNat]
      have h1 : Nat.testBit 255 i = false := by
        rw [show 255 = 2 ^ 8 - 1 from rfl, Nat.testBit_two_pow_sub_one]
        exact decide_eq_false h
      rw [h1, Bool.and_false]
    rw [this, Bool.and_false, Bool.and_false]
theorem bv_nat (b : BitVec 32) (s : Nat) : (b >>> s &&& 255#32).toNat = b.toNat / 2 ^ s % 256 := by
  rw [BitVec.toNat_and, BitVec.toNat_ushiftRight, Nat.shiftRight_eq_div_pow]
  exact Nat.and_two_pow_sub_one_eq_mod _ 8
theorem iZ_nat (n : Nat) (h : n < 256) : (iZ n).toBitVec.toNat = n := by
  have : (iZ n).toInt = n := toI (by omega) (by omega)
  have h2 : (iZ n).toBitVec.toInt = n := this
  rw [BitVec.toInt_eq_toNat_cond] at h2
  split at h2 <;> omega
theorem tb_m (w : Int32) {k : Nat} (hk : k < 4) : (w >>> (iZ (24 - 8 * k) &&& 31)) &&& iZ 255 = iZ (tb w k) := by
  apply Int32.toBitVec_inj.mp
  apply BitVec.eq_of_toNat_eq
  rw [iZ_nat _ (tb_lt w k), Int32.toBitVec_and, Int32.toBitVec_shiftRight]
  unfold tb
  have hc : k = 0 ∨ k = 1 ∨ k = 2 ∨ k = 3 := by omega
  rcases hc with rfl | rfl | rfl | rfl
  · exact (congrArg BitVec.toNat (bv_255 w.toBitVec 24 (by decide))).trans (bv_nat _ 24)
  · exact (congrArg BitVec.toNat (bv_255 w.toBitVec 16 (by decide))).trans (bv_nat _ 16)
  · exact (congrArg BitVec.toNat (bv_255 w.toBitVec 8 (by decide))).trans (bv_nat _ 8)
  · exact (congrArg BitVec.toNat (bv_255 w.toBitVec 0 (by decide))).trans (bv_nat _ 0)
theorem tb_c (w : Int32) {k : Nat} (hk : k < 4) : (w.toUInt32 >>> ((iZ (24 - 8 * k)).toUInt32 &&& Int32.toUInt32 31)).toInt32 &&& iZ 255 = iZ (tb w k) := by
  apply Int32.toBitVec_inj.mp
  apply BitVec.eq_of_toNat_eq
  rw [iZ_nat _ (tb_lt w k), Int32.toBitVec_and]
  unfold tb
  have hc : k = 0 ∨ k = 1 ∨ k = 2 ∨ k = 3 := by omega
  rcases hc with rfl | rfl | rfl | rfl
  · exact bv_nat w.toBitVec 24
  · exact bv_nat w.toBitVec 16
  · exact bv_nat w.toBitVec 8
  · exact bv_nat w.toBitVec 0

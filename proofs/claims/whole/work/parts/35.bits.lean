/-! Bits of small numbers. -/
theorem iZ_natB (n : Nat) (h : n < 2147483648) : (iZ n).toBitVec = BitVec.ofNat 32 n := by
  apply BitVec.eq_of_toInt_eq
  have h1 : (iZ n).toInt = n := toI (by omega) (by omega)
  show (iZ n).toInt = _
  rw [h1, BitVec.toInt_ofNat', Int.bmod_eq_of_le (by omega) (by omega)]
theorem shA_ok : ((List.range 32).all fun n => decide (((iZ n &&& 31).toBitVec.smod 32).toNat = n)) = true := by decide +kernel
theorem shA {i : Nat} (h : i < 32) : ((iZ i &&& 31).toBitVec.smod 32).toNat = i := of_decide_eq_true (List.all_eq_true.mp shA_ok i (List.mem_range.mpr h))
theorem bit_get {n i : Nat} (h : n < 2147483648) (hi : i < 32) : (iZ n >>> (iZ i &&& 31)) &&& iZ 1 = iZ ((n / 2 ^ i % 2 : Nat) : Int) := by
  apply Int32.toBitVec_inj.mp
  have h3 : n / 2 ^ i % 2 < 2 := Nat.mod_lt _ (by decide)
  rw [Int32.toBitVec_and, Int32.toBitVec_shiftRight, iZ_natB n h, iZ_natB _ (by omega)]
  rw [show (iZ 1).toBitVec = 1#32 from rfl, BitVec.sshiftRight', shA hi]
  rw [BitVec.sshiftRight_eq_of_msb_false (by rw [BitVec.msb_eq_false_iff_two_mul_lt, BitVec.toNat_ofNat]; omega)]
  apply BitVec.eq_of_toNat_eq
  have h4 : (BitVec.ofNat 32 (n / 2 ^ i % 2)).toNat = n / 2 ^ i % 2 := by rw [BitVec.toNat_ofNat]; exact Nat.mod_eq_of_lt (by omega)
  have h5 : (BitVec.ofNat 32 n).toNat = n := by rw [BitVec.toNat_ofNat]; exact Nat.mod_eq_of_lt (by omega)
  rw [h4, BitVec.toNat_and, BitVec.toNat_ushiftRight, Nat.shiftRight_eq_div_pow, h5]
  exact Nat.and_two_pow_sub_one_eq_mod _ 1
theorem bit_shl {i : Nat} (hi : i < 31) : iZ 1 <<< (iZ i &&& 31) = iZ ((2 ^ i : Nat) : Int) := by
  apply Int32.toBitVec_inj.mp
  have h2 : 2 ^ i < 2147483648 := (Nat.pow_lt_pow_iff_right (by decide)).mpr hi
  rw [Int32.toBitVec_shiftLeft, iZ_natB _ h2, show (iZ 1).toBitVec = 1#32 from rfl]
  rw [BitVec.shiftLeft_eq', shA (by omega)]
  apply BitVec.eq_of_toNat_eq
  rw [BitVec.toNat_shiftLeft, BitVec.toNat_ofNat, BitVec.toNat_ofNat, Nat.shiftLeft_eq]
  simp
theorem bit_or {a b : Nat} (ha : a < 2147483648) (hb : b < 2147483648) : iZ a ||| iZ b = iZ ((a ||| b : Nat) : Int) := by
  apply Int32.toBitVec_inj.mp
  have h2 : a ||| b < 2 ^ 31 := Nat.or_lt_two_pow ha hb
  rw [Int32.toBitVec_or, iZ_natB _ ha, iZ_natB _ hb, iZ_natB _ h2]
  apply BitVec.eq_of_toNat_eq
  rw [BitVec.toNat_or, BitVec.toNat_ofNat, BitVec.toNat_ofNat, BitVec.toNat_ofNat, Nat.mod_eq_of_lt (by omega), Nat.mod_eq_of_lt (by omega), Nat.mod_eq_of_lt (by omega)]
theorem tb_or (a i j : Nat) : (a ||| 2 ^ i) / 2 ^ j % 2 = if j = i then 1 else a / 2 ^ j % 2 := by
  have h : ∀ x : Nat, x / 2 ^ j % 2 = (x.testBit j).toNat := fun x => by
    rw [Nat.toNat_testBit]
  rw [h, h, Nat.testBit_or, Nat.testBit_two_pow]
  by_cases e : j = i
  · subst e; simp
  · have : ¬ i = j := fun h => e h.symm
    simp [e, this]

/-! KIN: the class's numbers and the reference's. -/
section
variable {M M' : Mem} {s t : Int} {n i j m : Nat}
/-- of the first n dogs: the reference's number is the class's, times 2^12; and how often it can be halved -/
def KN (M : Mem) (n : Nat) : Prop := ∀ i j, i < n → j < n → ∃ k : Int, mJ M (67 + i) j = jZ (k * 2 ^ (39 - max i j)) ∧ mJ M 160 (24 * i + j) = jZ (k * 2 ^ (51 - max i j)) ∧ 0 ≤ k * 2 ^ (39 - max i j) ∧ k * 2 ^ (39 - max i j) ≤ 1099511627776
theorem p2_split {a b : Nat} (h : b ≤ a) : (2 : Int) ^ a = 2 ^ (a - b) * 2 ^ b := by
  rw [← Int.pow_add, Nat.sub_add_cancel h]
theorem KN_one (hK : KN M n) (hn : n < 24) (hs : s = -1 ∨ 0 ≤ s ∧ s < n) (hj : j < n) : ∃ k : Int, kon M s j = jZ (2 * (k * 2 ^ (39 - n))) ∧ mhalf M s j = jZ (k * 2 ^ (51 - n)) ∧ 0 ≤ k * 2 ^ (39 - n) ∧ k * 2 ^ (39 - n) ≤ 549755813888 := by
  rcases hs with rfl | ⟨s0, s1⟩
  · refine ⟨0, ?_, ?_, by rw [Int.zero_mul]; decide, by rw [Int.zero_mul]; decide⟩
    · unfold kon; rw [if_pos (Or.inl rfl), Int.zero_mul]; rfl
    · unfold mhalf; rw [if_pos rfl, Int.zero_mul]
  · obtain ⟨a, rfl⟩ : ∃ a : Nat, s = a := ⟨s.toNat, by omega⟩
    obtain ⟨k, k1, k2, k3, k4⟩ := hK a j (by omega) hj
    obtain ⟨m, hm⟩ : ∃ m, m = max a j := ⟨_, rfl⟩
    rw [← hm] at k1 k2 k3 k4
    have mn : m + 1 ≤ n := by omega
    have e1 : (2 : Int) ^ (39 - m) = 2 * (2 ^ (n - 1 - m) * 2 ^ (39 - n)) := by
      have : 39 - m = 1 + ((n - 1 - m) + (39 - n)) := by omega
      rw [this, Int.pow_add, Int.pow_add]; rfl
    have e2 : (2 : Int) ^ (51 - m) = 2 * (2 ^ (n - 1 - m) * 2 ^ (51 - n)) := by
      have : 51 - m = 1 + ((n - 1 - m) + (51 - n)) := by omega
      rw [this, Int.pow_add, Int.pow_add]; rfl
    have e3 : (2 : Int) ^ (51 - n) = 4096 * 2 ^ (39 - n) := by
      have : 51 - n = 12 + (39 - n) := by omega
      rw [this, Int.pow_add]; rfl
    have v1 : k * 2 ^ (39 - m) = 2 * (k * 2 ^ (n - 1 - m) * 2 ^ (39 - n)) := by rw [e1]; grind
    have v2 : k * 2 ^ (51 - m) = 2 * (k * 2 ^ (n - 1 - m) * 2 ^ (51 - n)) := by rw [e2]; grind
    have v3 : k * 2 ^ (n - 1 - m) * 2 ^ (51 - n) = 4096 * (k * 2 ^ (n - 1 - m) * 2 ^ (39 - n)) := by rw [e3]; grind
    refine ⟨k * 2 ^ (n - 1 - m), ?_, ?_, by omega, by omega⟩
    · unfold kon
      rw [if_neg (by omega), Int.toNat_natCast, Int.toNat_natCast, k1, v1]
    · unfold mhalf
      rw [if_neg (by omega), show ((24 : Int) * (a : Nat) + (j : Nat)).toNat = 24 * a + j from by omega, k2, v2, jZ_div (by omega) (by omega) (by decide) (by decide), Int.mul_tdiv_cancel_left _ (by decide)]
theorem KN_add (hK : KN M n) (hn : n < 24) (hs : s = -1 ∨ 0 ≤ s ∧ s < n) (ht : t = -1 ∨ 0 ≤ t ∧ t < n) (h1 : ∀ i, i < 24 → mJ M' (67 + i) = kadd M s t n (67 + i)) (h2 : mJ M' 160 = madd M s t n) : KN M' (n + 1) := by
  have hh : ∀ j, j < n → ∃ k : Int, khalf M s t j = jZ (k * 2 ^ (39 - n)) ∧ mhalf M s j + mhalf M t j = jZ (k * 2 ^ (51 - n)) ∧ 0 ≤ k * 2 ^ (39 - n) ∧ k * 2 ^ (39 - n) ≤ 1099511627776 := fun j hj => by
    obtain ⟨a, a1, a2, a3, a4⟩ := KN_one hK hn hs hj
    obtain ⟨b, b1, b2, b3, b4⟩ := KN_one hK hn ht hj
    refine ⟨a + b, ?_, ?_, by rw [Int.add_mul]; omega, by rw [Int.add_mul]; omega⟩
    · unfold khalf
      rw [a1, b1, jZ_add, ← Int.mul_add, jZ_div (by omega) (by omega) (by decide) (by decide), Int.mul_tdiv_cancel_left _ (by decide), Int.add_mul]
    · rw [a2, b2, jZ_add, Int.add_mul]
  intro i j hi hj
  rw [h1 i (by omega), h2]
  have p39 : (2 : Int) ^ (39 - n) * 2 ^ n = 549755813888 := by rw [← Int.pow_add, show 39 - n + n = 39 from by omega]; rfl
  have p51 : (2 : Int) ^ (51 - n) * 2 ^ n = 2251799813685248 := by rw [← Int.pow_add, show 51 - n + n = 51 from by omega]; rfl
  by_cases c1 : i = n ∧ j = n
  · obtain ⟨rfl, rfl⟩ := c1
    rw [Nat.max_self]
    -- half of what sire and dam have in common
    have hd : ∃ k : Int, kon M s t / jZ 2 = jZ (k * 2 ^ (39 - j)) ∧ (if s = -1 ∨ t = -1 then jZ 0 else mJ M 160 (24 * s + t).toNat / jZ 2) = jZ (k * 2 ^ (51 - j)) ∧ 0 ≤ k * 2 ^ (39 - j) ∧ k * 2 ^ (39 - j) ≤ 549755813888 := by
      by_cases z : s = -1 ∨ t = -1
      · refine ⟨0, ?_, ?_, by rw [Int.zero_mul]; decide, by rw [Int.zero_mul]; decide⟩
        · unfold kon; rw [if_pos z, Int.zero_mul]; decide
        · rw [if_pos z, Int.zero_mul]
      · have s0 : 0 ≤ s ∧ s < j := hs.resolve_left (fun q => z (Or.inl q))
        have t0 : 0 ≤ t ∧ t < j := ht.resolve_left (fun q => z (Or.inr q))
        obtain ⟨b, rfl⟩ : ∃ b : Nat, t = b := ⟨t.toNat, by omega⟩
        obtain ⟨k, k1, k2, k3, k4⟩ := KN_one (j := b) hK hn (Or.inr s0) (by omega)
        refine ⟨k, ?_, ?_, k3, k4⟩
        · rw [k1, jZ_div (by omega) (by omega) (by decide) (by decide), Int.mul_tdiv_cancel_left _ (by decide)]
        · rw [if_neg z, ← k2]
          unfold mhalf
          rw [if_neg (by omega)]
    obtain ⟨k, k1, k2, k3, k4⟩ := hd
    refine ⟨2 ^ j + k, ?_, ?_, ?_, ?_⟩
    · unfold kadd
      rw [if_pos ⟨rfl, rfl⟩, k1, jZ_add, ← p39, Int.add_mul, Int.mul_comm]
    · unfold madd
      refine (if_pos rfl).trans ?_
      rw [k2, jZ_add, ← p51, Int.add_mul, Int.mul_comm (2 ^ (51 - j))]
    · rw [Int.add_mul, Int.mul_comm (2 ^ j), p39]; omega
    · rw [Int.add_mul, Int.mul_comm (2 ^ j), p39]; omega
  · unfold kadd
    rw [if_neg (by omega)]
    have hm : madd M s t n (24 * i + j) = mloop M s t n n (24 * i + j) := if_neg (by omega)
    rw [hm]
    unfold kloop mloop
    by_cases c2 : i = n
    · subst c2
      obtain ⟨k, k1, k2, k3, k4⟩ := hh j (by omega)
      rw [if_pos ⟨rfl, by omega⟩, if_pos (by omega), show 24 * i + j - 24 * i = j from by omega, show max i j = i from by omega]
      exact ⟨k, k1, k2, k3, k4⟩
    · by_cases c3 : j = n
      · subst c3
        obtain ⟨k, k1, k2, k3, k4⟩ := hh i (by omega)
        rw [if_neg (by omega), if_pos (by omega), if_neg (by omega), if_pos (by omega), show 67 + i - 67 = i from by omega, show (24 * i + j) / 24 = i from by omega, show max i j = j from by omega]
        exact ⟨k, k1, k2, k3, k4⟩
      · rw [if_neg (by omega), if_neg (by omega), if_neg (by omega), if_neg (by omega)]
        exact hK i j (by omega) (by omega)
theorem KN_0 : KN M 0 := fun i j hi _ => absurd hi (by omega)
theorem jZ_natB (n : Nat) (h : n < 9223372036854775808) : (jZ n).toBitVec = BitVec.ofNat 64 n := by
  apply BitVec.eq_of_toInt_eq
  have h1 : (jZ n).toInt = n := toJ (by omega) (by omega)
  show (jZ n).toInt = _
  rw [h1, BitVec.toInt_ofNat', Int.bmod_eq_of_le (by omega) (by omega)]
theorem sh12N {x : Nat} (h2 : x ≤ 1099511627776) : sh12 (jZ ((4096 * x : Nat) : Int)) = jZ (x : Int) := by
  apply Int64.toBitVec_inj.mp
  unfold sh12
  rw [Int64.toBitVec_shiftRight, jZ_natB _ (by omega), jZ_natB _ (by omega)]
  have e : ((jZ 12 &&& 63).toBitVec.smod 64).toNat = 12 := by decide +kernel
  rw [BitVec.sshiftRight', e]
  rw [BitVec.sshiftRight_eq_of_msb_false (by rw [BitVec.msb_eq_false_iff_two_mul_lt, BitVec.toNat_ofNat]; omega)]
  apply BitVec.eq_of_toNat_eq
  rw [BitVec.toNat_ushiftRight, Nat.shiftRight_eq_div_pow, BitVec.toNat_ofNat, BitVec.toNat_ofNat, Nat.mod_eq_of_lt (by omega), Nat.mod_eq_of_lt (by omega)]
  show 4096 * x / 4096 = x
  omega
/-- what the reference tells is what the class tells -/
theorem KN_tell (hK : KN M n) (hn : n ≤ 24) (hi : i < n) (hj : j < n) : sh12 (mJ M 160 (24 * i + j)) = mJ M (67 + i) j := by
  obtain ⟨k, k1, k2, k3, k4⟩ := hK i j hi hj
  rw [k1, k2]
  have e : (2 : Int) ^ (51 - max i j) = 4096 * 2 ^ (39 - max i j) := by
    have : 51 - max i j = 12 + (39 - max i j) := by omega
    rw [this, Int.pow_add]; rfl
  obtain ⟨x, hx⟩ : ∃ x : Nat, k * 2 ^ (39 - max i j) = x := ⟨(k * 2 ^ (39 - max i j)).toNat, by omega⟩
  have e2 : k * 2 ^ (51 - max i j) = ((4096 * x : Nat) : Int) := by
    rw [e, Int.natCast_mul, ← hx]
    show _ = 4096 * _
    grind
  rw [e2, hx]
  exact sh12N (by omega)
end

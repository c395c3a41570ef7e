/-! floorDiv; LUCK, the class's side. -/
section
variable {G : GE} {d : Nat} {M M' : Mem} {s : Sn} {kb ra ca : Nat → Nat} {u w i : Nat} {k D U W K : Int}
theorem jneg {z : Int64} : ((lg_cmp z (jZ 0)).toInt < 0) = (z.toInt < 0) := by
  obtain ⟨a, a1, a2, rfl⟩ := i64 z
  rw [cmp_ a1 a2 (by decide) (by decide), toJ a1 a2]
  apply propext
  by_cases h : 0 < a
  · rw [if_pos h]
    constructor
    · intro z; exact absurd z (by decide)
    · intro z; omega
  · rw [if_neg h]
    by_cases e : a = 0
    · rw [if_pos e]
      constructor
      · intro z; exact absurd z (by decide)
      · intro z; omega
    · rw [if_neg e]
      constructor
      · intro _; omega
      · intro _; decide
theorem jxor {x y : Int} (x1 : -9223372036854775808 ≤ x) (x2 : x < 9223372036854775808) (y1 : 0 < y) (y2 : y < 9223372036854775808) : ((jZ x ^^^ jZ y).toInt < 0) = (x < 0) := by
  have e : ∀ z : Int64, (z.toInt < 0) ↔ z.toBitVec.msb = true := fun z => by
    rw [BitVec.msb_eq_toInt]
    show _ ↔ decide (z.toInt < 0) = true
    rw [decide_eq_true_iff]
  apply propext
  rw [e, Int64.toBitVec_xor, BitVec.msb_xor]
  have hx := e (jZ x)
  have hy := e (jZ y)
  rw [toJ x1 x2] at hx
  rw [toJ (by omega) y2] at hy
  have hy' : (jZ y).toBitVec.msb = false := by
    cases h : (jZ y).toBitVec.msb with
    | false => rfl
    | true => exact absurd (hy.mpr h) (by omega)
  rw [hy', Bool.xor_false, hx]
theorem jd15 (hst : (gl G).stackTraces = false) {x y : Int} (x1 : -9223372036854775808 ≤ x) (x2 : x < 9223372036854775808) (y1 : 0 < y) (y2 : y < 9223372036854775808) : Ev G (d + 1) 15 [aL (jZ x), aL (jZ y)] M 0 (vJ (jZ (x / y)) M) nX := by
  refine Ev_wp 2000 hst (by decide) (Nat.le_of_ble_eq_true rfl) ?_; simp (disch := omega) only [en15, wcQ, wcX, wcG, wcL, wcS, w15_0, w15_1, w15_2, w15_3, w15_5, w15_6, w15_7, w15_8, w15_9, w15_10, w15_13, w15_15, w15_16, w15_17, w15_18, w15_19, w15_22, w15_24, w15_25, w15_26, w15_27, w15_29, toI, toJ, toI64, inb_T, inb_iZ, Int.toNat_natCast, cl_0, cl_1, cl_2, cl_3, cl_4, cl_5, cl_6, cl_7, cl_8, cl_9, cl_10, cl_11, cl_12, cl_13, cl_14, cl_15, cl_16, cl_17, cl_18, cl_19, cl_20, cl_21, cl_22, cl_23, cl_24, cl_25, cl_26, cl_27, cl_28, cl_29, cl_30, cl_31, cl_32, cl_36, cl_40, cl_48, cl_60, cl_108, cl_120, cl_200, cl_201, cl_576, cl_600, cl_864, cl_900, cl_960, cl_5400, cl_8040, j2_0, iN_iZ, iN_lit0, iZ_add, iZ_sub, iZ_mul, iZ_neg, jZ_add, jZ_sub, jZ_mul, jZ_neg, isB0, isB1, isBZ, eq0, eq1, bZ0, vI_, vJ_, vA_, rI_, rJ_, rA_, rV_, nX_, tX_, true_and, and_true, false_and, and_false, and_self, implies_true, forall_const, not_true_eq_false, not_false_eq_true, false_implies, true_implies, ↓reduceIte, Nat.reduceEqDiff, Int.reduceToNat, Int.reduceAdd, Int.reduceSub, Int.reduceLT, Int.reduceLE, Int.reduceEq, Int.add_zero, Int.neg_zero, Int.add_sub_cancel, Int.reduceNeg, Nat.reduceLeDiff, Nat.reduceSub, true_or, or_true, false_or, or_false, setI_d, setJ_d, setP_d, mI_row, mJ_row, mP_row, mI_row_ne, mJ_row_ne, mP_row_ne, rowI_rowI, rowJ_rowJ, rowI_sort, rowJ_sort, rowJ_rowI, rowP_rowI, rowP_rowJ, fu_app, fu_fu, mI_rowJ, mI_rowP, mJ_rowI, mJ_rowP, mP_rowI, mP_rowJ, mK_rowI, mN_rowI, mK_rowJ, mN_rowJ, mK_rowP, mN_rowP, oB_rowI, oB_rowJ, iA_rowI, iA_rowJ, iR_rowI, iR_rowJ, St_rowI, St_rowJ]
  have hy0 : ¬ jZ y = 0 := fun h => by
    have := congrArg Int64.toInt h
    rw [toJ (by omega) y2] at this
    have z : (0 : Int64).toInt = 0 := rfl
    omega
  have hq : jZ x / jZ y = jZ (x.tdiv y) := (Int64.ofInt_tdiv (show (-9223372036854775808 : Int) ≤ x from x1) (show x ≤ (9223372036854775807 : Int) by omega) (show (-9223372036854775808 : Int) ≤ y by omega) (show y ≤ (9223372036854775807 : Int) by omega)).symm
  have ht := @Int.tdiv_eq_ediv x y
  have hs : y.sign = 1 := Int.sign_eq_one_of_pos y1
  rw [hs] at ht
  refine ⟨hy0, ?_⟩
  rw [hq, jneg, jxor x1 x2 y1 y2, jZ_mul, jZ_sub]
  have hd := Int.mul_ediv_add_emod x y
  have m1 := Int.emod_nonneg x (show y ≠ 0 by omega)
  have m2 := Int.emod_lt_of_pos x y1
  refine ⟨fun hx => ?_, fun hx => ?_⟩
  · have hneg : x / y < 0 := Int.ediv_neg_of_neg_of_pos hx y1
    by_cases hdv : y ∣ x
    · rw [if_pos (Or.inr hdv), Int.add_zero] at ht
      rw [ht]
      have e0 : x / y * y = x := Int.ediv_mul_cancel hdv
      rw [e0, cmp0 x1 x2 x1 x2]
      exact ⟨fun _ => rfl, fun h => absurd rfl h⟩
    · rw [if_neg (by intro z; rcases z with z | z; · omega
                     · exact hdv z)] at ht
      rw [ht]
      have hm : x % y ≠ 0 := fun z => hdv (Int.dvd_of_emod_eq_zero z)
      have e0 : (x / y + 1) * y = x - x % y + y := by
        have : y * (x / y) = x / y * y := Int.mul_comm _ _
        rw [Int.add_mul, Int.one_mul]; omega
      have e1 : (x / y + 1) * y ≤ 0 := Int.mul_nonpos_of_nonpos_of_nonneg (by omega) (by omega)
      rw [e0] at e1
      rw [e0, cmp0 (by omega) (by omega) x1 x2]
      exact ⟨fun h => absurd h (by omega), fun _ => by congr 1; omega⟩
  · rw [if_pos (Or.inl (by omega)), Int.add_zero] at ht
    rw [ht]
end

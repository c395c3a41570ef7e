/-! feed. -/
section
variable {G : GE} {d : Nat} {M : Mem}
theorem iZ_div {x y : Int} (h1 : -2147483648 < x) (h2 : x < 2147483648) (h3 : -2147483648 ≤ y) (h4 : y < 2147483648) : iZ x / iZ y = iZ (x.tdiv y) := by
  apply Int32.toInt_inj.mp
  have hb : -2147483648 < x.tdiv y ∧ x.tdiv y < 2147483648 := by
    have h := Int.natAbs_tdiv_le_natAbs x y
    omega
  rw [Int32.toInt_div, toI (by omega) h2, toI h3 h4, toI (by omega) hb.2]
  exact Int.bmod_eq_of_le (by omega) (by omega)
/-- n places of a row from f on -/
def apN (n : Nat) (f : Nat → Int32) (a : Nat) (g : Nat → Int) : Nat → Int32 := fun j => if a ≤ j ∧ j < a + n then iZ (g (j - a)) else f j
theorem apN_0 {f : Nat → Int32} {a : Nat} {g : Nat → Int} : apN 0 f a g = f := by funext j; unfold apN; rw [if_neg (by omega)]
theorem apN_s {n : Nat} {f : Nat → Int32} {a : Nat} {g : Nat → Int} : fu (apN n f a g) (a + n) (iZ (g n)) = apN (n + 1) f a g := by
  funext j
  unfold fu apN
  by_cases h : j = a + n
  · rw [if_pos h, if_pos (by omega), show j - a = n by omega]
  · rw [if_neg h]
    by_cases h2 : a ≤ j ∧ j < a + n
    · rw [if_pos h2, if_pos (by omega)]
    · rw [if_neg h2, if_neg (by omega)]
theorem fu_self {α : Type} {f : Nat → α} {k : Nat} {v : α} (h : f k = v) : fu f k v = f := by
  funext j; unfold fu; by_cases e : j = k
  · rw [if_pos e, e, h]
  · rw [if_neg e]
theorem c120 (hst : (gl G).stackTraces = false) (hS : Static M) {w : Int32} {n : Nat} (hn : mI M 91 0 = iZ n) (g2 : n ≤ 596) : Ev G (d + 6) 120 [aR (some 91), aI w] M 0 (rV fun M' => M' = rowI (rowI (rowI M 91 (fu (mI M 91) 0 (iZ ((n + 4 : Nat) : Int)))) 92 (apN 4 (mI M 92) n (fun j => tb w j))) 93 (apN 4 (mI M 93) n (fun j => kd (tb w j)))) nX := by
  refine Ev_wp 2000 hst (by decide) (Nat.le_of_ble_eq_true rfl) ?_; simp (disch := omega) only [en120, wcQ, wcX, wcG, wcL, wcS, w120_0, w120_2, h120_3, w120_3, w120_4, w120_7, w120_8, w120_11, w120_14, w120_17, w120_18, w120_21, w120_22, w120_25, w120_26, w120_27, w120_28, w120_31, w120_32, w120_33, w120_34, w120_37, w120_38, w120_41, w120_42, w120_45, w120_46, w120_49, w120_50, w120_53, w120_54, w120_55, w120_56, w120_59, w120_60, w120_61, w120_64, w120_67, w120_70, toI, toJ, toI64, inb_T, inb_iZ, Int.toNat_natCast, cl_0, cl_1, cl_2, cl_3, cl_4, cl_5, cl_6, cl_7, cl_8, cl_9, cl_10, cl_11, cl_12, cl_13, cl_14, cl_15, cl_16, cl_17, cl_18, cl_19, cl_20, cl_21, cl_22, cl_23, cl_24, cl_25, cl_26, cl_27, cl_28, cl_29, cl_30, cl_31, cl_32, cl_36, cl_40, cl_48, cl_60, cl_108, cl_120, cl_200, cl_201, cl_576, cl_600, cl_864, cl_900, cl_960, cl_5400, cl_8040, j2_0, iN_iZ, iN_lit0, iZ_add, iZ_sub, iZ_mul, iZ_neg, jZ_add, jZ_sub, jZ_mul, jZ_neg, isB0, isB1, isBZ, eq0, eq1, bZ0, vI_, vJ_, vA_, rI_, rJ_, rA_, rV_, nX_, tX_, true_and, and_true, false_and, and_false, and_self, implies_true, forall_const, not_true_eq_false, not_false_eq_true, false_implies, true_implies, ↓reduceIte, Nat.reduceEqDiff, Int.reduceToNat, Int.reduceAdd, Int.reduceSub, Int.reduceLT, Int.reduceLE, Int.reduceEq, Int.add_zero, Int.neg_zero, Int.add_sub_cancel, Int.reduceNeg, Nat.reduceLeDiff, Nat.reduceSub, true_or, or_true, false_or, or_false, setI_d, setJ_d, setP_d, mI_row, mJ_row, mP_row, mI_row_ne, mJ_row_ne, mP_row_ne, rowI_rowI, rowJ_rowJ, rowI_sort, rowJ_sort, rowJ_rowI, rowP_rowI, rowP_rowJ, fu_app, fu_fu, mI_rowJ, mI_rowP, mJ_rowI, mJ_rowP, mP_rowI, mP_rowJ, mK_rowI, mN_rowI, mK_rowJ, mN_rowJ, mK_rowP, mN_rowP, oB_rowI, oB_rowJ, iA_rowI, iA_rowJ, iR_rowI, iR_rowJ, St_rowI, St_rowJ, K91 hS, O91 hS, P91_4 hS, P91_5 hS]
  refine loopN 4 (fun i ls M' => ls = [aR (some 91), aI w, aI (iZ (24 - 8 * (i : Int)))] ∧ M' = rowI (rowI (rowI M 91 (fu (mI M 91) 0 (iZ ((n + i : Nat) : Int)))) 92 (apN i (mI M 92) n (fun j => tb w j))) 93 (apN i (mI M 93) n (fun j => kd (tb w j)))) ⟨rfl, by rw [apN_0, apN_0, Nat.add_zero, fu_self hn, rowI_mI, rowI_mI, rowI_mI]⟩ ?_ ?_
  · intro i hi ls M' ⟨hl, hM⟩ K
    subst hl hM
    have hi' : ¬ (24 - 8 * (i : Int)) < 0 := by omega
    have ht := tb_lt w i
    refine wp1_go (n := 2000) ?_
    simp (disch := omega) only [wcQ, wcX, wcG, wcL, wcS, w120_0, w120_2, h120_3, w120_3, w120_4, w120_7, w120_8, w120_11, w120_14, w120_17, w120_18, w120_21, w120_22, w120_25, w120_26, w120_27, w120_28, w120_31, w120_32, w120_33, w120_34, w120_37, w120_38, w120_41, w120_42, w120_45, w120_46, w120_49, w120_50, w120_53, w120_54, w120_55, w120_56, w120_59, w120_60, w120_61, w120_64, w120_67, w120_70, toI, toJ, toI64, inb_T, inb_iZ, Int.toNat_natCast, cl_0, cl_1, cl_2, cl_3, cl_4, cl_5, cl_6, cl_7, cl_8, cl_9, cl_10, cl_11, cl_12, cl_13, cl_14, cl_15, cl_16, cl_17, cl_18, cl_19, cl_20, cl_21, cl_22, cl_23, cl_24, cl_25, cl_26, cl_27, cl_28, cl_29, cl_30, cl_31, cl_32, cl_36, cl_40, cl_48, cl_60, cl_108, cl_120, cl_200, cl_201, cl_576, cl_600, cl_864, cl_900, cl_960, cl_5400, cl_8040, j2_0, iN_iZ, iN_lit0, iZ_add, iZ_sub, iZ_mul, iZ_neg, jZ_add, jZ_sub, jZ_mul, jZ_neg, isB0, isB1, isBZ, eq0, eq1, bZ0, vI_, vJ_, vA_, rI_, rJ_, rA_, rV_, nX_, tX_, true_and, and_true, false_and, and_false, and_self, implies_true, forall_const, not_true_eq_false, not_false_eq_true, false_implies, true_implies, ↓reduceIte, Nat.reduceEqDiff, Int.reduceToNat, Int.reduceAdd, Int.reduceSub, Int.reduceLT, Int.reduceLE, Int.reduceEq, Int.add_zero, Int.neg_zero, Int.add_sub_cancel, Int.reduceNeg, Nat.reduceLeDiff, Nat.reduceSub, true_or, or_true, false_or, or_false, setI_d, setJ_d, setP_d, mI_row, mJ_row, mP_row, mI_row_ne, mJ_row_ne, mP_row_ne, rowI_rowI, rowJ_rowJ, rowI_sort, rowJ_sort, rowJ_rowI, rowP_rowI, rowP_rowJ, fu_app, fu_fu, mI_rowJ, mI_rowP, mJ_rowI, mJ_rowP, mP_rowI, mP_rowJ, mK_rowI, mN_rowI, mK_rowJ, mN_rowJ, mK_rowP, mN_rowP, oB_rowI, oB_rowJ, iA_rowI, iA_rowJ, iR_rowI, iR_rowJ, St_rowI, St_rowJ, K91 hS, O91 hS, P91_4 hS, P91_5 hS, K92 hS, O92 hS, A92 hS, K93 hS, O93 hS, A93 hS, hi', tb_c w hi, Int.natCast_nonneg]
    trace_state
    sorry
  · intro ls M' ⟨hl, hM⟩
    subst hl hM
    refine wp1_go (n := 2000) ?_
    simp (disch := omega) only [wcQ, wcX, wcG, wcL, wcS, w120_0, w120_2, h120_3, w120_3, w120_4, w120_7, w120_8, w120_11, w120_14, w120_17, w120_18, w120_21, w120_22, w120_25, w120_26, w120_27, w120_28, w120_31, w120_32, w120_33, w120_34, w120_37, w120_38, w120_41, w120_42, w120_45, w120_46, w120_49, w120_50, w120_53, w120_54, w120_55, w120_56, w120_59, w120_60, w120_61, w120_64, w120_67, w120_70, toI, toJ, toI64, inb_T, inb_iZ, Int.toNat_natCast, cl_0, cl_1, cl_2, cl_3, cl_4, cl_5, cl_6, cl_7, cl_8, cl_9, cl_10, cl_11, cl_12, cl_13, cl_14, cl_15, cl_16, cl_17, cl_18, cl_19, cl_20, cl_21, cl_22, cl_23, cl_24, cl_25, cl_26, cl_27, cl_28, cl_29, cl_30, cl_31, cl_32, cl_36, cl_40, cl_48, cl_60, cl_108, cl_120, cl_200, cl_201, cl_576, cl_600, cl_864, cl_900, cl_960, cl_5400, cl_8040, j2_0, iN_iZ, iN_lit0, iZ_add, iZ_sub, iZ_mul, iZ_neg, jZ_add, jZ_sub, jZ_mul, jZ_neg, isB0, isB1, isBZ, eq0, eq1, bZ0, vI_, vJ_, vA_, rI_, rJ_, rA_, rV_, nX_, tX_, true_and, and_true, false_and, and_false, and_self, implies_true, forall_const, not_true_eq_false, not_false_eq_true, false_implies, true_implies, ↓reduceIte, Nat.reduceEqDiff, Int.reduceToNat, Int.reduceAdd, Int.reduceSub, Int.reduceLT, Int.reduceLE, Int.reduceEq, Int.add_zero, Int.neg_zero, Int.add_sub_cancel, Int.reduceNeg, Nat.reduceLeDiff, Nat.reduceSub, true_or, or_true, false_or, or_false, setI_d, setJ_d, setP_d, mI_row, mJ_row, mP_row, mI_row_ne, mJ_row_ne, mP_row_ne, rowI_rowI, rowJ_rowJ, rowI_sort, rowJ_sort, rowJ_rowI, rowP_rowI, rowP_rowJ, fu_app, fu_fu, mI_rowJ, mI_rowP, mJ_rowI, mJ_rowP, mP_rowI, mP_rowJ, mK_rowI, mN_rowI, mK_rowJ, mN_rowJ, mK_rowP, mN_rowP, oB_rowI, oB_rowJ, iA_rowI, iA_rowJ, iR_rowI, iR_rowJ, St_rowI, St_rowJ, K91 hS, O91 hS, P91_4 hS, P91_5 hS, Int.reduceMul]
end

/-! RULES: the other clauses; the class's side. -/
section
variable {G : GE} {d : Nat} {M M' M'' : Mem} {B : Nat → Nat} {n b k s : Nat} {q : Bk}
theorem c157_1 (hst : (gl G).stackTraces = false) (hS : Static M) (hT : TC M B n b) (hB : BK M k n) (hC : BC M k s q) (hs : s < b) (h10 : (bO q).length < bC q) {Q : QR} {x : AV} {m : Nat}
    (hQ : ∀ v M', QB M B n k (pExS B n b (fun l => (bP q, bF q, bO q ++ [l], q.2.2.2))) v M' → Q (some (aI v)) M') :
    wp (WCo G (d + 51) 157 Q nX) 157 (m + 500) 130 [aR (some k), aR (some 91), x] [] M 0 := by
  have n6 := hT.1.1
  obtain ⟨k1, k2, _⟩ := id hB
  have hcc := hC.2.2.2.2.2.2.1
  have hsz : mI M (k + 7) 2 = iZ s := hC.2.2.2.2.2.2.2
  have hf0 : mI M k 3 = iZ (bO q).length := hC.2.2.1.1
  have FC1 := bk_F hB hsz
  have e2 := c151 (G := G) (d := d) (b := b) hst hS hT FC1 (by omega)
  simp (disch := omega) only [wcQ, wcX, wcG, wcL, wcS, w157_130, w157_131, w157_132, w157_135, w157_136, toI, toJ, toI64, inb_T, inb_iZ, Int.toNat_natCast, cl_0, cl_1, cl_2, cl_3, cl_4, cl_5, cl_6, cl_7, cl_8, cl_9, cl_10, cl_11, cl_12, cl_13, cl_14, cl_15, cl_16, cl_17, cl_18, cl_19, cl_20, cl_21, cl_22, cl_23, cl_24, cl_25, cl_26, cl_27, cl_28, cl_29, cl_30, cl_31, cl_32, cl_36, cl_40, cl_48, cl_60, cl_108, cl_120, cl_200, cl_201, cl_576, cl_600, cl_864, cl_900, cl_960, cl_5400, cl_8040, j2_0, iN_iZ, iN_lit0, iZ_add, iZ_sub, iZ_mul, iZ_neg, jZ_add, jZ_sub, jZ_mul, jZ_neg, isB0, isB1, isBZ, eq0, eq1, bZ0, vI_, vJ_, vA_, rI_, rJ_, rA_, rV_, nX_, tX_, true_and, and_true, false_and, and_false, and_self, implies_true, forall_const, not_true_eq_false, not_false_eq_true, false_implies, true_implies, ↓reduceIte, Nat.reduceEqDiff, Int.reduceToNat, Int.reduceAdd, Int.reduceSub, Int.reduceLT, Int.reduceLE, Int.reduceEq, Int.add_zero, Int.neg_zero, Int.add_sub_cancel, Int.reduceNeg, Nat.reduceLeDiff, Nat.reduceSub, true_or, or_true, false_or, or_false, setI_d, setJ_d, setP_d, mI_row, mJ_row, mP_row, mI_row_ne, mJ_row_ne, mP_row_ne, rowI_rowI, rowJ_rowJ, rowI_sort, rowJ_sort, rowJ_rowI, rowP_rowI, rowP_rowJ, fu_app, fu_fu, mI_rowJ, mI_rowP, mJ_rowI, mJ_rowP, mP_rowI, mP_rowJ, mK_rowI, mN_rowI, mK_rowJ, mN_rowJ, mK_rowP, mN_rowP, oB_rowI, oB_rowJ, iA_rowI, iA_rowJ, iR_rowI, iR_rowJ, St_rowI, St_rowJ, bk_o hB, bk_p9 hB, bk_o7 hB, O91 hS]
  refine kI e2 (Nat.le_refl _) (fun v M2 hq => ?_) (fun e M' h => False.elim h)
  match hp : pEx B n 6 b with
  | .inl (e, p) =>
    rw [hp] at hq
    obtain ⟨rfl, s', w', rfl⟩ := hq
    have F2 : Fm M (feM M B n (k + 7) (k + 10) e p s' w') k := Fm_fe k1
    have B2 := Fm_BK F2 hB
    have e3 := c153 (G := G) (d := d + 50) (m := (bO q).length) (x := -1) hst B2 (by rw [fe_I (by omega) (by omega) (by omega)]; exact hf0) (by omega) (by decide) (by decide)
    simp (disch := omega) only [wcQ, wcX, wcG, wcL, wcS, w157_139, toI, toJ, toI64, inb_T, inb_iZ, Int.toNat_natCast, cl_0, cl_1, cl_2, cl_3, cl_4, cl_5, cl_6, cl_7, cl_8, cl_9, cl_10, cl_11, cl_12, cl_13, cl_14, cl_15, cl_16, cl_17, cl_18, cl_19, cl_20, cl_21, cl_22, cl_23, cl_24, cl_25, cl_26, cl_27, cl_28, cl_29, cl_30, cl_31, cl_32, cl_36, cl_40, cl_48, cl_60, cl_108, cl_120, cl_200, cl_201, cl_576, cl_600, cl_864, cl_900, cl_960, cl_5400, cl_8040, j2_0, iN_iZ, iN_lit0, iZ_add, iZ_sub, iZ_mul, iZ_neg, jZ_add, jZ_sub, jZ_mul, jZ_neg, isB0, isB1, isBZ, eq0, eq1, bZ0, vI_, vJ_, vA_, rI_, rJ_, rA_, rV_, nX_, tX_, true_and, and_true, false_and, and_false, and_self, implies_true, forall_const, not_true_eq_false, not_false_eq_true, false_implies, true_implies, ↓reduceIte, Nat.reduceEqDiff, Int.reduceToNat, Int.reduceAdd, Int.reduceSub, Int.reduceLT, Int.reduceLE, Int.reduceEq, Int.add_zero, Int.neg_zero, Int.add_sub_cancel, Int.reduceNeg, Nat.reduceLeDiff, Nat.reduceSub, true_or, or_true, false_or, or_false, setI_d, setJ_d, setP_d, mI_row, mJ_row, mP_row, mI_row_ne, mJ_row_ne, mP_row_ne, rowI_rowI, rowJ_rowJ, rowI_sort, rowJ_sort, rowJ_rowI, rowP_rowI, rowP_rowJ, fu_app, fu_fu, mI_rowJ, mI_rowP, mJ_rowI, mJ_rowP, mP_rowI, mP_rowJ, mK_rowI, mN_rowI, mK_rowJ, mN_rowJ, mK_rowP, mN_rowP, oB_rowI, oB_rowJ, iA_rowI, iA_rowJ, iR_rowI, iR_rowJ, St_rowI, St_rowJ, bk_o B2]
    refine kI e3 (Nat.le_refl _) (fun v M3 hq => ?_) (fun e M' h => False.elim h)
    obtain ⟨rfl, rfl⟩ := hq
    have hne : ((-1 : Int) ≠ -1) = False := eq_false (fun z => z rfl)
    simp (disch := omega) only [wcQ, wcX, wcG, wcL, wcS, w157_142, w157_158, w157_159, toI, toJ, toI64, inb_T, inb_iZ, Int.toNat_natCast, cl_0, cl_1, cl_2, cl_3, cl_4, cl_5, cl_6, cl_7, cl_8, cl_9, cl_10, cl_11, cl_12, cl_13, cl_14, cl_15, cl_16, cl_17, cl_18, cl_19, cl_20, cl_21, cl_22, cl_23, cl_24, cl_25, cl_26, cl_27, cl_28, cl_29, cl_30, cl_31, cl_32, cl_36, cl_40, cl_48, cl_60, cl_108, cl_120, cl_200, cl_201, cl_576, cl_600, cl_864, cl_900, cl_960, cl_5400, cl_8040, j2_0, iN_iZ, iN_lit0, iZ_add, iZ_sub, iZ_mul, iZ_neg, jZ_add, jZ_sub, jZ_mul, jZ_neg, isB0, isB1, isBZ, eq0, eq1, bZ0, vI_, vJ_, vA_, rI_, rJ_, rA_, rV_, nX_, tX_, true_and, and_true, false_and, and_false, and_self, implies_true, forall_const, not_true_eq_false, not_false_eq_true, false_implies, true_implies, ↓reduceIte, Nat.reduceEqDiff, Int.reduceToNat, Int.reduceAdd, Int.reduceSub, Int.reduceLT, Int.reduceLE, Int.reduceEq, Int.add_zero, Int.neg_zero, Int.add_sub_cancel, Int.reduceNeg, Nat.reduceLeDiff, Nat.reduceSub, true_or, or_true, false_or, or_false, setI_d, setJ_d, setP_d, mI_row, mJ_row, mP_row, mI_row_ne, mJ_row_ne, mP_row_ne, rowI_rowI, rowJ_rowJ, rowI_sort, rowJ_sort, rowJ_rowI, rowP_rowI, rowP_rowJ, fu_app, fu_fu, mI_rowJ, mI_rowP, mJ_rowI, mJ_rowP, mP_rowI, mP_rowJ, mK_rowI, mN_rowI, mK_rowJ, mN_rowJ, mK_rowP, mN_rowP, oB_rowI, oB_rowJ, iA_rowI, iA_rowJ, iR_rowI, iR_rowJ, St_rowI, St_rowJ, hne]
    apply hQ
    unfold pExS
    rw [hp, QB_i rfl]
    refine ⟨Fm_tr F2 (Fm_tr (Fm_I (by omega) (by omega) k1) (Fm_I (by omega) (by omega) k1)), rfl, ?_, ?_⟩
    · rw [mI_row_ne (by omega), mI_row_ne (by omega)]; exact fe_2 k1
    · rw [mI_row_ne (by omega), mI_row_ne (by omega)]; exact fe_3 k1
  | .inr (c, l) =>
    rw [hp] at hq
    obtain ⟨rfl, rfl⟩ := hq
    have lp := (LE_ex (B := B) (n := n) 6).1 _ _ _ hT.2.1 hp
    have F2 : Fm M (fsM M B n (k + 7) (k + 10) c (s + l.length + 1) (apL (mI M (k + 10)) s (l ++ [-1]))) k := Fm_fs k1
    have T2 : TC (fsM M B n (k + 7) (k + 10) c (s + l.length + 1) (apL (mI M (k + 10)) s (l ++ [-1]))) B n c := TC_fs hT lp.2.1 (by omega) (by omega)
    have I2 : ∀ x, x ≠ 91 → x ≠ k + 7 → x ≠ k + 10 → mI (fsM M B n (k + 7) (k + 10) c (s + l.length + 1) (apL (mI M (k + 10)) s (l ++ [-1]))) x = mI M x := fun x => fs_I
    have I7 : mI (fsM M B n (k + 7) (k + 10) c (s + l.length + 1) (apL (mI M (k + 10)) s (l ++ [-1]))) (k + 7) 2 = iZ ((s + l.length + 1 : Nat) : Int) := by rw [fs_f (by omega)]; exact if_pos rfl
    have I10 : mI (fsM M B n (k + 7) (k + 10) c (s + l.length + 1) (apL (mI M (k + 10)) s (l ++ [-1]))) (k + 10) = apL (mI M (k + 10)) s (l ++ [-1]) := by rw [mI_fs]
    have J2 : mJ (fsM M B n (k + 7) (k + 10) c (s + l.length + 1) (apL (mI M (k + 10)) s (l ++ [-1]))) = mJ M := rfl
    generalize hM2 : fsM M B n (k + 7) (k + 10) c (s + l.length + 1) (apL (mI M (k + 10)) s (l ++ [-1])) = M2 at *
    have B2 := Fm_BK F2 hB
    have S2 := Fm_Static F2 hS
    have e3 := c153 (G := G) (d := d + 50) (m := (bO q).length) (x := (s : Int)) hst B2 (by rw [I2 k (by omega) (by omega) (by omega)]; exact hf0) (by omega) (by omega) (by omega)
    have F3 : Fm M2 (rowI (rowI M2 k (fu (mI M2 k) 3 (iZ (((bO q).length + 1 : Nat) : Int)))) (k + 3) (fu (mI M2 (k + 3)) (bO q).length (iZ s))) k := Fm_tr (Fm_I (by omega) (by omega) k1) (Fm_I (by omega) (by omega) k1)
    have T3 : TC (rowI (rowI M2 k (fu (mI M2 k) 3 (iZ (((bO q).length + 1 : Nat) : Int)))) (k + 3) (fu (mI M2 (k + 3)) (bO q).length (iZ s))) B n c := TC_row (by omega) (by omega) (by omega) (TC_row (by omega) (by omega) (by omega) T2)
    have C3 : BC (rowI (rowI M2 k (fu (mI M2 k) 3 (iZ (((bO q).length + 1 : Nat) : Int)))) (k + 3) (fu (mI M2 (k + 3)) (bO q).length (iZ s))) k (s + l.length + 1) (bP q, bF q, bO q ++ [l], q.2.2.2) := by
      refine BC_addO hC h10 ?_ ?_ ?_ ?_ ?_ ?_ ?_ ?_ ?_
      · rw [mI_row_ne (by omega), mI_row, I2 k (by omega) (by omega) (by omega)]
      · rw [mI_row, I2 (k + 3) (by omega) (by omega) (by omega)]
      · rw [mJ_rowI, mJ_rowI, J2]
      · rw [mJ_rowI, mJ_rowI, J2]
      · rw [mI_row_ne (by omega), mI_row_ne (by omega), I2 (k + 1) (by omega) (by omega) (by omega)]
      · rw [mI_row_ne (by omega), mI_row_ne (by omega), I2 (k + 2) (by omega) (by omega) (by omega)]
      · rw [mI_row_ne (by omega), mI_row_ne (by omega), I2 (k + 4) (by omega) (by omega) (by omega)]
      · rw [mI_row_ne (by omega), mI_row_ne (by omega)]; exact I7
      · rw [mI_row_ne (by omega), mI_row_ne (by omega)]; exact I10
    have hne : ((s : Int) ≠ -1) = True := eq_true (by omega)
    have F4 := Fm_tr F2 F3
    have S4 := Fm_Static F4 hS
    have e4 := c139 (G := G) (d := d + 49) (c := 59) hst S4 (by decide) T3
    have nb4 := nxT_b (B := B) (n := n) (b := c)
    simp (disch := omega) only [wcQ, wcX, wcG, wcL, wcS, w157_139, toI, toJ, toI64, inb_T, inb_iZ, Int.toNat_natCast, cl_0, cl_1, cl_2, cl_3, cl_4, cl_5, cl_6, cl_7, cl_8, cl_9, cl_10, cl_11, cl_12, cl_13, cl_14, cl_15, cl_16, cl_17, cl_18, cl_19, cl_20, cl_21, cl_22, cl_23, cl_24, cl_25, cl_26, cl_27, cl_28, cl_29, cl_30, cl_31, cl_32, cl_36, cl_40, cl_48, cl_60, cl_108, cl_120, cl_200, cl_201, cl_576, cl_600, cl_864, cl_900, cl_960, cl_5400, cl_8040, j2_0, iN_iZ, iN_lit0, iZ_add, iZ_sub, iZ_mul, iZ_neg, jZ_add, jZ_sub, jZ_mul, jZ_neg, isB0, isB1, isBZ, eq0, eq1, bZ0, vI_, vJ_, vA_, rI_, rJ_, rA_, rV_, nX_, tX_, true_and, and_true, false_and, and_false, and_self, implies_true, forall_const, not_true_eq_false, not_false_eq_true, false_implies, true_implies, ↓reduceIte, Nat.reduceEqDiff, Int.reduceToNat, Int.reduceAdd, Int.reduceSub, Int.reduceLT, Int.reduceLE, Int.reduceEq, Int.add_zero, Int.neg_zero, Int.add_sub_cancel, Int.reduceNeg, Nat.reduceLeDiff, Nat.reduceSub, true_or, or_true, false_or, or_false, setI_d, setJ_d, setP_d, mI_row, mJ_row, mP_row, mI_row_ne, mJ_row_ne, mP_row_ne, rowI_rowI, rowJ_rowJ, rowI_sort, rowJ_sort, rowJ_rowI, rowP_rowI, rowP_rowJ, fu_app, fu_fu, mI_rowJ, mI_rowP, mJ_rowI, mJ_rowP, mP_rowI, mP_rowJ, mK_rowI, mN_rowI, mK_rowJ, mN_rowJ, mK_rowP, mN_rowP, oB_rowI, oB_rowJ, iA_rowI, iA_rowJ, iR_rowI, iR_rowJ, St_rowI, St_rowJ, bk_o B2]
    refine kI e3 (Nat.le_refl _) (fun v M3 hq => ?_) (fun e M' h => False.elim h)
    obtain ⟨rfl, rfl⟩ := hq
    simp (disch := omega) only [wcQ, wcX, wcG, wcL, wcS, w157_142, w157_145, w157_146, w157_148, toI, toJ, toI64, inb_T, inb_iZ, Int.toNat_natCast, cl_0, cl_1, cl_2, cl_3, cl_4, cl_5, cl_6, cl_7, cl_8, cl_9, cl_10, cl_11, cl_12, cl_13, cl_14, cl_15, cl_16, cl_17, cl_18, cl_19, cl_20, cl_21, cl_22, cl_23, cl_24, cl_25, cl_26, cl_27, cl_28, cl_29, cl_30, cl_31, cl_32, cl_36, cl_40, cl_48, cl_60, cl_108, cl_120, cl_200, cl_201, cl_576, cl_600, cl_864, cl_900, cl_960, cl_5400, cl_8040, j2_0, iN_iZ, iN_lit0, iZ_add, iZ_sub, iZ_mul, iZ_neg, jZ_add, jZ_sub, jZ_mul, jZ_neg, isB0, isB1, isBZ, eq0, eq1, bZ0, vI_, vJ_, vA_, rI_, rJ_, rA_, rV_, nX_, tX_, true_and, and_true, false_and, and_false, and_self, implies_true, forall_const, not_true_eq_false, not_false_eq_true, false_implies, true_implies, ↓reduceIte, Nat.reduceEqDiff, Int.reduceToNat, Int.reduceAdd, Int.reduceSub, Int.reduceLT, Int.reduceLE, Int.reduceEq, Int.add_zero, Int.neg_zero, Int.add_sub_cancel, Int.reduceNeg, Nat.reduceLeDiff, Nat.reduceSub, true_or, or_true, false_or, or_false, setI_d, setJ_d, setP_d, mI_row, mJ_row, mP_row, mI_row_ne, mJ_row_ne, mP_row_ne, rowI_rowI, rowJ_rowJ, rowI_sort, rowJ_sort, rowJ_rowI, rowP_rowI, rowP_rowJ, fu_app, fu_fu, mI_rowJ, mI_rowP, mJ_rowI, mJ_rowP, mP_rowI, mP_rowJ, mK_rowI, mN_rowI, mK_rowJ, mN_rowJ, mK_rowP, mN_rowP, oB_rowI, oB_rowJ, iA_rowI, iA_rowJ, iR_rowI, iR_rowJ, St_rowI, St_rowJ, hne, O91 S4]
    refine kI e4 (Nat.le_refl _) (fun v Mx hq => ?_) (fun e M' h => False.elim h)
    rcases hq with ⟨hs5, rfl, rfl⟩ | ⟨hs5, rfl, rfl⟩
    · simp (disch := omega) only [wcQ, wcX, wcG, wcL, wcS, w157_151, w157_154, w157_155, w157_158, w157_159, toI, toJ, toI64, inb_T, inb_iZ, Int.toNat_natCast, cl_0, cl_1, cl_2, cl_3, cl_4, cl_5, cl_6, cl_7, cl_8, cl_9, cl_10, cl_11, cl_12, cl_13, cl_14, cl_15, cl_16, cl_17, cl_18, cl_19, cl_20, cl_21, cl_22, cl_23, cl_24, cl_25, cl_26, cl_27, cl_28, cl_29, cl_30, cl_31, cl_32, cl_36, cl_40, cl_48, cl_60, cl_108, cl_120, cl_200, cl_201, cl_576, cl_600, cl_864, cl_900, cl_960, cl_5400, cl_8040, j2_0, iN_iZ, iN_lit0, iZ_add, iZ_sub, iZ_mul, iZ_neg, jZ_add, jZ_sub, jZ_mul, jZ_neg, isB0, isB1, isBZ, eq0, eq1, bZ0, vI_, vJ_, vA_, rI_, rJ_, rA_, rV_, nX_, tX_, true_and, and_true, false_and, and_false, and_self, implies_true, forall_const, not_true_eq_false, not_false_eq_true, false_implies, true_implies, ↓reduceIte, Nat.reduceEqDiff, Int.reduceToNat, Int.reduceAdd, Int.reduceSub, Int.reduceLT, Int.reduceLE, Int.reduceEq, Int.add_zero, Int.neg_zero, Int.add_sub_cancel, Int.reduceNeg, Nat.reduceLeDiff, Nat.reduceSub, true_or, or_true, false_or, or_false, setI_d, setJ_d, setP_d, mI_row, mJ_row, mP_row, mI_row_ne, mJ_row_ne, mP_row_ne, rowI_rowI, rowJ_rowJ, rowI_sort, rowJ_sort, rowJ_rowI, rowP_rowI, rowP_rowJ, fu_app, fu_fu, mI_rowJ, mI_rowP, mJ_rowI, mJ_rowP, mP_rowI, mP_rowJ, mK_rowI, mN_rowI, mK_rowJ, mN_rowJ, mK_rowP, mN_rowP, oB_rowI, oB_rowJ, iA_rowI, iA_rowJ, iR_rowI, iR_rowJ, St_rowI, St_rowJ]
      apply hQ
      have hpe : pExS B n b (fun l => (bP q, bF q, bO q ++ [l], q.2.2.2)) = .inr (nxT B n c, (bP q, bF q, bO q ++ [l], q.2.2.2)) := by unfold pExS; rw [hp]; unfold pSg; exact if_pos hs5
      rw [QB_r hpe]
      exact ⟨Fm_tr F4 Fm_st, rfl, TC_st T3.1 (nb4.2.1 lp.2.1), _, by omega, BC_91 k1 C3⟩
    · simp (disch := omega) only [wcQ, wcX, wcG, wcL, wcS, w157_151, w157_154, w157_155, w157_158, w157_159, toI, toJ, toI64, inb_T, inb_iZ, Int.toNat_natCast, cl_0, cl_1, cl_2, cl_3, cl_4, cl_5, cl_6, cl_7, cl_8, cl_9, cl_10, cl_11, cl_12, cl_13, cl_14, cl_15, cl_16, cl_17, cl_18, cl_19, cl_20, cl_21, cl_22, cl_23, cl_24, cl_25, cl_26, cl_27, cl_28, cl_29, cl_30, cl_31, cl_32, cl_36, cl_40, cl_48, cl_60, cl_108, cl_120, cl_200, cl_201, cl_576, cl_600, cl_864, cl_900, cl_960, cl_5400, cl_8040, j2_0, iN_iZ, iN_lit0, iZ_add, iZ_sub, iZ_mul, iZ_neg, jZ_add, jZ_sub, jZ_mul, jZ_neg, isB0, isB1, isBZ, eq0, eq1, bZ0, vI_, vJ_, vA_, rI_, rJ_, rA_, rV_, nX_, tX_, true_and, and_true, false_and, and_false, and_self, implies_true, forall_const, not_true_eq_false, not_false_eq_true, false_implies, true_implies, ↓reduceIte, Nat.reduceEqDiff, Int.reduceToNat, Int.reduceAdd, Int.reduceSub, Int.reduceLT, Int.reduceLE, Int.reduceEq, Int.add_zero, Int.neg_zero, Int.add_sub_cancel, Int.reduceNeg, Nat.reduceLeDiff, Nat.reduceSub, true_or, or_true, false_or, or_false, setI_d, setJ_d, setP_d, mI_row, mJ_row, mP_row, mI_row_ne, mJ_row_ne, mP_row_ne, rowI_rowI, rowJ_rowJ, rowI_sort, rowJ_sort, rowJ_rowI, rowP_rowI, rowP_rowJ, fu_app, fu_fu, mI_rowJ, mI_rowP, mJ_rowI, mJ_rowP, mP_rowI, mP_rowJ, mK_rowI, mN_rowI, mK_rowJ, mN_rowJ, mK_rowP, mN_rowP, oB_rowI, oB_rowJ, iA_rowI, iA_rowJ, iR_rowI, iR_rowJ, St_rowI, St_rowJ]
      apply hQ
      have hpe : pExS B n b (fun l => (bP q, bF q, bO q ++ [l], q.2.2.2)) = .inl (1, c) := by unfold pExS; rw [hp]; unfold pSg; exact if_neg hs5
      rw [QB_i hpe]
      exact ⟨Fm_tr F4 Fm_rf, rfl, rf_2, rf_3⟩
theorem pTie_lt {P : List (Int × Int)} {T T' : List Int} {b c : Nat} (hb : b ≤ n) (h : pTie B n P T b = .inr (c, T')) : b ≤ c ∧ c ≤ n := by
  have nb := nxT_b (B := B) (n := n) (b := b)
  unfold pTie at h
  simp only at h
  repeat' split at h
  all_goals first
    | (cases h; done)
    | (cases h; omega)
theorem pTieR_lt {P : List (Int × Int)} : ∀ (f b : Nat) (T : List Int) (c : Nat) (T' : List Int), b ≤ n → pTieR B n P f b T = .inr (c, T') → b ≤ c ∧ c ≤ n
  | 0, b, T, c, T', hb, h => by simp [pTieR] at h; omega
  | f + 1, b, T, c, T', hb, h => by
    have nb := nxT_b (B := B) (n := n) (b := b)
    unfold pTieR at h
    split at h
    · split at h
      · cases h
      · next c1 T1 h1 =>
        have := pTie_lt (nb.2.1 hb) h1
        have := pTieR_lt f c1 T1 c T' this.2 h
        omega
    · cases h; omega
theorem pTies_lt {P : List (Int × Int)} {T' : List Int} {b c : Nat} (hb : b ≤ n) (h : pTies B n P b = .inr (c, T')) : b ≤ c ∧ c ≤ n := by
  unfold pTies at h
  split at h
  · cases h
  · next c1 T1 h1 =>
    have := pTie_lt hb h1
    have := pTieR_lt 8 c1 T1 c T' this.2 h
    omega
theorem c157_2 (hst : (gl G).stackTraces = false) (hS : Static M) (hT : TC M B n b) (hB : BK M k n) (hC : BC M k s q) (hs : s ≤ b) {Q : QR} {x : AV} {m : Nat}
    (hQ : ∀ v M', QB M B n k (match pTies B n (bP q) b with
    | .inl e => .inl e
    | .inr (c, T) => pSg B n 59 c (bkT q T)) v M' → Q (some (aI v)) M') :
    wp (WCo G (d + 51) 157 Q nX) 157 (m + 500) 160 [aR (some k), aR (some 91), x] [] M 0 := by
  have n6 := hT.1.1
  obtain ⟨k1, k2, _⟩ := id hB
  have e1 := c156 (G := G) (d := d + 42) hst hS hT hB hC
  simp (disch := omega) only [wcQ, wcX, wcG, wcL, wcS, w157_160, w157_161, w157_162, toI, toJ, toI64, inb_T, inb_iZ, Int.toNat_natCast, cl_0, cl_1, cl_2, cl_3, cl_4, cl_5, cl_6, cl_7, cl_8, cl_9, cl_10, cl_11, cl_12, cl_13, cl_14, cl_15, cl_16, cl_17, cl_18, cl_19, cl_20, cl_21, cl_22, cl_23, cl_24, cl_25, cl_26, cl_27, cl_28, cl_29, cl_30, cl_31, cl_32, cl_36, cl_40, cl_48, cl_60, cl_108, cl_120, cl_200, cl_201, cl_576, cl_600, cl_864, cl_900, cl_960, cl_5400, cl_8040, j2_0, iN_iZ, iN_lit0, iZ_add, iZ_sub, iZ_mul, iZ_neg, jZ_add, jZ_sub, jZ_mul, jZ_neg, isB0, isB1, isBZ, eq0, eq1, bZ0, vI_, vJ_, vA_, rI_, rJ_, rA_, rV_, nX_, tX_, true_and, and_true, false_and, and_false, and_self, implies_true, forall_const, not_true_eq_false, not_false_eq_true, false_implies, true_implies, ↓reduceIte, Nat.reduceEqDiff, Int.reduceToNat, Int.reduceAdd, Int.reduceSub, Int.reduceLT, Int.reduceLE, Int.reduceEq, Int.add_zero, Int.neg_zero, Int.add_sub_cancel, Int.reduceNeg, Nat.reduceLeDiff, Nat.reduceSub, true_or, or_true, false_or, or_false, setI_d, setJ_d, setP_d, mI_row, mJ_row, mP_row, mI_row_ne, mJ_row_ne, mP_row_ne, rowI_rowI, rowJ_rowJ, rowI_sort, rowJ_sort, rowJ_rowI, rowP_rowI, rowP_rowJ, fu_app, fu_fu, mI_rowJ, mI_rowP, mJ_rowI, mJ_rowP, mP_rowI, mP_rowJ, mK_rowI, mN_rowI, mK_rowJ, mN_rowJ, mK_rowP, mN_rowP, oB_rowI, oB_rowJ, iA_rowI, iA_rowJ, iR_rowI, iR_rowJ, St_rowI, St_rowJ, bk_o hB, O91 hS]
  refine kI e1 (Nat.le_refl _) (fun v M2 hq => ?_) (fun e M' h => False.elim h)
  match hp : pTies B n (bP q) b with
  | .inl (e, p) =>
    rw [QT_i hp] at hq
    obtain ⟨F2, rfl, g2, g3⟩ := hq
    rw [hp] at hQ
    simp (disch := omega) only [wcQ, wcX, wcG, wcL, wcS, w157_165, w157_181, w157_182, toI, toJ, toI64, inb_T, inb_iZ, Int.toNat_natCast, cl_0, cl_1, cl_2, cl_3, cl_4, cl_5, cl_6, cl_7, cl_8, cl_9, cl_10, cl_11, cl_12, cl_13, cl_14, cl_15, cl_16, cl_17, cl_18, cl_19, cl_20, cl_21, cl_22, cl_23, cl_24, cl_25, cl_26, cl_27, cl_28, cl_29, cl_30, cl_31, cl_32, cl_36, cl_40, cl_48, cl_60, cl_108, cl_120, cl_200, cl_201, cl_576, cl_600, cl_864, cl_900, cl_960, cl_5400, cl_8040, j2_0, iN_iZ, iN_lit0, iZ_add, iZ_sub, iZ_mul, iZ_neg, jZ_add, jZ_sub, jZ_mul, jZ_neg, isB0, isB1, isBZ, eq0, eq1, bZ0, vI_, vJ_, vA_, rI_, rJ_, rA_, rV_, nX_, tX_, true_and, and_true, false_and, and_false, and_self, implies_true, forall_const, not_true_eq_false, not_false_eq_true, false_implies, true_implies, ↓reduceIte, Nat.reduceEqDiff, Int.reduceToNat, Int.reduceAdd, Int.reduceSub, Int.reduceLT, Int.reduceLE, Int.reduceEq, Int.add_zero, Int.neg_zero, Int.add_sub_cancel, Int.reduceNeg, Nat.reduceLeDiff, Nat.reduceSub, true_or, or_true, false_or, or_false, setI_d, setJ_d, setP_d, mI_row, mJ_row, mP_row, mI_row_ne, mJ_row_ne, mP_row_ne, rowI_rowI, rowJ_rowJ, rowI_sort, rowJ_sort, rowJ_rowI, rowP_rowI, rowP_rowJ, fu_app, fu_fu, mI_rowJ, mI_rowP, mJ_rowI, mJ_rowP, mP_rowI, mP_rowJ, mK_rowI, mN_rowI, mK_rowJ, mN_rowJ, mK_rowP, mN_rowP, oB_rowI, oB_rowJ, iA_rowI, iA_rowJ, iR_rowI, iR_rowJ, St_rowI, St_rowJ]
    apply hQ
    rw [QB_i rfl]
    exact ⟨F2, rfl, g2, g3⟩
  | .inr (c, T) =>
    rw [QT_r hp] at hq
    obtain ⟨F2, rfl, T2, C2⟩ := hq
    rw [hp] at hQ
    have lp := pTies_lt hT.2.1 hp
    have S2 := Fm_Static F2 hS
    have e4 := c139 (G := G) (d := d + 49) (c := 59) hst S2 (by decide) T2
    have nb4 := nxT_b (B := B) (n := n) (b := c)
    simp (disch := omega) only [wcQ, wcX, wcG, wcL, wcS, w157_165, w157_168, w157_169, w157_171, toI, toJ, toI64, inb_T, inb_iZ, Int.toNat_natCast, cl_0, cl_1, cl_2, cl_3, cl_4, cl_5, cl_6, cl_7, cl_8, cl_9, cl_10, cl_11, cl_12, cl_13, cl_14, cl_15, cl_16, cl_17, cl_18, cl_19, cl_20, cl_21, cl_22, cl_23, cl_24, cl_25, cl_26, cl_27, cl_28, cl_29, cl_30, cl_31, cl_32, cl_36, cl_40, cl_48, cl_60, cl_108, cl_120, cl_200, cl_201, cl_576, cl_600, cl_864, cl_900, cl_960, cl_5400, cl_8040, j2_0, iN_iZ, iN_lit0, iZ_add, iZ_sub, iZ_mul, iZ_neg, jZ_add, jZ_sub, jZ_mul, jZ_neg, isB0, isB1, isBZ, eq0, eq1, bZ0, vI_, vJ_, vA_, rI_, rJ_, rA_, rV_, nX_, tX_, true_and, and_true, false_and, and_false, and_self, implies_true, forall_const, not_true_eq_false, not_false_eq_true, false_implies, true_implies, ↓reduceIte, Nat.reduceEqDiff, Int.reduceToNat, Int.reduceAdd, Int.reduceSub, Int.reduceLT, Int.reduceLE, Int.reduceEq, Int.add_zero, Int.neg_zero, Int.add_sub_cancel, Int.reduceNeg, Nat.reduceLeDiff, Nat.reduceSub, true_or, or_true, false_or, or_false, setI_d, setJ_d, setP_d, mI_row, mJ_row, mP_row, mI_row_ne, mJ_row_ne, mP_row_ne, rowI_rowI, rowJ_rowJ, rowI_sort, rowJ_sort, rowJ_rowI, rowP_rowI, rowP_rowJ, fu_app, fu_fu, mI_rowJ, mI_rowP, mJ_rowI, mJ_rowP, mP_rowI, mP_rowJ, mK_rowI, mN_rowI, mK_rowJ, mN_rowJ, mK_rowP, mN_rowP, oB_rowI, oB_rowJ, iA_rowI, iA_rowJ, iR_rowI, iR_rowJ, St_rowI, St_rowJ, O91 S2]
    refine kI e4 (Nat.le_refl _) (fun v Mx hq => ?_) (fun e M' h => False.elim h)
    rcases hq with ⟨hs5, rfl, rfl⟩ | ⟨hs5, rfl, rfl⟩
    · simp (disch := omega) only [wcQ, wcX, wcG, wcL, wcS, w157_174, w157_177, w157_178, w157_181, w157_182, toI, toJ, toI64, inb_T, inb_iZ, Int.toNat_natCast, cl_0, cl_1, cl_2, cl_3, cl_4, cl_5, cl_6, cl_7, cl_8, cl_9, cl_10, cl_11, cl_12, cl_13, cl_14, cl_15, cl_16, cl_17, cl_18, cl_19, cl_20, cl_21, cl_22, cl_23, cl_24, cl_25, cl_26, cl_27, cl_28, cl_29, cl_30, cl_31, cl_32, cl_36, cl_40, cl_48, cl_60, cl_108, cl_120, cl_200, cl_201, cl_576, cl_600, cl_864, cl_900, cl_960, cl_5400, cl_8040, j2_0, iN_iZ, iN_lit0, iZ_add, iZ_sub, iZ_mul, iZ_neg, jZ_add, jZ_sub, jZ_mul, jZ_neg, isB0, isB1, isBZ, eq0, eq1, bZ0, vI_, vJ_, vA_, rI_, rJ_, rA_, rV_, nX_, tX_, true_and, and_true, false_and, and_false, and_self, implies_true, forall_const, not_true_eq_false, not_false_eq_true, false_implies, true_implies, ↓reduceIte, Nat.reduceEqDiff, Int.reduceToNat, Int.reduceAdd, Int.reduceSub, Int.reduceLT, Int.reduceLE, Int.reduceEq, Int.add_zero, Int.neg_zero, Int.add_sub_cancel, Int.reduceNeg, Nat.reduceLeDiff, Nat.reduceSub, true_or, or_true, false_or, or_false, setI_d, setJ_d, setP_d, mI_row, mJ_row, mP_row, mI_row_ne, mJ_row_ne, mP_row_ne, rowI_rowI, rowJ_rowJ, rowI_sort, rowJ_sort, rowJ_rowI, rowP_rowI, rowP_rowJ, fu_app, fu_fu, mI_rowJ, mI_rowP, mJ_rowI, mJ_rowP, mP_rowI, mP_rowJ, mK_rowI, mN_rowI, mK_rowJ, mN_rowJ, mK_rowP, mN_rowP, oB_rowI, oB_rowJ, iA_rowI, iA_rowJ, iR_rowI, iR_rowJ, St_rowI, St_rowJ]
      apply hQ
      have hpe : pSg B n 59 c (bkT q T) = .inr (nxT B n c, bkT q T) := by unfold pSg; exact if_pos hs5
      rw [QB_r hpe]
      exact ⟨Fm_tr F2 Fm_st, rfl, TC_st T2.1 (nb4.2.1 lp.2), s, by omega, BC_91 k1 C2⟩
    · simp (disch := omega) only [wcQ, wcX, wcG, wcL, wcS, w157_174, w157_177, w157_178, w157_181, w157_182, toI, toJ, toI64, inb_T, inb_iZ, Int.toNat_natCast, cl_0, cl_1, cl_2, cl_3, cl_4, cl_5, cl_6, cl_7, cl_8, cl_9, cl_10, cl_11, cl_12, cl_13, cl_14, cl_15, cl_16, cl_17, cl_18, cl_19, cl_20, cl_21, cl_22, cl_23, cl_24, cl_25, cl_26, cl_27, cl_28, cl_29, cl_30, cl_31, cl_32, cl_36, cl_40, cl_48, cl_60, cl_108, cl_120, cl_200, cl_201, cl_576, cl_600, cl_864, cl_900, cl_960, cl_5400, cl_8040, j2_0, iN_iZ, iN_lit0, iZ_add, iZ_sub, iZ_mul, iZ_neg, jZ_add, jZ_sub, jZ_mul, jZ_neg, isB0, isB1, isBZ, eq0, eq1, bZ0, vI_, vJ_, vA_, rI_, rJ_, rA_, rV_, nX_, tX_, true_and, and_true, false_and, and_false, and_self, implies_true, forall_const, not_true_eq_false, not_false_eq_true, false_implies, true_implies, ↓reduceIte, Nat.reduceEqDiff, Int.reduceToNat, Int.reduceAdd, Int.reduceSub, Int.reduceLT, Int.reduceLE, Int.reduceEq, Int.add_zero, Int.neg_zero, Int.add_sub_cancel, Int.reduceNeg, Nat.reduceLeDiff, Nat.reduceSub, true_or, or_true, false_or, or_false, setI_d, setJ_d, setP_d, mI_row, mJ_row, mP_row, mI_row_ne, mJ_row_ne, mP_row_ne, rowI_rowI, rowJ_rowJ, rowI_sort, rowJ_sort, rowJ_rowI, rowP_rowI, rowP_rowJ, fu_app, fu_fu, mI_rowJ, mI_rowP, mJ_rowI, mJ_rowP, mP_rowI, mP_rowJ, mK_rowI, mN_rowI, mK_rowJ, mN_rowJ, mK_rowP, mN_rowP, oB_rowI, oB_rowJ, iA_rowI, iA_rowJ, iR_rowI, iR_rowJ, St_rowI, St_rowJ]
      apply hQ
      have hpe : pSg B n 59 c (bkT q T) = .inl (1, c) := by unfold pSg; exact if_neg hs5
      rw [QB_i hpe]
      exact ⟨Fm_tr F2 Fm_rf, rfl, rf_2, rf_3⟩
end

/-! protest: the class's call. -/
section
variable {G : GE} {d : Nat} {M M' M'' : Mem} {s : Sn} {kb ra ca : Nat → Nat} {u i j n : Nat} {D z k : Int}
/-- one protest more -/
def addP (s : Sn) (u : Nat) : Sn := (s.1, s.2.1, s.2.2.1, s.2.2.2.1, (nPt s + 1, fu (ePt s) (nPt s) (u, -1, 0, 0)))
def ptM (M : Mem) (u n : Nat) : Mem := rowI (rowI (rowI M 97 (fu (mI M 97) 7 (iZ ((n : Int) + 1)))) 102 (fu (mI M 102) n (iZ u))) 103 (fu (mI M 103) n (iZ (-1)))
theorem c196 (hst : (gl G).stackTraces = false) (hS : Static M) (hO : Sok s) (hC : CSn M s kb ra ca) (hu : u < nRn s) (k1 : -2147483648 ≤ k) (k2 : k < 2147483648) : Ev G (d + 2) 196 [aR (some 97), aI (iZ u), aI (iZ k)] M 0 (rI fun v M' => if nPt s < 40 ∧ kaI s u k ≠ -1 then v = iZ (nPt s) ∧ M' = ptM M u (nPt s) else v = iZ (-1) ∧ M' = M) nX := by
  have hp := hC.2.2.2.2.1
  have p40 := hO.2.2.2.2.1
  have u120 := hO.2.2.1.1
  have e0 := c186 (G := G) (d := d) (M := M) (u := u) (k := k) hst hS hO hC hu k1 k2
  have key : ∀ Q : QR, (∀ v M', (if nPt s < 40 ∧ kaI s u k ≠ -1 then v = iZ (nPt s) ∧ M' = ptM M u (nPt s) else v = iZ (-1) ∧ M' = M) → Q (some (aI v)) M') → Ev G (d + 2) 196 [aR (some 97), aI (iZ u), aI (iZ k)] M 0 Q nX := by
    intro Q hQ
    by_cases w : nPt s < 40
    · have w' : (nPt s : Int) < 40 := by omega
      refine Ev_wp 2000 hst (by decide) (Nat.le_of_ble_eq_true rfl) ?_; simp (disch := omega) only [en196, wcQ, wcX, wcG, wcL, wcS, w196_0, w196_1, w196_4, w196_6, w196_9, w196_10, w196_11, w196_12, toI, toJ, toI64, inb_T, inb_iZ, Int.toNat_natCast, cl_0, cl_1, cl_2, cl_3, cl_4, cl_5, cl_6, cl_7, cl_8, cl_9, cl_10, cl_11, cl_12, cl_13, cl_14, cl_15, cl_16, cl_17, cl_18, cl_19, cl_20, cl_21, cl_22, cl_23, cl_24, cl_25, cl_26, cl_27, cl_28, cl_29, cl_30, cl_31, cl_32, cl_36, cl_40, cl_48, cl_60, cl_108, cl_120, cl_200, cl_201, cl_576, cl_600, cl_864, cl_900, cl_960, cl_5400, cl_8040, j2_0, iN_iZ, iN_lit0, iZ_add, iZ_sub, iZ_mul, iZ_neg, jZ_add, jZ_sub, jZ_mul, jZ_neg, isB0, isB1, isBZ, eq0, eq1, bZ0, vI_, vJ_, vA_, rI_, rJ_, rA_, rV_, nX_, tX_, true_and, and_true, false_and, and_false, and_self, implies_true, forall_const, not_true_eq_false, not_false_eq_true, false_implies, true_implies, ↓reduceIte, Nat.reduceEqDiff, Int.reduceToNat, Int.reduceAdd, Int.reduceSub, Int.reduceLT, Int.reduceLE, Int.reduceEq, Int.add_zero, Int.neg_zero, Int.add_sub_cancel, Int.reduceNeg, Nat.reduceLeDiff, Nat.reduceSub, true_or, or_true, false_or, or_false, setI_d, setJ_d, setP_d, mI_row, mJ_row, mP_row, mI_row_ne, mJ_row_ne, mP_row_ne, rowI_rowI, rowJ_rowJ, rowI_sort, rowJ_sort, rowJ_rowI, rowP_rowI, rowP_rowJ, fu_app, fu_fu, mI_rowJ, mI_rowP, mJ_rowI, mJ_rowP, mP_rowI, mP_rowJ, mK_rowI, mN_rowI, mK_rowJ, mN_rowJ, mK_rowP, mN_rowP, oB_rowI, oB_rowJ, iA_rowI, iA_rowJ, iR_rowI, iR_rowJ, St_rowI, St_rowJ, K97 hS, O97 hS, P97_1 hS, P97_2 hS, P97_3 hS, P97_5 hS, P97_8 hS, P97_9 hS, P97_10 hS, P97_11 hS, hp, w']
      refine kA e0 (Nat.zero_le _) (fun v M' hq => ?_) (fun e M' h => False.elim h)
      obtain ⟨hv, hM⟩ := hq
      have hM := hM.symm
      subst hM
      subst hv
      by_cases x : kaI s u k = -1
      · have hq := hQ (iZ (-1)) M (by rw [if_neg (fun z => z.2 x)]; exact ⟨rfl, rfl⟩)
        rw [oA_n x]
        simp (disch := omega) only [wcQ, wcX, wcG, wcL, wcS, w196_15, w196_18, w196_19, toI, toJ, toI64, inb_T, inb_iZ, Int.toNat_natCast, cl_0, cl_1, cl_2, cl_3, cl_4, cl_5, cl_6, cl_7, cl_8, cl_9, cl_10, cl_11, cl_12, cl_13, cl_14, cl_15, cl_16, cl_17, cl_18, cl_19, cl_20, cl_21, cl_22, cl_23, cl_24, cl_25, cl_26, cl_27, cl_28, cl_29, cl_30, cl_31, cl_32, cl_36, cl_40, cl_48, cl_60, cl_108, cl_120, cl_200, cl_201, cl_576, cl_600, cl_864, cl_900, cl_960, cl_5400, cl_8040, j2_0, iN_iZ, iN_lit0, iZ_add, iZ_sub, iZ_mul, iZ_neg, jZ_add, jZ_sub, jZ_mul, jZ_neg, isB0, isB1, isBZ, eq0, eq1, bZ0, vI_, vJ_, vA_, rI_, rJ_, rA_, rV_, nX_, tX_, true_and, and_true, false_and, and_false, and_self, implies_true, forall_const, not_true_eq_false, not_false_eq_true, false_implies, true_implies, ↓reduceIte, Nat.reduceEqDiff, Int.reduceToNat, Int.reduceAdd, Int.reduceSub, Int.reduceLT, Int.reduceLE, Int.reduceEq, Int.add_zero, Int.neg_zero, Int.add_sub_cancel, Int.reduceNeg, Nat.reduceLeDiff, Nat.reduceSub, true_or, or_true, false_or, or_false, setI_d, setJ_d, setP_d, mI_row, mJ_row, mP_row, mI_row_ne, mJ_row_ne, mP_row_ne, rowI_rowI, rowJ_rowJ, rowI_sort, rowJ_sort, rowJ_rowI, rowP_rowI, rowP_rowJ, fu_app, fu_fu, mI_rowJ, mI_rowP, mJ_rowI, mJ_rowP, mP_rowI, mP_rowJ, mK_rowI, mN_rowI, mK_rowJ, mN_rowJ, mK_rowP, mN_rowP, oB_rowI, oB_rowJ, iA_rowI, iA_rowJ, iR_rowI, iR_rowJ, St_rowI, St_rowJ]
        exact ⟨fun a h => (by cases h), hq⟩
      · have hq := hQ (iZ (nPt s)) (ptM M u (nPt s)) (by rw [if_pos ⟨w, x⟩]; exact ⟨rfl, rfl⟩)
        rw [oA_s x]
        simp (disch := omega) only [wcQ, wcX, wcG, wcL, wcS, w196_15, w196_20, w196_21, w196_24, w196_25, w196_28, w196_29, w196_30, w196_31, w196_34, w196_35, w196_38, w196_39, w196_40, w196_41, w196_42, w196_45, w196_46, w196_47, w196_50, w196_51, w196_54, w196_55, w196_56, toI, toJ, toI64, inb_T, inb_iZ, Int.toNat_natCast, cl_0, cl_1, cl_2, cl_3, cl_4, cl_5, cl_6, cl_7, cl_8, cl_9, cl_10, cl_11, cl_12, cl_13, cl_14, cl_15, cl_16, cl_17, cl_18, cl_19, cl_20, cl_21, cl_22, cl_23, cl_24, cl_25, cl_26, cl_27, cl_28, cl_29, cl_30, cl_31, cl_32, cl_36, cl_40, cl_48, cl_60, cl_108, cl_120, cl_200, cl_201, cl_576, cl_600, cl_864, cl_900, cl_960, cl_5400, cl_8040, j2_0, iN_iZ, iN_lit0, iZ_add, iZ_sub, iZ_mul, iZ_neg, jZ_add, jZ_sub, jZ_mul, jZ_neg, isB0, isB1, isBZ, eq0, eq1, bZ0, vI_, vJ_, vA_, rI_, rJ_, rA_, rV_, nX_, tX_, true_and, and_true, false_and, and_false, and_self, implies_true, forall_const, not_true_eq_false, not_false_eq_true, false_implies, true_implies, ↓reduceIte, Nat.reduceEqDiff, Int.reduceToNat, Int.reduceAdd, Int.reduceSub, Int.reduceLT, Int.reduceLE, Int.reduceEq, Int.add_zero, Int.neg_zero, Int.add_sub_cancel, Int.reduceNeg, Nat.reduceLeDiff, Nat.reduceSub, true_or, or_true, false_or, or_false, setI_d, setJ_d, setP_d, mI_row, mJ_row, mP_row, mI_row_ne, mJ_row_ne, mP_row_ne, rowI_rowI, rowJ_rowJ, rowI_sort, rowJ_sort, rowJ_rowI, rowP_rowI, rowP_rowJ, fu_app, fu_fu, mI_rowJ, mI_rowP, mJ_rowI, mJ_rowP, mP_rowI, mP_rowJ, mK_rowI, mN_rowI, mK_rowJ, mN_rowJ, mK_rowP, mN_rowP, oB_rowI, oB_rowJ, iA_rowI, iA_rowJ, iR_rowI, iR_rowJ, St_rowI, St_rowJ, K97 hS, O97 hS, P97_1 hS, P97_2 hS, P97_3 hS, P97_5 hS, P97_8 hS, P97_9 hS, P97_10 hS, P97_11 hS, K102 hS, O102 hS, A102 hS, K103 hS, O103 hS, A103 hS, hp]
        refine ⟨fun _ _ => ?_, fun h => (by cases h)⟩
        have ei : ((nPt s : Int) + 1 - 1) = nPt s := by omega
        exact hq
    · have w' : ¬ (nPt s : Int) < 40 := by omega
      have hq := hQ (iZ (-1)) M (by rw [if_neg (fun z => w z.1)]; exact ⟨rfl, rfl⟩)
      refine Ev_wp 2000 hst (by decide) (Nat.le_of_ble_eq_true rfl) ?_; simp (disch := omega) only [en196, wcQ, wcX, wcG, wcL, wcS, w196_0, w196_1, w196_4, w196_6, w196_18, w196_19, toI, toJ, toI64, inb_T, inb_iZ, Int.toNat_natCast, cl_0, cl_1, cl_2, cl_3, cl_4, cl_5, cl_6, cl_7, cl_8, cl_9, cl_10, cl_11, cl_12, cl_13, cl_14, cl_15, cl_16, cl_17, cl_18, cl_19, cl_20, cl_21, cl_22, cl_23, cl_24, cl_25, cl_26, cl_27, cl_28, cl_29, cl_30, cl_31, cl_32, cl_36, cl_40, cl_48, cl_60, cl_108, cl_120, cl_200, cl_201, cl_576, cl_600, cl_864, cl_900, cl_960, cl_5400, cl_8040, j2_0, iN_iZ, iN_lit0, iZ_add, iZ_sub, iZ_mul, iZ_neg, jZ_add, jZ_sub, jZ_mul, jZ_neg, isB0, isB1, isBZ, eq0, eq1, bZ0, vI_, vJ_, vA_, rI_, rJ_, rA_, rV_, nX_, tX_, true_and, and_true, false_and, and_false, and_self, implies_true, forall_const, not_true_eq_false, not_false_eq_true, false_implies, true_implies, ↓reduceIte, Nat.reduceEqDiff, Int.reduceToNat, Int.reduceAdd, Int.reduceSub, Int.reduceLT, Int.reduceLE, Int.reduceEq, Int.add_zero, Int.neg_zero, Int.add_sub_cancel, Int.reduceNeg, Nat.reduceLeDiff, Nat.reduceSub, true_or, or_true, false_or, or_false, setI_d, setJ_d, setP_d, mI_row, mJ_row, mP_row, mI_row_ne, mJ_row_ne, mP_row_ne, rowI_rowI, rowJ_rowJ, rowI_sort, rowJ_sort, rowJ_rowI, rowP_rowI, rowP_rowJ, fu_app, fu_fu, mI_rowJ, mI_rowP, mJ_rowI, mJ_rowP, mP_rowI, mP_rowJ, mK_rowI, mN_rowI, mK_rowJ, mN_rowJ, mK_rowP, mN_rowP, oB_rowI, oB_rowJ, iA_rowI, iA_rowJ, iR_rowI, iR_rowJ, St_rowI, St_rowJ, K97 hS, O97 hS, P97_1 hS, P97_2 hS, P97_3 hS, P97_5 hS, P97_8 hS, P97_9 hS, P97_10 hS, P97_11 hS, hp, w']
      exact hq
  exact key _ (fun v M' h => ⟨v, rfl, h⟩)
theorem c197 (hst : (gl G).stackTraces = false) (hS : Static M) (hO : Sok s) (hC : CSn M s kb ra ca) (z1 : -2147483648 ≤ z) (z2 : z < 2147483648) (hd : mI M 61 0 = iZ D) (D0 : 0 ≤ D) (D9 : D ≤ 999) : Ev G (d + 3) 197 [aR (some 61), aI (iZ z)] M 6 (rI fun v M' => (0 ≤ z ∧ z < nRn s) ∧ if nPt s < 40 ∧ kaI s z.toNat D ≠ -1 then v = iZ (nPt s) ∧ M' = ptM M z.toNat (nPt s) else v = iZ (-1) ∧ M' = M) (fun e M' => ¬ (0 ≤ z ∧ z < nRn s) ∧ e = 0 ∧ M' = M) := by
  have r120 := hO.2.2.1.1
  have e0 := c167 (G := G) (d := d) (M := M) (z := z) (n := nRn s) hst hS z1 z2 hC.2.2.1.1 (by omega) (by omega)
  refine Ev_wp 2000 hst (by decide) (Nat.le_of_ble_eq_true rfl) ?_; simp (disch := omega) only [en197, wcQ, wcX, wcG, wcL, wcS, w197_0, w197_1, w197_2, toI, toJ, toI64, inb_T, inb_iZ, Int.toNat_natCast, cl_0, cl_1, cl_2, cl_3, cl_4, cl_5, cl_6, cl_7, cl_8, cl_9, cl_10, cl_11, cl_12, cl_13, cl_14, cl_15, cl_16, cl_17, cl_18, cl_19, cl_20, cl_21, cl_22, cl_23, cl_24, cl_25, cl_26, cl_27, cl_28, cl_29, cl_30, cl_31, cl_32, cl_36, cl_40, cl_48, cl_60, cl_108, cl_120, cl_200, cl_201, cl_576, cl_600, cl_864, cl_900, cl_960, cl_5400, cl_8040, j2_0, iN_iZ, iN_lit0, iZ_add, iZ_sub, iZ_mul, iZ_neg, jZ_add, jZ_sub, jZ_mul, jZ_neg, isB0, isB1, isBZ, eq0, eq1, bZ0, vI_, vJ_, vA_, rI_, rJ_, rA_, rV_, nX_, tX_, true_and, and_true, false_and, and_false, and_self, implies_true, forall_const, not_true_eq_false, not_false_eq_true, false_implies, true_implies, ↓reduceIte, Nat.reduceEqDiff, Int.reduceToNat, Int.reduceAdd, Int.reduceSub, Int.reduceLT, Int.reduceLE, Int.reduceEq, Int.add_zero, Int.neg_zero, Int.add_sub_cancel, Int.reduceNeg, Nat.reduceLeDiff, Nat.reduceSub, true_or, or_true, false_or, or_false, setI_d, setJ_d, setP_d, mI_row, mJ_row, mP_row, mI_row_ne, mJ_row_ne, mP_row_ne, rowI_rowI, rowJ_rowJ, rowI_sort, rowJ_sort, rowJ_rowI, rowP_rowI, rowP_rowJ, fu_app, fu_fu, mI_rowJ, mI_rowP, mJ_rowI, mJ_rowP, mP_rowI, mP_rowJ, mK_rowI, mN_rowI, mK_rowJ, mN_rowJ, mK_rowP, mN_rowP, oB_rowI, oB_rowJ, iA_rowI, iA_rowJ, iR_rowI, iR_rowJ, St_rowI, St_rowJ, K61 hS, O61 hS, P61_3 hS, P61_4 hS, P61_5 hS, P61_7 hS, P61_8 hS, P61_9 hS, P61_10 hS, P61_11 hS]
  refine kV e0 (by decide) (fun M' hq => ?_) (fun e M' h => h)
  obtain ⟨hz, hM⟩ := hq
  have hM := hM.symm
  subst hM
  obtain ⟨u, rfl⟩ : ∃ u : Nat, z = u := ⟨z.toNat, by omega⟩
  have e1 := c196 (G := G) (d := d) (M := M) (u := u) (k := D) hst hS hO hC (by omega) (by omega) (by omega)
  simp (disch := omega) only [wcQ, wcX, wcG, wcL, wcS, w197_5, w197_6, w197_9, w197_10, w197_11, w197_14, toI, toJ, toI64, inb_T, inb_iZ, Int.toNat_natCast, cl_0, cl_1, cl_2, cl_3, cl_4, cl_5, cl_6, cl_7, cl_8, cl_9, cl_10, cl_11, cl_12, cl_13, cl_14, cl_15, cl_16, cl_17, cl_18, cl_19, cl_20, cl_21, cl_22, cl_23, cl_24, cl_25, cl_26, cl_27, cl_28, cl_29, cl_30, cl_31, cl_32, cl_36, cl_40, cl_48, cl_60, cl_108, cl_120, cl_200, cl_201, cl_576, cl_600, cl_864, cl_900, cl_960, cl_5400, cl_8040, j2_0, iN_iZ, iN_lit0, iZ_add, iZ_sub, iZ_mul, iZ_neg, jZ_add, jZ_sub, jZ_mul, jZ_neg, isB0, isB1, isBZ, eq0, eq1, bZ0, vI_, vJ_, vA_, rI_, rJ_, rA_, rV_, nX_, tX_, true_and, and_true, false_and, and_false, and_self, implies_true, forall_const, not_true_eq_false, not_false_eq_true, false_implies, true_implies, ↓reduceIte, Nat.reduceEqDiff, Int.reduceToNat, Int.reduceAdd, Int.reduceSub, Int.reduceLT, Int.reduceLE, Int.reduceEq, Int.add_zero, Int.neg_zero, Int.add_sub_cancel, Int.reduceNeg, Nat.reduceLeDiff, Nat.reduceSub, true_or, or_true, false_or, or_false, setI_d, setJ_d, setP_d, mI_row, mJ_row, mP_row, mI_row_ne, mJ_row_ne, mP_row_ne, rowI_rowI, rowJ_rowJ, rowI_sort, rowJ_sort, rowJ_rowI, rowP_rowI, rowP_rowJ, fu_app, fu_fu, mI_rowJ, mI_rowP, mJ_rowI, mJ_rowP, mP_rowI, mP_rowJ, mK_rowI, mN_rowI, mK_rowJ, mN_rowJ, mK_rowP, mN_rowP, oB_rowI, oB_rowJ, iA_rowI, iA_rowJ, iR_rowI, iR_rowJ, St_rowI, St_rowJ, K61 hS, O61 hS, P61_3 hS, P61_4 hS, P61_5 hS, P61_7 hS, P61_8 hS, P61_9 hS, P61_10 hS, P61_11 hS, K97 hS, O97 hS, P97_1 hS, P97_2 hS, P97_3 hS, P97_5 hS, P97_8 hS, P97_9 hS, P97_10 hS, P97_11 hS, hd]
  refine kI e1 (Nat.zero_le _) (fun v M' hq => ?_) (fun e M' h => False.elim h)
  simp (disch := omega) only [wcQ, wcX, wcG, wcL, wcS, w197_17, toI, toJ, toI64, inb_T, inb_iZ, Int.toNat_natCast, cl_0, cl_1, cl_2, cl_3, cl_4, cl_5, cl_6, cl_7, cl_8, cl_9, cl_10, cl_11, cl_12, cl_13, cl_14, cl_15, cl_16, cl_17, cl_18, cl_19, cl_20, cl_21, cl_22, cl_23, cl_24, cl_25, cl_26, cl_27, cl_28, cl_29, cl_30, cl_31, cl_32, cl_36, cl_40, cl_48, cl_60, cl_108, cl_120, cl_200, cl_201, cl_576, cl_600, cl_864, cl_900, cl_960, cl_5400, cl_8040, j2_0, iN_iZ, iN_lit0, iZ_add, iZ_sub, iZ_mul, iZ_neg, jZ_add, jZ_sub, jZ_mul, jZ_neg, isB0, isB1, isBZ, eq0, eq1, bZ0, vI_, vJ_, vA_, rI_, rJ_, rA_, rV_, nX_, tX_, true_and, and_true, false_and, and_false, and_self, implies_true, forall_const, not_true_eq_false, not_false_eq_true, false_implies, true_implies, ↓reduceIte, Nat.reduceEqDiff, Int.reduceToNat, Int.reduceAdd, Int.reduceSub, Int.reduceLT, Int.reduceLE, Int.reduceEq, Int.add_zero, Int.neg_zero, Int.add_sub_cancel, Int.reduceNeg, Nat.reduceLeDiff, Nat.reduceSub, true_or, or_true, false_or, or_false, setI_d, setJ_d, setP_d, mI_row, mJ_row, mP_row, mI_row_ne, mJ_row_ne, mP_row_ne, rowI_rowI, rowJ_rowJ, rowI_sort, rowJ_sort, rowJ_rowI, rowP_rowI, rowP_rowJ, fu_app, fu_fu, mI_rowJ, mI_rowP, mJ_rowI, mJ_rowP, mP_rowI, mP_rowJ, mK_rowI, mN_rowI, mK_rowJ, mN_rowJ, mK_rowP, mN_rowP, oB_rowI, oB_rowJ, iA_rowI, iA_rowJ, iR_rowI, iR_rowJ, St_rowI, St_rowJ]
  exact ⟨hz, hq⟩
theorem addP_lt (hi : i < nPt s) : ePt (addP s u) i = ePt s i := if_neg (by omega)
theorem addP_cA {w : Nat} {kk : Int} {n : Nat} : cA (addP s u) w kk n = cA s w kk n := cA_congr n (fun _ _ => rfl)
theorem CSn_addP (hC : CSn M s kb ra ca) (hM' : M' = ptM M u (nPt s)) : CSn M' (addP s u) kb ra ca := by
  obtain ⟨⟨b1, b2⟩, ⟨t1, t2⟩, ⟨r1, r2⟩, ⟨c1, c2⟩, p1, p2⟩ := hC
  have I : ∀ y, y ≠ 97 → y ≠ 102 → y ≠ 103 → mI M' y = mI M y := fun y h1 h2 h3 => by rw [hM']; unfold ptM; rw [mI_row_ne h3, mI_row_ne h2, mI_row_ne h1]
  have I97 : ∀ j, j ≠ 7 → mI M' 97 j = mI M 97 j := fun j hj => by
    rw [hM']; unfold ptM; rw [mI_row_ne (by decide), mI_row_ne (by decide), mI_row]; exact if_neg hj
  have I7 : mI M' 97 7 = iZ ((nPt s : Int) + 1) := by
    rw [hM']; unfold ptM; rw [mI_row_ne (by decide), mI_row_ne (by decide), mI_row]; exact if_pos rfl
  have I102 : mI M' 102 = fu (mI M 102) (nPt s) (iZ u) := by rw [hM']; unfold ptM; rw [mI_row_ne (by decide), mI_row]
  have I103 : mI M' 103 = fu (mI M 103) (nPt s) (iZ (-1)) := by rw [hM']; unfold ptM; rw [mI_row]
  have P : mP M' = mP M := by rw [hM']; rfl
  have hK : mK M' = mK M := by rw [hM']; rfl
  have hN : mN M' = mN M := by rw [hM']; rfl
  have hJ : mJ M' = mJ M := by rw [hM']; rfl
  refine ⟨⟨by rw [I 61 (by omega) (by omega) (by omega)]; exact b1, fun i hi => ?_⟩, ⟨by rw [I97 0 (by omega)]; exact t1, fun i hi => ?_⟩, ⟨by rw [I97 4 (by omega)]; exact r1, fun i hi => ?_⟩, ⟨by rw [I97 6 (by omega)]; exact c1, fun i hi => ?_⟩, I7, fun i hi => ?_⟩
  · have hi : i < nBk s := hi
    obtain ⟨e1, N, sz, e2, e3, e4⟩ := b2 i hi
    have k1 := e2.1
    have k2 := e2.2.1
    exact ⟨by rw [P]; exact e1, N, sz, BK_fr e2 (by omega) (fun y _ _ => ⟨by rw [hK], by rw [P]⟩), BC_fr e3 (fun y h1 h2 => ⟨I y (by omega) (by omega) (by omega), by rw [hJ]⟩), e4⟩
  · rw [P, I 99 (by omega) (by omega) (by omega), I 100 (by omega) (by omega) (by omega)]; exact t2 i hi
  · obtain ⟨e1, e2, e3, e4⟩ := r2 i hi
    rw [P, I (ra i) (by omega) (by omega) (by omega)]
    rw [addP_cA]
    exact ⟨e1, e2, ⟨e3.1, by rw [hN]; exact e3.2.1, by rw [hK]; exact e3.2.2⟩, e4⟩
  · obtain ⟨⟨e1, e2⟩, e3, e4⟩ := c2 i hi
    obtain ⟨f1, f2, f3, f4, f5, f6, f7⟩ := e1
    refine ⟨⟨⟨f1, by rw [hN]; exact f2, by rw [hK]; exact f3, by rw [hK]; exact f4, by rw [hK]; exact f5, by rw [P]; exact f6, by rw [P]; exact f7⟩, ?_⟩, ?_, by rw [P, addP_cA]; exact e4⟩
    · rw [I (ca i) (by omega) (by omega) (by omega), I (ca i + 1) (by omega) (by omega) (by omega), I (ca i + 2) (by omega) (by omega) (by omega)]; exact e2
    · rw [I (ca i) (by omega) (by omega) (by omega)]; exact e3
  · have hi : i < nPt s + 1 := hi
    rw [I 104 (by omega) (by omega) (by omega), I 105 (by omega) (by omega) (by omega), I102, I103]
    by_cases w : i = nPt s
    · subst w
      have e : ePt (addP s u) (nPt s) = (u, -1, 0, 0) := if_pos rfl
      rw [e]
      exact ⟨if_pos rfl, if_pos rfl, fun h => absurd rfl h⟩
    · have e : ePt (addP s u) i = ePt s i := if_neg w
      rw [e]
      obtain ⟨g1, g2, g3⟩ := p2 i (by omega)
      exact ⟨(if_neg w).trans g1, (if_neg w).trans g2, g3⟩
end

/-! LUCK; the class's side. -/
section
variable {G : GE} {d : Nat} {M M' : Mem} {s : Sn} {kb ra ca : Nat → Nat} {u w i : Nat} {k D U W K : Int}
theorem toI32J {z : Int} : (jZ z).toInt32 = iZ z := Int64.toInt32_ofInt
def selT (s : Sn) (t : Nat) (k : Int) (i : Nat) : Prop := uTr s i = t ∧ isC s i k
def selH (s : Sn) (t : Nat) (h k : Int) (i : Nat) : Prop := selT s t k i ∧ uHr s i = h
noncomputable def lkS (s : Sn) (t : Nat) (k : Int) : Nat → Int := sN (fun i => ind (selT s t k i) * tot s i k)
noncomputable def lkN (s : Sn) (t : Nat) (k : Int) : Nat → Int := sN (fun i => ind (selT s t k i))
noncomputable def lhS (s : Sn) (t : Nat) (h k : Int) : Nat → Int := sN (fun i => ind (selH s t h k i) * tot s i k)
noncomputable def lhN (s : Sn) (t : Nat) (h k : Int) : Nat → Int := sN (fun i => ind (selH s t h k i))
noncomputable def luckV (s : Sn) (t : Nat) (h k : Int) : Int :=
  if lhN s t h k (nRn s) = 0 then -1000000 else 1000 * (lhS s t h k (nRn s) * lkN s t k (nRn s) - lkS s t k (nRn s) * lhN s t h k (nRn s)) / (lhN s t h k (nRn s) * lkN s t k (nRn s))
theorem it_b {p : Prop} (hO : Sok s) (hp : p → isC s i k) : 0 ≤ ind p * tot s i k ∧ ind p * tot s i k ≤ 2792 := by
  by_cases h : p
  · rw [ind_t h, Int.one_mul]
    exact tot_b hO (hp h).1
  · rw [ind_f h, Int.zero_mul]; decide
theorem luck_b (hO : Sok s) {t : Nat} {h : Int} (n : Nat) : (0 ≤ lkS s t k n ∧ lkS s t k n ≤ 2792 * n) ∧ (0 ≤ lkN s t k n ∧ lkN s t k n ≤ 1 * n) ∧ (0 ≤ lhS s t h k n ∧ lhS s t h k n ≤ 2792 * n) ∧ (0 ≤ lhN s t h k n ∧ lhN s t h k n ≤ 1 * n) ∧ lhN s t h k n ≤ lkN s t k n := by
  have a1 := sN_b (f := fun i => ind (selT s t k i) * tot s i k) (a := 0) (b := 2792) n (fun j _ => it_b hO (fun z => z.2))
  have a2 := sN_b (f := fun i => ind (selT s t k i)) (a := 0) (b := 1) n (fun j _ => ind_b)
  have a3 := sN_b (f := fun i => ind (selH s t h k i) * tot s i k) (a := 0) (b := 2792) n (fun j _ => it_b hO (fun z => z.1.2))
  have a4 := sN_b (f := fun i => ind (selH s t h k i)) (a := 0) (b := 1) n (fun j _ => ind_b)
  rw [Int.zero_mul] at a1 a2 a3 a4
  refine ⟨a1, a2, a3, a4, ?_⟩
  clear a1 a2 a3 a4
  induction n with
  | zero => exact Int.le_refl _
  | succ n ih =>
    show lhN s t h k n + ind (selH s t h k n) ≤ lkN s t k n + ind (selT s t k n)
    have : ind (selH s t h k n) ≤ ind (selT s t k n) := by
      by_cases z : selH s t h k n
      · rw [ind_t z, ind_t z.1]; exact Int.le_refl _
      · rw [ind_f z]; exact ind_b.1
    omega
theorem c230 (hst : (gl G).stackTraces = false) (hS : Static M) (hO : Sok s) (hC : CSn M s kb ra ca) {t : Nat} {h : Int} (ht : t < nTl s) (h1 : 0 ≤ h) (h2 : h < 24) (k1 : -2147483648 ≤ k) (k2 : k < 2147483648) : Ev G (d + 5) 230 [aR (some 97), aI (iZ t), aI (iZ h), aI (iZ k)] M 0 (vI (iZ (luckV s t h k)) M) nX := by
  have n120 := hO.2.2.1.1
  have rn := hC.2.2.1.1
  have rc := hC.2.2.1.2
  have ro := hO.2.2.1.2
  have t20 := hO.2.1.1
  refine Ev_wp 2000 hst (by decide) (Nat.le_of_ble_eq_true rfl) ?_; simp (disch := omega) only [en230, wcQ, wcX, wcG, wcL, wcS, w230_0, w230_1, w230_3, w230_4, w230_6, w230_7, w230_9, w230_10, w230_12, w230_13, h230_15, w230_15, toI, toJ, toI64, inb_T, inb_iZ, Int.toNat_natCast, cl_0, cl_1, cl_2, cl_3, cl_4, cl_5, cl_6, cl_7, cl_8, cl_9, cl_10, cl_11, cl_12, cl_13, cl_14, cl_15, cl_16, cl_17, cl_18, cl_19, cl_20, cl_21, cl_22, cl_23, cl_24, cl_25, cl_26, cl_27, cl_28, cl_29, cl_30, cl_31, cl_32, cl_36, cl_40, cl_48, cl_60, cl_108, cl_120, cl_200, cl_201, cl_576, cl_600, cl_864, cl_900, cl_960, cl_5400, cl_8040, j2_0, iN_iZ, iN_lit0, iZ_add, iZ_sub, iZ_mul, iZ_neg, jZ_add, jZ_sub, jZ_mul, jZ_neg, isB0, isB1, isBZ, eq0, eq1, bZ0, vI_, vJ_, vA_, rI_, rJ_, rA_, rV_, nX_, tX_, true_and, and_true, false_and, and_false, and_self, implies_true, forall_const, not_true_eq_false, not_false_eq_true, false_implies, true_implies, ↓reduceIte, Nat.reduceEqDiff, Int.reduceToNat, Int.reduceAdd, Int.reduceSub, Int.reduceLT, Int.reduceLE, Int.reduceEq, Int.add_zero, Int.neg_zero, Int.add_sub_cancel, Int.reduceNeg, Nat.reduceLeDiff, Nat.reduceSub, true_or, or_true, false_or, or_false, setI_d, setJ_d, setP_d, mI_row, mJ_row, mP_row, mI_row_ne, mJ_row_ne, mP_row_ne, rowI_rowI, rowJ_rowJ, rowI_sort, rowJ_sort, rowJ_rowI, rowP_rowI, rowP_rowJ, fu_app, fu_fu, mI_rowJ, mI_rowP, mJ_rowI, mJ_rowP, mP_rowI, mP_rowJ, mK_rowI, mN_rowI, mK_rowJ, mN_rowJ, mK_rowP, mN_rowP, oB_rowI, oB_rowJ, iA_rowI, iA_rowJ, iR_rowI, iR_rowJ, St_rowI, St_rowJ]
  refine loopN (nRn s) (fun i ls M' => (∃ x13, ls = [aR (some 97), aI (iZ t), aI (iZ h), aI (iZ k), aL (jZ (lhS s t h k i)), aU, aL (jZ (lhN s t h k i)), aU, aL (jZ (lkS s t k i)), aU, aL (jZ (lkN s t k i)), aU, aI (iZ i), x13]) ∧ M' = M) ⟨⟨aU, rfl⟩, rfl⟩ ?_ ?_
  · intro i hi ls Mi ⟨⟨x13, hl⟩, hM⟩ K
    subst hl
    have hM := hM.symm
    subst hM
    have hi' : (i : Int) < nRn s := by omega
    obtain ⟨y1, y2, y3, y4, y5, y6, _⟩ := rc i hi
    have oi := eq_true y3
    have a1 := (ro i hi).1
    have a2 := (ro i hi).2.2
    obtain ⟨b1, b2, b3, b4, b5⟩ := luck_b (k := k) (t := t) (h := h) hO i
    have s1 : lkS s t k (i + 1) = lkS s t k i + ind (selT s t k i) * tot s i k := rfl
    have s2 : lkN s t k (i + 1) = lkN s t k i + ind (selT s t k i) := rfl
    have s3 : lhS s t h k (i + 1) = lhS s t h k i + ind (selH s t h k i) * tot s i k := rfl
    have s4 : lhN s t h k (i + 1) = lhN s t h k i + ind (selH s t h k i) := rfl
    have K := K
    rw [s1, s2, s3, s4] at K
    have e1 := c190 (G := G) (d := d) hst hS hO hC hi k1 k2
    have e2 := c191 (G := G) (d := d + 2) hst hS hO hC hi k1 k2
    refine wp1_go (n := 2000) ?_
    by_cases hT : (eRn s i).1 = t
    · have hT' : ((eRn s i).1 : Int) = (t : Int) := by rw [hT]
      simp (disch := omega) only [wcQ, wcX, wcG, wcL, wcS, h230_15, w230_15, w230_17, w230_18, w230_21, w230_24, w230_25, w230_28, w230_30, w230_31, w230_34, w230_35, w230_38, w230_39, w230_41, w230_42, toI, toJ, toI64, inb_T, inb_iZ, Int.toNat_natCast, cl_0, cl_1, cl_2, cl_3, cl_4, cl_5, cl_6, cl_7, cl_8, cl_9, cl_10, cl_11, cl_12, cl_13, cl_14, cl_15, cl_16, cl_17, cl_18, cl_19, cl_20, cl_21, cl_22, cl_23, cl_24, cl_25, cl_26, cl_27, cl_28, cl_29, cl_30, cl_31, cl_32, cl_36, cl_40, cl_48, cl_60, cl_108, cl_120, cl_200, cl_201, cl_576, cl_600, cl_864, cl_900, cl_960, cl_5400, cl_8040, j2_0, iN_iZ, iN_lit0, iZ_add, iZ_sub, iZ_mul, iZ_neg, jZ_add, jZ_sub, jZ_mul, jZ_neg, isB0, isB1, isBZ, eq0, eq1, bZ0, vI_, vJ_, vA_, rI_, rJ_, rA_, rV_, nX_, tX_, true_and, and_true, false_and, and_false, and_self, implies_true, forall_const, not_true_eq_false, not_false_eq_true, false_implies, true_implies, ↓reduceIte, Nat.reduceEqDiff, Int.reduceToNat, Int.reduceAdd, Int.reduceSub, Int.reduceLT, Int.reduceLE, Int.reduceEq, Int.add_zero, Int.neg_zero, Int.add_sub_cancel, Int.reduceNeg, Nat.reduceLeDiff, Nat.reduceSub, true_or, or_true, false_or, or_false, setI_d, setJ_d, setP_d, mI_row, mJ_row, mP_row, mI_row_ne, mJ_row_ne, mP_row_ne, rowI_rowI, rowJ_rowJ, rowI_sort, rowJ_sort, rowJ_rowI, rowP_rowI, rowP_rowJ, fu_app, fu_fu, mI_rowJ, mI_rowP, mJ_rowI, mJ_rowP, mP_rowI, mP_rowJ, mK_rowI, mN_rowI, mK_rowJ, mN_rowJ, mK_rowP, mN_rowP, oB_rowI, oB_rowJ, iA_rowI, iA_rowJ, iR_rowI, iR_rowJ, St_rowI, St_rowJ, K97 hS, O97 hS, P97_1 hS, P97_2 hS, P97_3 hS, P97_5 hS, P97_8 hS, P97_9 hS, P97_10 hS, P97_11 hS, K101 hS, O101 hS, A101 hS, R101 hS, rn, hi', y1, oi, y4, hT']
      refine kI e1 (Nat.le_refl _) (fun v M' hq => ?_) (fun e M' h => False.elim h)
      obtain ⟨hM, hq⟩ := hq
      have hM := hM.symm
      subst hM
      rcases hq with ⟨rfl, hc⟩ | ⟨rfl, hc⟩
      · rw [if_neg hc.1] at e2
        have tb := tot_b hO hc.1
        have hsT : selT s t k i := ⟨hT, hc⟩
        simp (disch := omega) only [wcQ, wcX, wcG, wcL, wcS, w230_45, w230_48, w230_49, w230_51, w230_52, toI, toJ, toI64, inb_T, inb_iZ, Int.toNat_natCast, cl_0, cl_1, cl_2, cl_3, cl_4, cl_5, cl_6, cl_7, cl_8, cl_9, cl_10, cl_11, cl_12, cl_13, cl_14, cl_15, cl_16, cl_17, cl_18, cl_19, cl_20, cl_21, cl_22, cl_23, cl_24, cl_25, cl_26, cl_27, cl_28, cl_29, cl_30, cl_31, cl_32, cl_36, cl_40, cl_48, cl_60, cl_108, cl_120, cl_200, cl_201, cl_576, cl_600, cl_864, cl_900, cl_960, cl_5400, cl_8040, j2_0, iN_iZ, iN_lit0, iZ_add, iZ_sub, iZ_mul, iZ_neg, jZ_add, jZ_sub, jZ_mul, jZ_neg, isB0, isB1, isBZ, eq0, eq1, bZ0, vI_, vJ_, vA_, rI_, rJ_, rA_, rV_, nX_, tX_, true_and, and_true, false_and, and_false, and_self, implies_true, forall_const, not_true_eq_false, not_false_eq_true, false_implies, true_implies, ↓reduceIte, Nat.reduceEqDiff, Int.reduceToNat, Int.reduceAdd, Int.reduceSub, Int.reduceLT, Int.reduceLE, Int.reduceEq, Int.add_zero, Int.neg_zero, Int.add_sub_cancel, Int.reduceNeg, Nat.reduceLeDiff, Nat.reduceSub, true_or, or_true, false_or, or_false, setI_d, setJ_d, setP_d, mI_row, mJ_row, mP_row, mI_row_ne, mJ_row_ne, mP_row_ne, rowI_rowI, rowJ_rowJ, rowI_sort, rowJ_sort, rowJ_rowI, rowP_rowI, rowP_rowJ, fu_app, fu_fu, mI_rowJ, mI_rowP, mJ_rowI, mJ_rowP, mP_rowI, mP_rowJ, mK_rowI, mN_rowI, mK_rowJ, mN_rowJ, mK_rowP, mN_rowP, oB_rowI, oB_rowJ, iA_rowI, iA_rowJ, iR_rowI, iR_rowJ, St_rowI, St_rowJ, K97 hS, O97 hS, P97_1 hS, P97_2 hS, P97_3 hS, P97_5 hS, P97_8 hS, P97_9 hS, P97_10 hS, P97_11 hS]
        refine kI0 e2 ?_
        by_cases hh : (eRn s i).2.2.1 = h
        · rw [ind_t hsT, ind_t (show selH s t h k i from ⟨hsT, hh⟩), Int.one_mul] at K
          simp (disch := omega) only [wcQ, wcX, wcG, wcL, wcS, h230_15, w230_15, w230_55, w230_57, w230_59, w230_61, w230_62, w230_63, w230_65, w230_67, w230_68, w230_69, w230_71, w230_72, w230_75, w230_77, w230_78, w230_81, w230_82, w230_85, w230_87, w230_89, w230_90, w230_91, w230_93, w230_95, w230_96, w230_97, w230_99, w230_102, toI, toJ, toI64, inb_T, inb_iZ, Int.toNat_natCast, cl_0, cl_1, cl_2, cl_3, cl_4, cl_5, cl_6, cl_7, cl_8, cl_9, cl_10, cl_11, cl_12, cl_13, cl_14, cl_15, cl_16, cl_17, cl_18, cl_19, cl_20, cl_21, cl_22, cl_23, cl_24, cl_25, cl_26, cl_27, cl_28, cl_29, cl_30, cl_31, cl_32, cl_36, cl_40, cl_48, cl_60, cl_108, cl_120, cl_200, cl_201, cl_576, cl_600, cl_864, cl_900, cl_960, cl_5400, cl_8040, j2_0, iN_iZ, iN_lit0, iZ_add, iZ_sub, iZ_mul, iZ_neg, jZ_add, jZ_sub, jZ_mul, jZ_neg, isB0, isB1, isBZ, eq0, eq1, bZ0, vI_, vJ_, vA_, rI_, rJ_, rA_, rV_, nX_, tX_, true_and, and_true, false_and, and_false, and_self, implies_true, forall_const, not_true_eq_false, not_false_eq_true, false_implies, true_implies, ↓reduceIte, Nat.reduceEqDiff, Int.reduceToNat, Int.reduceAdd, Int.reduceSub, Int.reduceLT, Int.reduceLE, Int.reduceEq, Int.add_zero, Int.neg_zero, Int.add_sub_cancel, Int.reduceNeg, Nat.reduceLeDiff, Nat.reduceSub, true_or, or_true, false_or, or_false, setI_d, setJ_d, setP_d, mI_row, mJ_row, mP_row, mI_row_ne, mJ_row_ne, mP_row_ne, rowI_rowI, rowJ_rowJ, rowI_sort, rowJ_sort, rowJ_rowI, rowP_rowI, rowP_rowJ, fu_app, fu_fu, mI_rowJ, mI_rowP, mJ_rowI, mJ_rowP, mP_rowI, mP_rowJ, mK_rowI, mN_rowI, mK_rowJ, mN_rowJ, mK_rowP, mN_rowP, oB_rowI, oB_rowJ, iA_rowI, iA_rowJ, iR_rowI, iR_rowJ, St_rowI, St_rowJ, K97 hS, O97 hS, P97_1 hS, P97_2 hS, P97_3 hS, P97_5 hS, P97_8 hS, P97_9 hS, P97_10 hS, P97_11 hS, K101 hS, O101 hS, A101 hS, R101 hS, y1, oi, y6, hh]
          exact K _ _ ⟨⟨_, rfl⟩, rfl⟩
        · rw [ind_t hsT, ind_f (show ¬ selH s t h k i from fun z => hh z.2), Int.one_mul, Int.zero_mul, Int.add_zero, Int.add_zero] at K
          simp (disch := omega) only [wcQ, wcX, wcG, wcL, wcS, h230_15, w230_15, w230_55, w230_57, w230_59, w230_61, w230_62, w230_63, w230_65, w230_67, w230_68, w230_69, w230_71, w230_72, w230_75, w230_77, w230_78, w230_81, w230_82, w230_99, w230_102, toI, toJ, toI64, inb_T, inb_iZ, Int.toNat_natCast, cl_0, cl_1, cl_2, cl_3, cl_4, cl_5, cl_6, cl_7, cl_8, cl_9, cl_10, cl_11, cl_12, cl_13, cl_14, cl_15, cl_16, cl_17, cl_18, cl_19, cl_20, cl_21, cl_22, cl_23, cl_24, cl_25, cl_26, cl_27, cl_28, cl_29, cl_30, cl_31, cl_32, cl_36, cl_40, cl_48, cl_60, cl_108, cl_120, cl_200, cl_201, cl_576, cl_600, cl_864, cl_900, cl_960, cl_5400, cl_8040, j2_0, iN_iZ, iN_lit0, iZ_add, iZ_sub, iZ_mul, iZ_neg, jZ_add, jZ_sub, jZ_mul, jZ_neg, isB0, isB1, isBZ, eq0, eq1, bZ0, vI_, vJ_, vA_, rI_, rJ_, rA_, rV_, nX_, tX_, true_and, and_true, false_and, and_false, and_self, implies_true, forall_const, not_true_eq_false, not_false_eq_true, false_implies, true_implies, ↓reduceIte, Nat.reduceEqDiff, Int.reduceToNat, Int.reduceAdd, Int.reduceSub, Int.reduceLT, Int.reduceLE, Int.reduceEq, Int.add_zero, Int.neg_zero, Int.add_sub_cancel, Int.reduceNeg, Nat.reduceLeDiff, Nat.reduceSub, true_or, or_true, false_or, or_false, setI_d, setJ_d, setP_d, mI_row, mJ_row, mP_row, mI_row_ne, mJ_row_ne, mP_row_ne, rowI_rowI, rowJ_rowJ, rowI_sort, rowJ_sort, rowJ_rowI, rowP_rowI, rowP_rowJ, fu_app, fu_fu, mI_rowJ, mI_rowP, mJ_rowI, mJ_rowP, mP_rowI, mP_rowJ, mK_rowI, mN_rowI, mK_rowJ, mN_rowJ, mK_rowP, mN_rowP, oB_rowI, oB_rowJ, iA_rowI, iA_rowJ, iR_rowI, iR_rowJ, St_rowI, St_rowJ, K97 hS, O97 hS, P97_1 hS, P97_2 hS, P97_3 hS, P97_5 hS, P97_8 hS, P97_9 hS, P97_10 hS, P97_11 hS, K101 hS, O101 hS, A101 hS, R101 hS, y1, oi, y6, hh]
          exact K _ _ ⟨⟨_, rfl⟩, rfl⟩
      · have hn : ¬ selT s t k i := fun z => hc z.2
        rw [ind_f hn, ind_f (show ¬ selH s t h k i from fun z => hn z.1), Int.zero_mul, Int.add_zero, Int.add_zero, Int.add_zero, Int.add_zero] at K
        simp (disch := omega) only [wcQ, wcX, wcG, wcL, wcS, h230_15, w230_15, w230_45, w230_99, w230_102, toI, toJ, toI64, inb_T, inb_iZ, Int.toNat_natCast, cl_0, cl_1, cl_2, cl_3, cl_4, cl_5, cl_6, cl_7, cl_8, cl_9, cl_10, cl_11, cl_12, cl_13, cl_14, cl_15, cl_16, cl_17, cl_18, cl_19, cl_20, cl_21, cl_22, cl_23, cl_24, cl_25, cl_26, cl_27, cl_28, cl_29, cl_30, cl_31, cl_32, cl_36, cl_40, cl_48, cl_60, cl_108, cl_120, cl_200, cl_201, cl_576, cl_600, cl_864, cl_900, cl_960, cl_5400, cl_8040, j2_0, iN_iZ, iN_lit0, iZ_add, iZ_sub, iZ_mul, iZ_neg, jZ_add, jZ_sub, jZ_mul, jZ_neg, isB0, isB1, isBZ, eq0, eq1, bZ0, vI_, vJ_, vA_, rI_, rJ_, rA_, rV_, nX_, tX_, true_and, and_true, false_and, and_false, and_self, implies_true, forall_const, not_true_eq_false, not_false_eq_true, false_implies, true_implies, ↓reduceIte, Nat.reduceEqDiff, Int.reduceToNat, Int.reduceAdd, Int.reduceSub, Int.reduceLT, Int.reduceLE, Int.reduceEq, Int.add_zero, Int.neg_zero, Int.add_sub_cancel, Int.reduceNeg, Nat.reduceLeDiff, Nat.reduceSub, true_or, or_true, false_or, or_false, setI_d, setJ_d, setP_d, mI_row, mJ_row, mP_row, mI_row_ne, mJ_row_ne, mP_row_ne, rowI_rowI, rowJ_rowJ, rowI_sort, rowJ_sort, rowJ_rowI, rowP_rowI, rowP_rowJ, fu_app, fu_fu, mI_rowJ, mI_rowP, mJ_rowI, mJ_rowP, mP_rowI, mP_rowJ, mK_rowI, mN_rowI, mK_rowJ, mN_rowJ, mK_rowP, mN_rowP, oB_rowI, oB_rowJ, iA_rowI, iA_rowJ, iR_rowI, iR_rowJ, St_rowI, St_rowJ]
        exact K _ _ ⟨⟨_, rfl⟩, rfl⟩
    · have hT' : ¬ ((eRn s i).1 : Int) = (t : Int) := by omega
      have hn : ¬ selT s t k i := fun z => hT z.1
      rw [ind_f hn, ind_f (show ¬ selH s t h k i from fun z => hn z.1), Int.zero_mul, Int.add_zero, Int.add_zero, Int.add_zero, Int.add_zero] at K
      simp (disch := omega) only [wcQ, wcX, wcG, wcL, wcS, h230_15, w230_15, w230_17, w230_18, w230_21, w230_24, w230_25, w230_28, w230_30, w230_31, w230_34, w230_35, w230_99, w230_102, toI, toJ, toI64, inb_T, inb_iZ, Int.toNat_natCast, cl_0, cl_1, cl_2, cl_3, cl_4, cl_5, cl_6, cl_7, cl_8, cl_9, cl_10, cl_11, cl_12, cl_13, cl_14, cl_15, cl_16, cl_17, cl_18, cl_19, cl_20, cl_21, cl_22, cl_23, cl_24, cl_25, cl_26, cl_27, cl_28, cl_29, cl_30, cl_31, cl_32, cl_36, cl_40, cl_48, cl_60, cl_108, cl_120, cl_200, cl_201, cl_576, cl_600, cl_864, cl_900, cl_960, cl_5400, cl_8040, j2_0, iN_iZ, iN_lit0, iZ_add, iZ_sub, iZ_mul, iZ_neg, jZ_add, jZ_sub, jZ_mul, jZ_neg, isB0, isB1, isBZ, eq0, eq1, bZ0, vI_, vJ_, vA_, rI_, rJ_, rA_, rV_, nX_, tX_, true_and, and_true, false_and, and_false, and_self, implies_true, forall_const, not_true_eq_false, not_false_eq_true, false_implies, true_implies, ↓reduceIte, Nat.reduceEqDiff, Int.reduceToNat, Int.reduceAdd, Int.reduceSub, Int.reduceLT, Int.reduceLE, Int.reduceEq, Int.add_zero, Int.neg_zero, Int.add_sub_cancel, Int.reduceNeg, Nat.reduceLeDiff, Nat.reduceSub, true_or, or_true, false_or, or_false, setI_d, setJ_d, setP_d, mI_row, mJ_row, mP_row, mI_row_ne, mJ_row_ne, mP_row_ne, rowI_rowI, rowJ_rowJ, rowI_sort, rowJ_sort, rowJ_rowI, rowP_rowI, rowP_rowJ, fu_app, fu_fu, mI_rowJ, mI_rowP, mJ_rowI, mJ_rowP, mP_rowI, mP_rowJ, mK_rowI, mN_rowI, mK_rowJ, mN_rowJ, mK_rowP, mN_rowP, oB_rowI, oB_rowJ, iA_rowI, iA_rowJ, iR_rowI, iR_rowJ, St_rowI, St_rowJ, K97 hS, O97 hS, P97_1 hS, P97_2 hS, P97_3 hS, P97_5 hS, P97_8 hS, P97_9 hS, P97_10 hS, P97_11 hS, K101 hS, O101 hS, A101 hS, R101 hS, rn, hi', y1, oi, y4, hT']
      exact K _ _ ⟨⟨_, rfl⟩, rfl⟩
  · intro ls Mi ⟨⟨x13, hl⟩, hM⟩
    subst hl
    have hM := hM.symm
    subst hM
    obtain ⟨b1, b2, b3, b4, b5⟩ := luck_b (k := k) (t := t) (h := h) hO (nRn s)
    have hV : luckV s t h k = if lhN s t h k (nRn s) = 0 then -1000000 else 1000 * (lhS s t h k (nRn s) * lkN s t k (nRn s) - lkS s t k (nRn s) * lhN s t h k (nRn s)) / (lhN s t h k (nRn s) * lkN s t k (nRn s)) := rfl
    generalize luckV s t h k = V at *
    generalize lhN s t h k (nRn s) = hn at *
    generalize lkN s t k (nRn s) = kn at *
    generalize lhS s t h k (nRn s) = hs at *
    generalize lkS s t k (nRn s) = ks at *
    have jz0 : (0 : Int64) = jZ 0 := rfl
    refine wp1_go (n := 2000) ?_
    by_cases z : hn = 0
    · rw [if_pos z] at hV
      simp (disch := omega) only [wcQ, wcX, wcG, wcL, wcS, h230_15, w230_15, w230_17, w230_18, w230_21, w230_105, w230_107, w230_108, w230_109, w230_112, w230_114, w230_115, w230_116, w230_119, w230_121, toI, toJ, toI64, inb_T, inb_iZ, Int.toNat_natCast, cl_0, cl_1, cl_2, cl_3, cl_4, cl_5, cl_6, cl_7, cl_8, cl_9, cl_10, cl_11, cl_12, cl_13, cl_14, cl_15, cl_16, cl_17, cl_18, cl_19, cl_20, cl_21, cl_22, cl_23, cl_24, cl_25, cl_26, cl_27, cl_28, cl_29, cl_30, cl_31, cl_32, cl_36, cl_40, cl_48, cl_60, cl_108, cl_120, cl_200, cl_201, cl_576, cl_600, cl_864, cl_900, cl_960, cl_5400, cl_8040, j2_0, iN_iZ, iN_lit0, iZ_add, iZ_sub, iZ_mul, iZ_neg, jZ_add, jZ_sub, jZ_mul, jZ_neg, isB0, isB1, isBZ, eq0, eq1, bZ0, vI_, vJ_, vA_, rI_, rJ_, rA_, rV_, nX_, tX_, true_and, and_true, false_and, and_false, and_self, implies_true, forall_const, not_true_eq_false, not_false_eq_true, false_implies, true_implies, ↓reduceIte, Nat.reduceEqDiff, Int.reduceToNat, Int.reduceAdd, Int.reduceSub, Int.reduceLT, Int.reduceLE, Int.reduceEq, Int.add_zero, Int.neg_zero, Int.add_sub_cancel, Int.reduceNeg, Nat.reduceLeDiff, Nat.reduceSub, true_or, or_true, false_or, or_false, setI_d, setJ_d, setP_d, mI_row, mJ_row, mP_row, mI_row_ne, mJ_row_ne, mP_row_ne, rowI_rowI, rowJ_rowJ, rowI_sort, rowJ_sort, rowJ_rowI, rowP_rowI, rowP_rowJ, fu_app, fu_fu, mI_rowJ, mI_rowP, mJ_rowI, mJ_rowP, mP_rowI, mP_rowJ, mK_rowI, mN_rowI, mK_rowJ, mN_rowJ, mK_rowP, mN_rowP, oB_rowI, oB_rowJ, iA_rowI, iA_rowJ, iR_rowI, iR_rowJ, St_rowI, St_rowJ, K97 hS, O97 hS, P97_1 hS, P97_2 hS, P97_3 hS, P97_5 hS, P97_8 hS, P97_9 hS, P97_10 hS, P97_11 hS, rn, Int.lt_irrefl, cmp0, z]
      rw [hV]
    · rw [if_neg z] at hV
      have zk : ¬ kn = 0 := by omega
      have m1 : 0 ≤ hs * kn ∧ hs * kn ≤ 335040 * 120 := ⟨Int.mul_nonneg (by omega) (by omega), Int.mul_le_mul (by omega) (by omega) (by omega) (by omega)⟩
      have m2 : 0 ≤ ks * hn ∧ ks * hn ≤ 335040 * 120 := ⟨Int.mul_nonneg (by omega) (by omega), Int.mul_le_mul (by omega) (by omega) (by omega) (by omega)⟩
      have m3 : 0 < hn * kn := Int.mul_pos (by omega) (by omega)
      have m4 : hn * kn ≤ 120 * 120 := Int.mul_le_mul (by omega) (by omega) (by omega) (by omega)
      have e3 := jd15 (G := G) (d := d + 3) (M := M) (x := 1000 * (hs * kn - ks * hn)) (y := hn * kn) hst (by omega) (by omega) m3 (by omega)
      simp (disch := omega) only [wcQ, wcX, wcG, wcL, wcS, h230_15, w230_15, w230_17, w230_18, w230_21, w230_105, w230_107, w230_108, w230_109, w230_112, w230_114, w230_115, w230_116, w230_119, w230_121, w230_122, w230_125, w230_127, w230_129, w230_130, w230_132, w230_134, w230_135, w230_136, w230_137, w230_139, w230_141, w230_142, toI, toJ, toI64, inb_T, inb_iZ, Int.toNat_natCast, cl_0, cl_1, cl_2, cl_3, cl_4, cl_5, cl_6, cl_7, cl_8, cl_9, cl_10, cl_11, cl_12, cl_13, cl_14, cl_15, cl_16, cl_17, cl_18, cl_19, cl_20, cl_21, cl_22, cl_23, cl_24, cl_25, cl_26, cl_27, cl_28, cl_29, cl_30, cl_31, cl_32, cl_36, cl_40, cl_48, cl_60, cl_108, cl_120, cl_200, cl_201, cl_576, cl_600, cl_864, cl_900, cl_960, cl_5400, cl_8040, j2_0, iN_iZ, iN_lit0, iZ_add, iZ_sub, iZ_mul, iZ_neg, jZ_add, jZ_sub, jZ_mul, jZ_neg, isB0, isB1, isBZ, eq0, eq1, bZ0, vI_, vJ_, vA_, rI_, rJ_, rA_, rV_, nX_, tX_, true_and, and_true, false_and, and_false, and_self, implies_true, forall_const, not_true_eq_false, not_false_eq_true, false_implies, true_implies, ↓reduceIte, Nat.reduceEqDiff, Int.reduceToNat, Int.reduceAdd, Int.reduceSub, Int.reduceLT, Int.reduceLE, Int.reduceEq, Int.add_zero, Int.neg_zero, Int.add_sub_cancel, Int.reduceNeg, Nat.reduceLeDiff, Nat.reduceSub, true_or, or_true, false_or, or_false, setI_d, setJ_d, setP_d, mI_row, mJ_row, mP_row, mI_row_ne, mJ_row_ne, mP_row_ne, rowI_rowI, rowJ_rowJ, rowI_sort, rowJ_sort, rowJ_rowI, rowP_rowI, rowP_rowJ, fu_app, fu_fu, mI_rowJ, mI_rowP, mJ_rowI, mJ_rowP, mP_rowI, mP_rowJ, mK_rowI, mN_rowI, mK_rowJ, mN_rowJ, mK_rowP, mN_rowP, oB_rowI, oB_rowJ, iA_rowI, iA_rowJ, iR_rowI, iR_rowJ, St_rowI, St_rowJ, K97 hS, O97 hS, P97_1 hS, P97_2 hS, P97_3 hS, P97_5 hS, P97_8 hS, P97_9 hS, P97_10 hS, P97_11 hS, rn, Int.lt_irrefl, cmp0, z, zk]
      refine kJ0 e3 ?_
      simp (disch := omega) only [wcQ, wcX, wcG, wcL, wcS, w230_145, w230_146, toI, toJ, toI64, inb_T, inb_iZ, Int.toNat_natCast, cl_0, cl_1, cl_2, cl_3, cl_4, cl_5, cl_6, cl_7, cl_8, cl_9, cl_10, cl_11, cl_12, cl_13, cl_14, cl_15, cl_16, cl_17, cl_18, cl_19, cl_20, cl_21, cl_22, cl_23, cl_24, cl_25, cl_26, cl_27, cl_28, cl_29, cl_30, cl_31, cl_32, cl_36, cl_40, cl_48, cl_60, cl_108, cl_120, cl_200, cl_201, cl_576, cl_600, cl_864, cl_900, cl_960, cl_5400, cl_8040, j2_0, iN_iZ, iN_lit0, iZ_add, iZ_sub, iZ_mul, iZ_neg, jZ_add, jZ_sub, jZ_mul, jZ_neg, isB0, isB1, isBZ, eq0, eq1, bZ0, vI_, vJ_, vA_, rI_, rJ_, rA_, rV_, nX_, tX_, true_and, and_true, false_and, and_false, and_self, implies_true, forall_const, not_true_eq_false, not_false_eq_true, false_implies, true_implies, ↓reduceIte, Nat.reduceEqDiff, Int.reduceToNat, Int.reduceAdd, Int.reduceSub, Int.reduceLT, Int.reduceLE, Int.reduceEq, Int.add_zero, Int.neg_zero, Int.add_sub_cancel, Int.reduceNeg, Nat.reduceLeDiff, Nat.reduceSub, true_or, or_true, false_or, or_false, setI_d, setJ_d, setP_d, mI_row, mJ_row, mP_row, mI_row_ne, mJ_row_ne, mP_row_ne, rowI_rowI, rowJ_rowJ, rowI_sort, rowJ_sort, rowJ_rowI, rowP_rowI, rowP_rowJ, fu_app, fu_fu, mI_rowJ, mI_rowP, mJ_rowI, mJ_rowP, mP_rowI, mP_rowJ, mK_rowI, mN_rowI, mK_rowJ, mN_rowJ, mK_rowP, mN_rowP, oB_rowI, oB_rowJ, iA_rowI, iA_rowJ, iR_rowI, iR_rowJ, St_rowI, St_rowJ]
      rw [hV]
      exact toI32J
end

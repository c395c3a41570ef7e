/-! SCALE: first runs, pairs; the reference's side. -/
section
variable {G : GE} {d : Nat} {M M' M'' : Mem} {s : Sn} {k : Int} {W : Nat → Nat → Int} {r h : Nat → Int} {g : Nat → Nat} {a b w j i : Nat} {z : Int}
def frQ (s : Sn) (k : Int) (w j i : Nat) : Prop := uDg s i = w ∧ uJd s i = j ∧ isC s i k
theorem c90 (hst : (gl G).stackTraces = false) (hS : Static M) (hO : Sok s) (hM : MSn M s) (hJ : ∀ u, u < nRn s → JU M s k u) (hw : w < 24) (hj : j < 6) : Ev G (d + 1) 90 [aR (some 154), aI (iZ w), aI (iZ j)] M 0 (rI fun v M' => M' = M ∧ ((v = iZ (-1) ∧ ∀ i, i < nRn s → ¬ frQ s k w j i) ∨ ∃ i : Nat, v = iZ i ∧ i < nRn s ∧ frQ s k w j i ∧ ∀ i', i' < i → ¬ frQ s k w j i')) nX := by
  have n120 := hO.2.2.1.1
  obtain ⟨rn, rc⟩ := hM.2.2.1
  have key : ∀ Q : QR, ((∀ i, i < nRn s → ¬ frQ s k w j i) → Q (some (aI (iZ (-1)))) M) → (∀ i, i < nRn s → frQ s k w j i → (∀ i', i' < i → ¬ frQ s k w j i') → Q (some (aI (iZ i))) M) → Ev G (d + 1) 90 [aR (some 154), aI (iZ w), aI (iZ j)] M 0 Q nX := by
    intro Q h1 h2
    refine Ev_wp 2000 hst (by decide) (Nat.le_of_ble_eq_true rfl) ?_; simp (disch := omega) only [en90, wcQ, wcX, wcG, wcL, wcS, w90_0, w90_1, h90_2, w90_2, toI, toJ, toI64, inb_T, inb_iZ, Int.toNat_natCast, cl_0, cl_1, cl_2, cl_3, cl_4, cl_5, cl_6, cl_7, cl_8, cl_9, cl_10, cl_11, cl_12, cl_13, cl_14, cl_15, cl_16, cl_17, cl_18, cl_19, cl_20, cl_21, cl_22, cl_23, cl_24, cl_25, cl_26, cl_27, cl_28, cl_29, cl_30, cl_31, cl_32, cl_36, cl_40, cl_48, cl_60, cl_108, cl_120, cl_200, cl_201, cl_576, cl_600, cl_864, cl_900, cl_960, cl_5400, cl_8040, j2_0, iN_iZ, iN_lit0, iZ_add, iZ_sub, iZ_mul, iZ_neg, jZ_add, jZ_sub, jZ_mul, jZ_neg, isB0, isB1, isBZ, eq0, eq1, bZ0, vI_, vJ_, vA_, rI_, rJ_, rA_, rV_, nX_, tX_, true_and, and_true, false_and, and_false, and_self, implies_true, forall_const, not_true_eq_false, not_false_eq_true, false_implies, true_implies, ↓reduceIte, Nat.reduceEqDiff, Int.reduceToNat, Int.reduceAdd, Int.reduceSub, Int.reduceLT, Int.reduceLE, Int.reduceEq, Int.add_zero, Int.neg_zero, Int.add_sub_cancel, Int.reduceNeg, Nat.reduceLeDiff, Nat.reduceSub, true_or, or_true, false_or, or_false, setI_d, setJ_d, setP_d, mI_row, mJ_row, mP_row, mI_row_ne, mJ_row_ne, mP_row_ne, rowI_rowI, rowJ_rowJ, rowI_sort, rowJ_sort, rowJ_rowI, rowP_rowI, rowP_rowJ, fu_app, fu_fu, mI_rowJ, mI_rowP, mJ_rowI, mJ_rowP, mP_rowI, mP_rowJ, mK_rowI, mN_rowI, mK_rowJ, mN_rowJ, mK_rowP, mN_rowP, oB_rowI, oB_rowJ, iA_rowI, iA_rowJ, iR_rowI, iR_rowJ, St_rowI, St_rowJ]
    refine loopN (nRn s) (fun i ls M' => ls = [aR (some 154), aI (iZ w), aI (iZ j), aI (iZ i)] ∧ M' = M ∧ ∀ i', i' < i → ¬ frQ s k w j i') ⟨rfl, rfl, fun i' h => absurd h (by omega)⟩ ?_ ?_
    · intro i hi ls M' ⟨hl, hM', hn⟩ K
      have hM' := hM'.symm
      subst hl hM'
      obtain ⟨m1, m2, _, _⟩ := rc i hi
      obtain ⟨v1, v2, _⟩ := hO.2.2.1.2 i hi
      have t20 := hO.2.1.1
      have tr20 : uTr s i < 20 := Nat.lt_of_lt_of_le v1 t20
      obtain ⟨_, _, m3⟩ := hM.2.1.2 (uTr s i) v1
      obtain ⟨_, _, _, q4⟩ := hO.2.1.2 (uTr s i) v1
      have hc := (hJ i hi).2.1
      have hi' : (i : Int) < nRn s := by omega
      have i120 : i < 120 := by omega
      have no : ¬ frQ s k w j i → ∀ i', i' < i + 1 → ¬ frQ s k w j i' := fun hq i' h => by
        by_cases z : i' = i
        · rw [z]; exact hq
        · exact hn i' (by omega)
      refine wp1_go (n := 2000) ?_
      by_cases z1 : uDg s i = w
      · have z1' : ((eRn s i).2.1 : Int) = (w : Int) := by rw [← z1]
        rcases hc with ⟨c1, c2⟩ | ⟨c1, c2⟩
        · by_cases z2 : uJd s i = j
          · have z2' : ((eTl s (uTr s i)).2.2 : Int) = (j : Int) := by rw [← z2]
            have hq := h2 i hi ⟨z1, z2, c2⟩ hn
            simp (disch := omega) only [wcQ, wcX, wcG, wcL, wcS, h90_2, w90_2, w90_3, w90_4, w90_7, w90_10, w90_11, w90_14, w90_15, w90_16, w90_17, w90_20, w90_21, w90_24, w90_25, w90_26, w90_29, w90_30, w90_33, w90_34, w90_37, w90_38, w90_39, w90_40, w90_41, w90_44, w90_45, toI, toJ, toI64, inb_T, inb_iZ, Int.toNat_natCast, cl_0, cl_1, cl_2, cl_3, cl_4, cl_5, cl_6, cl_7, cl_8, cl_9, cl_10, cl_11, cl_12, cl_13, cl_14, cl_15, cl_16, cl_17, cl_18, cl_19, cl_20, cl_21, cl_22, cl_23, cl_24, cl_25, cl_26, cl_27, cl_28, cl_29, cl_30, cl_31, cl_32, cl_36, cl_40, cl_48, cl_60, cl_108, cl_120, cl_200, cl_201, cl_576, cl_600, cl_864, cl_900, cl_960, cl_5400, cl_8040, j2_0, iN_iZ, iN_lit0, iZ_add, iZ_sub, iZ_mul, iZ_neg, jZ_add, jZ_sub, jZ_mul, jZ_neg, isB0, isB1, isBZ, eq0, eq1, bZ0, vI_, vJ_, vA_, rI_, rJ_, rA_, rV_, nX_, tX_, true_and, and_true, false_and, and_false, and_self, implies_true, forall_const, not_true_eq_false, not_false_eq_true, false_implies, true_implies, ↓reduceIte, Nat.reduceEqDiff, Int.reduceToNat, Int.reduceAdd, Int.reduceSub, Int.reduceLT, Int.reduceLE, Int.reduceEq, Int.add_zero, Int.neg_zero, Int.add_sub_cancel, Int.reduceNeg, Nat.reduceLeDiff, Nat.reduceSub, true_or, or_true, false_or, or_false, setI_d, setJ_d, setP_d, mI_row, mJ_row, mP_row, mI_row_ne, mJ_row_ne, mP_row_ne, rowI_rowI, rowJ_rowJ, rowI_sort, rowJ_sort, rowJ_rowI, rowP_rowI, rowP_rowJ, fu_app, fu_fu, mI_rowJ, mI_rowP, mJ_rowI, mJ_rowP, mP_rowI, mP_rowJ, mK_rowI, mN_rowI, mK_rowJ, mN_rowJ, mK_rowP, mN_rowP, oB_rowI, oB_rowJ, iA_rowI, iA_rowJ, iR_rowI, iR_rowJ, St_rowI, St_rowJ, K154 hS, O154 hS, P154_0 hS, P154_1 hS, P154_7 hS, P154_8 hS, P154_9 hS, P154_10 hS, P154_11 hS, P154_25 hS, P154_26 hS, P154_27 hS, P154_28 hS, P154_29 hS, P154_30 hS, P154_31 hS, P154_32 hS, P154_33 hS, P154_34 hS, P154_35 hS, P154_36 hS, P154_37 hS, P154_38 hS, P154_39 hS, P154_40 hS, P154_41 hS, P154_46 hS, P154_47 hS, P154_48 hS, P154_49 hS, P154_50 hS, P154_51 hS, P154_52 hS, P154_53 hS, P154_54 hS, P154_55 hS, P154_56 hS, P154_57 hS, P154_58 hS, P154_59 hS, P154_60 hS, P154_61 hS, P154_62 hS, P154_63 hS, P154_64 hS, P154_65 hS, P154_68 hS, P154_69 hS, P154_70 hS, P154_71 hS, P154_72 hS, P154_73 hS, P154_74 hS, P154_75 hS, P154_76 hS, P154_77 hS, P154_78 hS, P154_79 hS, P154_80 hS, P154_81 hS, P154_82 hS, P154_83 hS, P154_84 hS, P154_85 hS, P154_86 hS, P154_87 hS, P154_88 hS, P154_89 hS, K181 hS, O181 hS, A181 hS, K182 hS, O182 hS, A182 hS, K183 hS, O183 hS, A183 hS, K209 hS, O209 hS, A209 hS, rn, hi', m1, m2, m3, c1, eq_true z1', eq_true z2']
            exact hq
          · have z2' : ¬ ((eTl s (uTr s i)).2.2 : Int) = (j : Int) := fun z => z2 (by exact Int.ofNat_inj.mp z)
            simp (disch := omega) only [wcQ, wcX, wcG, wcL, wcS, h90_2, w90_2, w90_3, w90_4, w90_7, w90_10, w90_11, w90_14, w90_15, w90_16, w90_17, w90_20, w90_21, w90_24, w90_25, w90_26, w90_29, w90_30, w90_33, w90_34, w90_37, w90_38, w90_39, w90_40, w90_41, w90_46, w90_49, toI, toJ, toI64, inb_T, inb_iZ, Int.toNat_natCast, cl_0, cl_1, cl_2, cl_3, cl_4, cl_5, cl_6, cl_7, cl_8, cl_9, cl_10, cl_11, cl_12, cl_13, cl_14, cl_15, cl_16, cl_17, cl_18, cl_19, cl_20, cl_21, cl_22, cl_23, cl_24, cl_25, cl_26, cl_27, cl_28, cl_29, cl_30, cl_31, cl_32, cl_36, cl_40, cl_48, cl_60, cl_108, cl_120, cl_200, cl_201, cl_576, cl_600, cl_864, cl_900, cl_960, cl_5400, cl_8040, j2_0, iN_iZ, iN_lit0, iZ_add, iZ_sub, iZ_mul, iZ_neg, jZ_add, jZ_sub, jZ_mul, jZ_neg, isB0, isB1, isBZ, eq0, eq1, bZ0, vI_, vJ_, vA_, rI_, rJ_, rA_, rV_, nX_, tX_, true_and, and_true, false_and, and_false, and_self, implies_true, forall_const, not_true_eq_false, not_false_eq_true, false_implies, true_implies, ↓reduceIte, Nat.reduceEqDiff, Int.reduceToNat, Int.reduceAdd, Int.reduceSub, Int.reduceLT, Int.reduceLE, Int.reduceEq, Int.add_zero, Int.neg_zero, Int.add_sub_cancel, Int.reduceNeg, Nat.reduceLeDiff, Nat.reduceSub, true_or, or_true, false_or, or_false, setI_d, setJ_d, setP_d, mI_row, mJ_row, mP_row, mI_row_ne, mJ_row_ne, mP_row_ne, rowI_rowI, rowJ_rowJ, rowI_sort, rowJ_sort, rowJ_rowI, rowP_rowI, rowP_rowJ, fu_app, fu_fu, mI_rowJ, mI_rowP, mJ_rowI, mJ_rowP, mP_rowI, mP_rowJ, mK_rowI, mN_rowI, mK_rowJ, mN_rowJ, mK_rowP, mN_rowP, oB_rowI, oB_rowJ, iA_rowI, iA_rowJ, iR_rowI, iR_rowJ, St_rowI, St_rowJ, K154 hS, O154 hS, P154_0 hS, P154_1 hS, P154_7 hS, P154_8 hS, P154_9 hS, P154_10 hS, P154_11 hS, P154_25 hS, P154_26 hS, P154_27 hS, P154_28 hS, P154_29 hS, P154_30 hS, P154_31 hS, P154_32 hS, P154_33 hS, P154_34 hS, P154_35 hS, P154_36 hS, P154_37 hS, P154_38 hS, P154_39 hS, P154_40 hS, P154_41 hS, P154_46 hS, P154_47 hS, P154_48 hS, P154_49 hS, P154_50 hS, P154_51 hS, P154_52 hS, P154_53 hS, P154_54 hS, P154_55 hS, P154_56 hS, P154_57 hS, P154_58 hS, P154_59 hS, P154_60 hS, P154_61 hS, P154_62 hS, P154_63 hS, P154_64 hS, P154_65 hS, P154_68 hS, P154_69 hS, P154_70 hS, P154_71 hS, P154_72 hS, P154_73 hS, P154_74 hS, P154_75 hS, P154_76 hS, P154_77 hS, P154_78 hS, P154_79 hS, P154_80 hS, P154_81 hS, P154_82 hS, P154_83 hS, P154_84 hS, P154_85 hS, P154_86 hS, P154_87 hS, P154_88 hS, P154_89 hS, K181 hS, O181 hS, A181 hS, K182 hS, O182 hS, A182 hS, K183 hS, O183 hS, A183 hS, K209 hS, O209 hS, A209 hS, rn, hi', m1, m2, m3, c1, eq_true z1', z2']
            exact K _ _ ⟨rfl, rfl, no (fun z => z2 z.2.1)⟩
        · simp (disch := omega) only [wcQ, wcX, wcG, wcL, wcS, h90_2, w90_2, w90_3, w90_4, w90_7, w90_10, w90_11, w90_14, w90_15, w90_16, w90_17, w90_20, w90_21, w90_24, w90_25, w90_26, w90_46, w90_49, toI, toJ, toI64, inb_T, inb_iZ, Int.toNat_natCast, cl_0, cl_1, cl_2, cl_3, cl_4, cl_5, cl_6, cl_7, cl_8, cl_9, cl_10, cl_11, cl_12, cl_13, cl_14, cl_15, cl_16, cl_17, cl_18, cl_19, cl_20, cl_21, cl_22, cl_23, cl_24, cl_25, cl_26, cl_27, cl_28, cl_29, cl_30, cl_31, cl_32, cl_36, cl_40, cl_48, cl_60, cl_108, cl_120, cl_200, cl_201, cl_576, cl_600, cl_864, cl_900, cl_960, cl_5400, cl_8040, j2_0, iN_iZ, iN_lit0, iZ_add, iZ_sub, iZ_mul, iZ_neg, jZ_add, jZ_sub, jZ_mul, jZ_neg, isB0, isB1, isBZ, eq0, eq1, bZ0, vI_, vJ_, vA_, rI_, rJ_, rA_, rV_, nX_, tX_, true_and, and_true, false_and, and_false, and_self, implies_true, forall_const, not_true_eq_false, not_false_eq_true, false_implies, true_implies, ↓reduceIte, Nat.reduceEqDiff, Int.reduceToNat, Int.reduceAdd, Int.reduceSub, Int.reduceLT, Int.reduceLE, Int.reduceEq, Int.add_zero, Int.neg_zero, Int.add_sub_cancel, Int.reduceNeg, Nat.reduceLeDiff, Nat.reduceSub, true_or, or_true, false_or, or_false, setI_d, setJ_d, setP_d, mI_row, mJ_row, mP_row, mI_row_ne, mJ_row_ne, mP_row_ne, rowI_rowI, rowJ_rowJ, rowI_sort, rowJ_sort, rowJ_rowI, rowP_rowI, rowP_rowJ, fu_app, fu_fu, mI_rowJ, mI_rowP, mJ_rowI, mJ_rowP, mP_rowI, mP_rowJ, mK_rowI, mN_rowI, mK_rowJ, mN_rowJ, mK_rowP, mN_rowP, oB_rowI, oB_rowJ, iA_rowI, iA_rowJ, iR_rowI, iR_rowJ, St_rowI, St_rowJ, K154 hS, O154 hS, P154_0 hS, P154_1 hS, P154_7 hS, P154_8 hS, P154_9 hS, P154_10 hS, P154_11 hS, P154_25 hS, P154_26 hS, P154_27 hS, P154_28 hS, P154_29 hS, P154_30 hS, P154_31 hS, P154_32 hS, P154_33 hS, P154_34 hS, P154_35 hS, P154_36 hS, P154_37 hS, P154_38 hS, P154_39 hS, P154_40 hS, P154_41 hS, P154_46 hS, P154_47 hS, P154_48 hS, P154_49 hS, P154_50 hS, P154_51 hS, P154_52 hS, P154_53 hS, P154_54 hS, P154_55 hS, P154_56 hS, P154_57 hS, P154_58 hS, P154_59 hS, P154_60 hS, P154_61 hS, P154_62 hS, P154_63 hS, P154_64 hS, P154_65 hS, P154_68 hS, P154_69 hS, P154_70 hS, P154_71 hS, P154_72 hS, P154_73 hS, P154_74 hS, P154_75 hS, P154_76 hS, P154_77 hS, P154_78 hS, P154_79 hS, P154_80 hS, P154_81 hS, P154_82 hS, P154_83 hS, P154_84 hS, P154_85 hS, P154_86 hS, P154_87 hS, P154_88 hS, P154_89 hS, K181 hS, O181 hS, A181 hS, K182 hS, O182 hS, A182 hS, K183 hS, O183 hS, A183 hS, K209 hS, O209 hS, A209 hS, rn, hi', m1, m2, m3, c1, eq_true z1']
          exact K _ _ ⟨rfl, rfl, no (fun z => c2 z.2.2)⟩
      · have z1' : ¬ ((eRn s i).2.1 : Int) = (w : Int) := fun z => z1 (by exact Int.ofNat_inj.mp z)
        simp (disch := omega) only [wcQ, wcX, wcG, wcL, wcS, h90_2, w90_2, w90_3, w90_4, w90_7, w90_10, w90_11, w90_14, w90_15, w90_16, w90_17, w90_46, w90_49, toI, toJ, toI64, inb_T, inb_iZ, Int.toNat_natCast, cl_0, cl_1, cl_2, cl_3, cl_4, cl_5, cl_6, cl_7, cl_8, cl_9, cl_10, cl_11, cl_12, cl_13, cl_14, cl_15, cl_16, cl_17, cl_18, cl_19, cl_20, cl_21, cl_22, cl_23, cl_24, cl_25, cl_26, cl_27, cl_28, cl_29, cl_30, cl_31, cl_32, cl_36, cl_40, cl_48, cl_60, cl_108, cl_120, cl_200, cl_201, cl_576, cl_600, cl_864, cl_900, cl_960, cl_5400, cl_8040, j2_0, iN_iZ, iN_lit0, iZ_add, iZ_sub, iZ_mul, iZ_neg, jZ_add, jZ_sub, jZ_mul, jZ_neg, isB0, isB1, isBZ, eq0, eq1, bZ0, vI_, vJ_, vA_, rI_, rJ_, rA_, rV_, nX_, tX_, true_and, and_true, false_and, and_false, and_self, implies_true, forall_const, not_true_eq_false, not_false_eq_true, false_implies, true_implies, ↓reduceIte, Nat.reduceEqDiff, Int.reduceToNat, Int.reduceAdd, Int.reduceSub, Int.reduceLT, Int.reduceLE, Int.reduceEq, Int.add_zero, Int.neg_zero, Int.add_sub_cancel, Int.reduceNeg, Nat.reduceLeDiff, Nat.reduceSub, true_or, or_true, false_or, or_false, setI_d, setJ_d, setP_d, mI_row, mJ_row, mP_row, mI_row_ne, mJ_row_ne, mP_row_ne, rowI_rowI, rowJ_rowJ, rowI_sort, rowJ_sort, rowJ_rowI, rowP_rowI, rowP_rowJ, fu_app, fu_fu, mI_rowJ, mI_rowP, mJ_rowI, mJ_rowP, mP_rowI, mP_rowJ, mK_rowI, mN_rowI, mK_rowJ, mN_rowJ, mK_rowP, mN_rowP, oB_rowI, oB_rowJ, iA_rowI, iA_rowJ, iR_rowI, iR_rowJ, St_rowI, St_rowJ, K154 hS, O154 hS, P154_0 hS, P154_1 hS, P154_7 hS, P154_8 hS, P154_9 hS, P154_10 hS, P154_11 hS, P154_25 hS, P154_26 hS, P154_27 hS, P154_28 hS, P154_29 hS, P154_30 hS, P154_31 hS, P154_32 hS, P154_33 hS, P154_34 hS, P154_35 hS, P154_36 hS, P154_37 hS, P154_38 hS, P154_39 hS, P154_40 hS, P154_41 hS, P154_46 hS, P154_47 hS, P154_48 hS, P154_49 hS, P154_50 hS, P154_51 hS, P154_52 hS, P154_53 hS, P154_54 hS, P154_55 hS, P154_56 hS, P154_57 hS, P154_58 hS, P154_59 hS, P154_60 hS, P154_61 hS, P154_62 hS, P154_63 hS, P154_64 hS, P154_65 hS, P154_68 hS, P154_69 hS, P154_70 hS, P154_71 hS, P154_72 hS, P154_73 hS, P154_74 hS, P154_75 hS, P154_76 hS, P154_77 hS, P154_78 hS, P154_79 hS, P154_80 hS, P154_81 hS, P154_82 hS, P154_83 hS, P154_84 hS, P154_85 hS, P154_86 hS, P154_87 hS, P154_88 hS, P154_89 hS, K181 hS, O181 hS, A181 hS, K182 hS, O182 hS, A182 hS, K183 hS, O183 hS, A183 hS, K209 hS, O209 hS, A209 hS, rn, hi', m1, m2, m3, z1']
        exact K _ _ ⟨rfl, rfl, no (fun z => z1 z.1)⟩
    · intro ls M' ⟨hl, hM', hn⟩
      have hM' := hM'.symm
      subst hl hM'
      have hi' : ¬ (nRn s : Int) < nRn s := by omega
      have hq := h1 hn
      refine wp1_go (n := 2000) ?_
      simp (disch := omega) only [wcQ, wcX, wcG, wcL, wcS, h90_2, w90_2, w90_3, w90_4, w90_7, w90_52, w90_53, toI, toJ, toI64, inb_T, inb_iZ, Int.toNat_natCast, cl_0, cl_1, cl_2, cl_3, cl_4, cl_5, cl_6, cl_7, cl_8, cl_9, cl_10, cl_11, cl_12, cl_13, cl_14, cl_15, cl_16, cl_17, cl_18, cl_19, cl_20, cl_21, cl_22, cl_23, cl_24, cl_25, cl_26, cl_27, cl_28, cl_29, cl_30, cl_31, cl_32, cl_36, cl_40, cl_48, cl_60, cl_108, cl_120, cl_200, cl_201, cl_576, cl_600, cl_864, cl_900, cl_960, cl_5400, cl_8040, j2_0, iN_iZ, iN_lit0, iZ_add, iZ_sub, iZ_mul, iZ_neg, jZ_add, jZ_sub, jZ_mul, jZ_neg, isB0, isB1, isBZ, eq0, eq1, bZ0, vI_, vJ_, vA_, rI_, rJ_, rA_, rV_, nX_, tX_, true_and, and_true, false_and, and_false, and_self, implies_true, forall_const, not_true_eq_false, not_false_eq_true, false_implies, true_implies, ↓reduceIte, Nat.reduceEqDiff, Int.reduceToNat, Int.reduceAdd, Int.reduceSub, Int.reduceLT, Int.reduceLE, Int.reduceEq, Int.add_zero, Int.neg_zero, Int.add_sub_cancel, Int.reduceNeg, Nat.reduceLeDiff, Nat.reduceSub, true_or, or_true, false_or, or_false, setI_d, setJ_d, setP_d, mI_row, mJ_row, mP_row, mI_row_ne, mJ_row_ne, mP_row_ne, rowI_rowI, rowJ_rowJ, rowI_sort, rowJ_sort, rowJ_rowI, rowP_rowI, rowP_rowJ, fu_app, fu_fu, mI_rowJ, mI_rowP, mJ_rowI, mJ_rowP, mP_rowI, mP_rowJ, mK_rowI, mN_rowI, mK_rowJ, mN_rowJ, mK_rowP, mN_rowP, oB_rowI, oB_rowJ, iA_rowI, iA_rowJ, iR_rowI, iR_rowJ, St_rowI, St_rowJ, K154 hS, O154 hS, P154_0 hS, P154_1 hS, P154_7 hS, P154_8 hS, P154_9 hS, P154_10 hS, P154_11 hS, P154_25 hS, P154_26 hS, P154_27 hS, P154_28 hS, P154_29 hS, P154_30 hS, P154_31 hS, P154_32 hS, P154_33 hS, P154_34 hS, P154_35 hS, P154_36 hS, P154_37 hS, P154_38 hS, P154_39 hS, P154_40 hS, P154_41 hS, P154_46 hS, P154_47 hS, P154_48 hS, P154_49 hS, P154_50 hS, P154_51 hS, P154_52 hS, P154_53 hS, P154_54 hS, P154_55 hS, P154_56 hS, P154_57 hS, P154_58 hS, P154_59 hS, P154_60 hS, P154_61 hS, P154_62 hS, P154_63 hS, P154_64 hS, P154_65 hS, P154_68 hS, P154_69 hS, P154_70 hS, P154_71 hS, P154_72 hS, P154_73 hS, P154_74 hS, P154_75 hS, P154_76 hS, P154_77 hS, P154_78 hS, P154_79 hS, P154_80 hS, P154_81 hS, P154_82 hS, P154_83 hS, P154_84 hS, P154_85 hS, P154_86 hS, P154_87 hS, P154_88 hS, P154_89 hS, rn, hi']
      exact hq
  exact key _ (fun h => ⟨_, rfl, rfl, Or.inl ⟨rfl, h⟩⟩) (fun i h1 h2 h3 => ⟨_, rfl, rfl, Or.inr ⟨i, rfl, h1, h2, h3⟩⟩)
/-- but for what scale works out all is as it was -/
def FQ (M M' : Mem) : Prop := mK M' = mK M ∧ mN M' = mN M ∧ mP M' = mP M ∧ (∀ c, (c < 215 ∨ 217 < c) → mJ M' c = mJ M c) ∧ ∀ c, (c < 218 ∨ 220 < c) → mI M' c = mI M c
theorem FQ_rfl : FQ M M := ⟨rfl, rfl, rfl, fun _ _ => rfl, fun _ _ => rfl⟩
theorem FQ_tr (h : FQ M M') (h' : FQ M' M'') : FQ M M'' := by
  obtain ⟨a1, a2, a3, a4, a5⟩ := h
  obtain ⟨b1, b2, b3, b4, b5⟩ := h'
  exact ⟨b1.trans a1, b2.trans a2, b3.trans a3, fun c h => (b4 c h).trans (a4 c h), fun c h1 => (b5 c h1).trans (a5 c h1)⟩
theorem FQ_row {c : Nat} {f : Nat → Int32} (h : 218 ≤ c) (h2 : c ≤ 220) : FQ M (rowI M c f) := ⟨rfl, rfl, rfl, fun _ _ => rfl, fun y h1 => mI_row_ne (by omega)⟩
theorem FQ_rowJ {c : Nat} {f : Nat → Int64} (h : 215 ≤ c) (h2 : c ≤ 217) : FQ M (rowJ M c f) := ⟨rfl, rfl, rfl, fun y h1 => mJ_row_ne (by omega), fun y h1 => rfl⟩
theorem FQ_S (h : FQ M M') (hS : Static M) : Static M' := by
  obtain ⟨a1, a2, a3, _⟩ := h
  unfold Static at *
  rw [a1, a2, a3]
  exact hS
theorem FQ_GJ (h : FQ M M') : GJ M M' := ⟨fun j hj => by rw [h.2.2.2.2 154 (by omega)], fun c h1 h2 _ _ => h.2.2.2.2 c (by omega)⟩
def XW (M : Mem) (W : Nat → Nat → Int) : Prop := ∀ i j, i < 6 → j < 6 → mJ M 215 (6 * i + j) = jZ (W i j)
def XR (M : Mem) (r : Nat → Int) : Prop := ∀ j, j < 6 → mJ M 216 j = jZ (r j)
def XG (M : Mem) (g : Nat → Nat) : Prop := ∀ j, j < 6 → mI M 218 j = iZ (g j)
def XH (M : Mem) (h : Nat → Int) : Prop := ∀ j, j < 6 → mI M 219 j = iZ (h j)
def up1 (r : Nat → Int) (a b : Nat) (y z : Int) (x : Nat) : Int := r x + (if x = a then y else 0) + (if x = b then z else 0)
def up2 (W : Nat → Nat → Int) (a b x y : Nat) : Int := W x y + if (x = a ∧ y = b) ∨ (x = b ∧ y = a) then 1 else 0
theorem c91 (hst : (gl G).stackTraces = false) (hS : Static M) (hW : XW M W) (hR : XR M r) (hG : XG M g) (hH : XH M h) (hg : ∀ j, j < 6 → g j < 6) (ha : a < 6) (hb : b < 6) (hab : a ≠ b) (z1 : -10000 ≤ z) (z2 : z ≤ 10000) : Ev G (d + 2) 91 [aR (some 154), aI (iZ a), aI (iZ b), aI (iZ z)] M 0 (rV fun M' => FQ M M' ∧ XW M' (up2 W a b) ∧ XR M' (up1 r a b z (-z)) ∧ XG M' (mgG g a b) ∧ XH M' (up1 h a b 1 1)) nX := by
  have w1 := hW a b ha hb
  have w2 := hW b a hb ha
  have r1 := hR a ha
  have r2 := hR b hb
  have g1 := hG a ha
  have g2 := hG b hb
  have h1 := hH a ha
  have h2 := hH b hb
  have ga := hg a ha
  have gb := hg b hb
  have i1 : ((6 : Int) * a + b).toNat = 6 * a + b := by omega
  have i2 : ((6 : Int) * b + a).toNat = 6 * b + a := by omega
  have ne1 : ¬ (6 * b + a = 6 * a + b) := by omega
  have ne2 : ¬ b = a := fun z => hab z.symm
  refine Ev_wp 2000 hst (by decide) (Nat.le_of_ble_eq_true rfl) ?_; simp (disch := omega) only [en91, wcQ, wcX, wcG, wcL, wcS, w91_0, w91_1, w91_4, w91_6, w91_7, w91_8, w91_9, w91_10, w91_11, w91_12, w91_13, w91_14, w91_15, w91_16, w91_19, w91_21, w91_22, w91_23, w91_24, w91_25, w91_26, w91_27, w91_28, w91_29, w91_30, w91_31, w91_34, w91_35, w91_36, w91_37, w91_38, w91_39, w91_40, w91_41, w91_42, w91_45, w91_46, w91_47, w91_48, w91_49, w91_50, w91_51, w91_52, w91_53, w91_56, w91_57, w91_58, w91_59, w91_60, w91_61, w91_62, w91_63, w91_66, w91_67, w91_68, w91_69, w91_70, w91_71, w91_72, w91_73, w91_76, w91_77, w91_78, w91_79, w91_82, w91_83, w91_84, toI, toJ, toI64, inb_T, inb_iZ, Int.toNat_natCast, cl_0, cl_1, cl_2, cl_3, cl_4, cl_5, cl_6, cl_7, cl_8, cl_9, cl_10, cl_11, cl_12, cl_13, cl_14, cl_15, cl_16, cl_17, cl_18, cl_19, cl_20, cl_21, cl_22, cl_23, cl_24, cl_25, cl_26, cl_27, cl_28, cl_29, cl_30, cl_31, cl_32, cl_36, cl_40, cl_48, cl_60, cl_108, cl_120, cl_200, cl_201, cl_576, cl_600, cl_864, cl_900, cl_960, cl_5400, cl_8040, j2_0, iN_iZ, iN_lit0, iZ_add, iZ_sub, iZ_mul, iZ_neg, jZ_add, jZ_sub, jZ_mul, jZ_neg, isB0, isB1, isBZ, eq0, eq1, bZ0, vI_, vJ_, vA_, rI_, rJ_, rA_, rV_, nX_, tX_, true_and, and_true, false_and, and_false, and_self, implies_true, forall_const, not_true_eq_false, not_false_eq_true, false_implies, true_implies, ↓reduceIte, Nat.reduceEqDiff, Int.reduceToNat, Int.reduceAdd, Int.reduceSub, Int.reduceLT, Int.reduceLE, Int.reduceEq, Int.add_zero, Int.neg_zero, Int.add_sub_cancel, Int.reduceNeg, Nat.reduceLeDiff, Nat.reduceSub, true_or, or_true, false_or, or_false, setI_d, setJ_d, setP_d, mI_row, mJ_row, mP_row, mI_row_ne, mJ_row_ne, mP_row_ne, rowI_rowI, rowJ_rowJ, rowI_sort, rowJ_sort, rowJ_rowI, rowP_rowI, rowP_rowJ, fu_app, fu_fu, mI_rowJ, mI_rowP, mJ_rowI, mJ_rowP, mP_rowI, mP_rowJ, mK_rowI, mN_rowI, mK_rowJ, mN_rowJ, mK_rowP, mN_rowP, oB_rowI, oB_rowJ, iA_rowI, iA_rowJ, iR_rowI, iR_rowJ, St_rowI, St_rowJ, K154 hS, O154 hS, P154_0 hS, P154_1 hS, P154_7 hS, P154_8 hS, P154_9 hS, P154_10 hS, P154_11 hS, P154_25 hS, P154_26 hS, P154_27 hS, P154_28 hS, P154_29 hS, P154_30 hS, P154_31 hS, P154_32 hS, P154_33 hS, P154_34 hS, P154_35 hS, P154_36 hS, P154_37 hS, P154_38 hS, P154_39 hS, P154_40 hS, P154_41 hS, P154_46 hS, P154_47 hS, P154_48 hS, P154_49 hS, P154_50 hS, P154_51 hS, P154_52 hS, P154_53 hS, P154_54 hS, P154_55 hS, P154_56 hS, P154_57 hS, P154_58 hS, P154_59 hS, P154_60 hS, P154_61 hS, P154_62 hS, P154_63 hS, P154_64 hS, P154_65 hS, P154_68 hS, P154_69 hS, P154_70 hS, P154_71 hS, P154_72 hS, P154_73 hS, P154_74 hS, P154_75 hS, P154_76 hS, P154_77 hS, P154_78 hS, P154_79 hS, P154_80 hS, P154_81 hS, P154_82 hS, P154_83 hS, P154_84 hS, P154_85 hS, P154_86 hS, P154_87 hS, P154_88 hS, P154_89 hS, K215 hS, O215 hS, A215 hS, K216 hS, O216 hS, A216 hS, K218 hS, O218 hS, A218 hS, K219 hS, O219 hS, A219 hS, P154_84 hS, P154_85 hS, P154_87 hS, P154_88 hS, w1, w2, r1, r2, g1, g2, h1, h2, i1, i2, ne1, ne2]
  obtain ⟨M1, hM1⟩ : ∃ M1, M1 = rowI (rowJ (rowJ M 215 (fu (fu (mJ M 215) (6 * a + b) (jZ (W a b + 1))) (6 * b + a) (jZ (W b a + 1)))) 216 (fu (fu (mJ M 216) a (jZ (r a + z))) b (jZ (r b - z)))) 219 (fu (fu (mI M 219) a (iZ (h a + 1))) b (iZ (h b + 1))) := ⟨_, rfl⟩
  rw [← hM1]
  have F1 : FQ M M1 := by rw [hM1]; exact FQ_tr (FQ_tr (FQ_rowJ (by omega) (by omega)) (FQ_rowJ (by omega) (by omega))) (FQ_row (by omega) (by omega))
  have S1 := FQ_S F1 hS
  have J215 : mJ M1 215 = fu (fu (mJ M 215) (6 * a + b) (jZ (W a b + 1))) (6 * b + a) (jZ (W b a + 1)) := by rw [hM1, mJ_rowI, mJ_row_ne (by decide), mJ_row]
  have J216 : mJ M1 216 = fu (fu (mJ M 216) a (jZ (r a + z))) b (jZ (r b - z)) := by rw [hM1, mJ_rowI, mJ_row]
  have I219 : mI M1 219 = fu (fu (mI M 219) a (iZ (h a + 1))) b (iZ (h b + 1)) := by rw [hM1, mI_row]
  have I218 : mI M1 218 = mI M 218 := by rw [hM1, mI_row_ne (by decide)]; rfl
  have W1 : XW M1 (up2 W a b) := fun x y hx hy => by
    rw [J215]
    unfold up2
    show (if 6 * x + y = 6 * b + a then _ else (if 6 * x + y = 6 * a + b then _ else mJ M 215 (6 * x + y))) = _
    by_cases q1 : x = a ∧ y = b
    · obtain ⟨rfl, rfl⟩ := q1
      rw [if_neg (by omega), if_pos rfl, if_pos (Or.inl ⟨rfl, rfl⟩)]
    · by_cases q2 : x = b ∧ y = a
      · obtain ⟨rfl, rfl⟩ := q2
        rw [if_pos rfl, if_pos (Or.inr ⟨rfl, rfl⟩)]
      · rw [if_neg (by omega), if_neg (by omega), if_neg (by omega), Int.add_zero]; exact hW x y hx hy
  have R1 : XR M1 (up1 r a b z (-z)) := fun x hx => by
    rw [J216]
    unfold up1
    show (if x = b then _ else (if x = a then _ else mJ M 216 x)) = _
    by_cases q1 : x = b
    · subst q1
      rw [if_pos rfl, if_neg (by omega), if_pos rfl]; congr 1; omega
    · by_cases q2 : x = a
      · subst q2
        rw [if_neg q1, if_pos rfl, if_pos rfl, if_neg q1]; congr 1; omega
      · rw [if_neg q1, if_neg q2, if_neg q2, if_neg q1, hR x hx]; congr 1; omega
  have H1 : XH M1 (up1 h a b 1 1) := fun x hx => by
    rw [I219]
    unfold up1
    show (if x = b then _ else (if x = a then _ else mI M 219 x)) = _
    by_cases q1 : x = b
    · subst q1
      rw [if_pos rfl, if_neg (by omega), if_pos rfl]; congr 1; omega
    · by_cases q2 : x = a
      · subst q2
        rw [if_neg q1, if_pos rfl, if_pos rfl, if_neg q1]; congr 1; omega
      · rw [if_neg q1, if_neg q2, if_neg q2, if_neg q1, hH x hx]; congr 1; omega
  have G1 : XG M1 g := fun x hx => by rw [I218]; exact hG x hx
  clear hM1 J215 J216 I219 I218
  have e5 := jd5 (G := G) (d := d) (M := M1) (x := g a) (y := g b) hst (by omega) (by omega) (by omega) (by omega)
  have e4 := jd4 (G := G) (d := d) (M := M1) (x := g a) (y := g b) hst (by omega) (by omega) (by omega) (by omega)
  have h5 : (if (g b : Int) < g a then (g b : Int) else g a) = (min (g a) (g b) : Nat) := by split <;> omega
  have h4 : (if (g a : Int) < g b then (g b : Int) else g a) = (max (g a) (g b) : Nat) := by split <;> omega
  rw [h5] at e5
  rw [h4] at e4
  obtain ⟨lo, hlo⟩ : ∃ lo, lo = min (g a) (g b) := ⟨_, rfl⟩
  obtain ⟨hi, hhi⟩ : ∃ hi, hi = max (g a) (g b) := ⟨_, rfl⟩
  rw [← hlo] at e5
  rw [← hhi] at e4
  have hm : ∀ x, mgG g a b x = if g x = hi then lo else g x := fun x => by unfold mgG; rw [← hhi, ← hlo]
  have hi6 : hi < 6 := by omega
  have lo6 : lo < 6 := by omega
  have g1 := G1 a ha
  have g2 := G1 b hb
  refine kI0 e5 ?_
  simp (disch := omega) only [wcQ, wcX, wcG, wcL, wcS, w91_87, w91_89, w91_90, w91_93, w91_94, w91_95, w91_96, w91_99, w91_100, w91_101, toI, toJ, toI64, inb_T, inb_iZ, Int.toNat_natCast, cl_0, cl_1, cl_2, cl_3, cl_4, cl_5, cl_6, cl_7, cl_8, cl_9, cl_10, cl_11, cl_12, cl_13, cl_14, cl_15, cl_16, cl_17, cl_18, cl_19, cl_20, cl_21, cl_22, cl_23, cl_24, cl_25, cl_26, cl_27, cl_28, cl_29, cl_30, cl_31, cl_32, cl_36, cl_40, cl_48, cl_60, cl_108, cl_120, cl_200, cl_201, cl_576, cl_600, cl_864, cl_900, cl_960, cl_5400, cl_8040, j2_0, iN_iZ, iN_lit0, iZ_add, iZ_sub, iZ_mul, iZ_neg, jZ_add, jZ_sub, jZ_mul, jZ_neg, isB0, isB1, isBZ, eq0, eq1, bZ0, vI_, vJ_, vA_, rI_, rJ_, rA_, rV_, nX_, tX_, true_and, and_true, false_and, and_false, and_self, implies_true, forall_const, not_true_eq_false, not_false_eq_true, false_implies, true_implies, ↓reduceIte, Nat.reduceEqDiff, Int.reduceToNat, Int.reduceAdd, Int.reduceSub, Int.reduceLT, Int.reduceLE, Int.reduceEq, Int.add_zero, Int.neg_zero, Int.add_sub_cancel, Int.reduceNeg, Nat.reduceLeDiff, Nat.reduceSub, true_or, or_true, false_or, or_false, setI_d, setJ_d, setP_d, mI_row, mJ_row, mP_row, mI_row_ne, mJ_row_ne, mP_row_ne, rowI_rowI, rowJ_rowJ, rowI_sort, rowJ_sort, rowJ_rowI, rowP_rowI, rowP_rowJ, fu_app, fu_fu, mI_rowJ, mI_rowP, mJ_rowI, mJ_rowP, mP_rowI, mP_rowJ, mK_rowI, mN_rowI, mK_rowJ, mN_rowJ, mK_rowP, mN_rowP, oB_rowI, oB_rowJ, iA_rowI, iA_rowJ, iR_rowI, iR_rowJ, St_rowI, St_rowJ, K154 S1, O154 S1, P154_87 S1, K218 S1, O218 S1, A218 S1, g1, g2]
  refine kI0 e4 ?_
  simp (disch := omega) only [wcQ, wcX, wcG, wcL, wcS, w91_104, w91_106, w91_107, h91_109, w91_109, toI, toJ, toI64, inb_T, inb_iZ, Int.toNat_natCast, cl_0, cl_1, cl_2, cl_3, cl_4, cl_5, cl_6, cl_7, cl_8, cl_9, cl_10, cl_11, cl_12, cl_13, cl_14, cl_15, cl_16, cl_17, cl_18, cl_19, cl_20, cl_21, cl_22, cl_23, cl_24, cl_25, cl_26, cl_27, cl_28, cl_29, cl_30, cl_31, cl_32, cl_36, cl_40, cl_48, cl_60, cl_108, cl_120, cl_200, cl_201, cl_576, cl_600, cl_864, cl_900, cl_960, cl_5400, cl_8040, j2_0, iN_iZ, iN_lit0, iZ_add, iZ_sub, iZ_mul, iZ_neg, jZ_add, jZ_sub, jZ_mul, jZ_neg, isB0, isB1, isBZ, eq0, eq1, bZ0, vI_, vJ_, vA_, rI_, rJ_, rA_, rV_, nX_, tX_, true_and, and_true, false_and, and_false, and_self, implies_true, forall_const, not_true_eq_false, not_false_eq_true, false_implies, true_implies, ↓reduceIte, Nat.reduceEqDiff, Int.reduceToNat, Int.reduceAdd, Int.reduceSub, Int.reduceLT, Int.reduceLE, Int.reduceEq, Int.add_zero, Int.neg_zero, Int.add_sub_cancel, Int.reduceNeg, Nat.reduceLeDiff, Nat.reduceSub, true_or, or_true, false_or, or_false, setI_d, setJ_d, setP_d, mI_row, mJ_row, mP_row, mI_row_ne, mJ_row_ne, mP_row_ne, rowI_rowI, rowJ_rowJ, rowI_sort, rowJ_sort, rowJ_rowI, rowP_rowI, rowP_rowJ, fu_app, fu_fu, mI_rowJ, mI_rowP, mJ_rowI, mJ_rowP, mP_rowI, mP_rowJ, mK_rowI, mN_rowI, mK_rowJ, mN_rowJ, mK_rowP, mN_rowP, oB_rowI, oB_rowJ, iA_rowI, iA_rowJ, iR_rowI, iR_rowJ, St_rowI, St_rowJ]
  refine loopN 6 (fun i ls M' => ls = [aR (some 154), aI (iZ a), aI (iZ b), aI (iZ z), aI (iZ lo), aI (iZ hi), aI (iZ i)] ∧ ∃ f, M' = rowI M1 218 f ∧ ∀ j, j < 6 → f j = iZ (if j < i then mgG g a b j else g j)) ⟨rfl, mI M1 218, rowI_mI.symm, fun j hj => by rw [if_neg (by omega)]; exact G1 j hj⟩ ?_ ?_
  · intro i hi' ls Mi ⟨hl, f, hM, hf⟩ K
    subst hl
    have Si : Static Mi := by rw [hM]; exact S1
    have hi2 : (i : Int) < 6 := by omega
    have fi : mI Mi 218 i = iZ (g i) := by rw [hM, mI_row, hf i hi', if_neg (by omega)]
    have gi := hg i hi'
    have fin : ∀ v : Nat, v = mgG g a b i → ∀ j, j < 6 → fu f i (iZ v) j = iZ (if j < i + 1 then mgG g a b j else g j) := fun v hv j hj => by
      by_cases z : j = i
      · subst z
        rw [if_pos (by omega), ← hv]; exact if_pos rfl
      · refine (if_neg z).trans ((hf j hj).trans ?_)
        by_cases y : j < i
        · rw [if_pos y, if_pos (by omega)]
        · rw [if_neg y, if_neg (by omega)]
    refine wp1_go (n := 2000) ?_
    by_cases w : g i = hi
    · have w' : (g i : Int) = (hi : Int) := by omega
      simp (disch := omega) only [wcQ, wcX, wcG, wcL, wcS, h91_109, w91_109, w91_111, w91_113, w91_116, w91_117, w91_120, w91_122, w91_123, w91_126, w91_128, w91_129, w91_131, w91_134, w91_136, w91_146, w91_147, w91_150, toI, toJ, toI64, inb_T, inb_iZ, Int.toNat_natCast, cl_0, cl_1, cl_2, cl_3, cl_4, cl_5, cl_6, cl_7, cl_8, cl_9, cl_10, cl_11, cl_12, cl_13, cl_14, cl_15, cl_16, cl_17, cl_18, cl_19, cl_20, cl_21, cl_22, cl_23, cl_24, cl_25, cl_26, cl_27, cl_28, cl_29, cl_30, cl_31, cl_32, cl_36, cl_40, cl_48, cl_60, cl_108, cl_120, cl_200, cl_201, cl_576, cl_600, cl_864, cl_900, cl_960, cl_5400, cl_8040, j2_0, iN_iZ, iN_lit0, iZ_add, iZ_sub, iZ_mul, iZ_neg, jZ_add, jZ_sub, jZ_mul, jZ_neg, isB0, isB1, isBZ, eq0, eq1, bZ0, vI_, vJ_, vA_, rI_, rJ_, rA_, rV_, nX_, tX_, true_and, and_true, false_and, and_false, and_self, implies_true, forall_const, not_true_eq_false, not_false_eq_true, false_implies, true_implies, ↓reduceIte, Nat.reduceEqDiff, Int.reduceToNat, Int.reduceAdd, Int.reduceSub, Int.reduceLT, Int.reduceLE, Int.reduceEq, Int.add_zero, Int.neg_zero, Int.add_sub_cancel, Int.reduceNeg, Nat.reduceLeDiff, Nat.reduceSub, true_or, or_true, false_or, or_false, setI_d, setJ_d, setP_d, mI_row, mJ_row, mP_row, mI_row_ne, mJ_row_ne, mP_row_ne, rowI_rowI, rowJ_rowJ, rowI_sort, rowJ_sort, rowJ_rowI, rowP_rowI, rowP_rowJ, fu_app, fu_fu, mI_rowJ, mI_rowP, mJ_rowI, mJ_rowP, mP_rowI, mP_rowJ, mK_rowI, mN_rowI, mK_rowJ, mN_rowJ, mK_rowP, mN_rowP, oB_rowI, oB_rowJ, iA_rowI, iA_rowJ, iR_rowI, iR_rowJ, St_rowI, St_rowJ, K154 Si, O154 Si, P154_87 Si, K218 Si, O218 Si, A218 Si, hi2, fi, eq_true w']
      exact K _ _ ⟨rfl, fu f i (iZ lo), by rw [hM, mI_row, rowI_rowI], fin lo (by rw [hm, if_pos w])⟩
    · have w' : ¬ (g i : Int) = (hi : Int) := by omega
      simp (disch := omega) only [wcQ, wcX, wcG, wcL, wcS, h91_109, w91_109, w91_111, w91_113, w91_116, w91_117, w91_120, w91_122, w91_123, w91_126, w91_128, w91_129, w91_131, w91_139, w91_140, w91_143, w91_145, w91_146, w91_147, w91_150, toI, toJ, toI64, inb_T, inb_iZ, Int.toNat_natCast, cl_0, cl_1, cl_2, cl_3, cl_4, cl_5, cl_6, cl_7, cl_8, cl_9, cl_10, cl_11, cl_12, cl_13, cl_14, cl_15, cl_16, cl_17, cl_18, cl_19, cl_20, cl_21, cl_22, cl_23, cl_24, cl_25, cl_26, cl_27, cl_28, cl_29, cl_30, cl_31, cl_32, cl_36, cl_40, cl_48, cl_60, cl_108, cl_120, cl_200, cl_201, cl_576, cl_600, cl_864, cl_900, cl_960, cl_5400, cl_8040, j2_0, iN_iZ, iN_lit0, iZ_add, iZ_sub, iZ_mul, iZ_neg, jZ_add, jZ_sub, jZ_mul, jZ_neg, isB0, isB1, isBZ, eq0, eq1, bZ0, vI_, vJ_, vA_, rI_, rJ_, rA_, rV_, nX_, tX_, true_and, and_true, false_and, and_false, and_self, implies_true, forall_const, not_true_eq_false, not_false_eq_true, false_implies, true_implies, ↓reduceIte, Nat.reduceEqDiff, Int.reduceToNat, Int.reduceAdd, Int.reduceSub, Int.reduceLT, Int.reduceLE, Int.reduceEq, Int.add_zero, Int.neg_zero, Int.add_sub_cancel, Int.reduceNeg, Nat.reduceLeDiff, Nat.reduceSub, true_or, or_true, false_or, or_false, setI_d, setJ_d, setP_d, mI_row, mJ_row, mP_row, mI_row_ne, mJ_row_ne, mP_row_ne, rowI_rowI, rowJ_rowJ, rowI_sort, rowJ_sort, rowJ_rowI, rowP_rowI, rowP_rowJ, fu_app, fu_fu, mI_rowJ, mI_rowP, mJ_rowI, mJ_rowP, mP_rowI, mP_rowJ, mK_rowI, mN_rowI, mK_rowJ, mN_rowJ, mK_rowP, mN_rowP, oB_rowI, oB_rowJ, iA_rowI, iA_rowJ, iR_rowI, iR_rowJ, St_rowI, St_rowJ, K154 Si, O154 Si, P154_87 Si, K218 Si, O218 Si, A218 Si, hi2, fi, w']
      exact K _ _ ⟨rfl, fu f i (iZ (g i)), by rw [hM, mI_row, rowI_rowI], fin (g i) (by rw [hm, if_neg w])⟩
  · intro ls Mi ⟨hl, f, hM, hf⟩
    subst hl
    refine wp1_go (n := 2000) ?_
    simp (disch := omega) only [wcQ, wcX, wcG, wcL, wcS, h91_109, w91_109, w91_111, w91_113, w91_153, toI, toJ, toI64, inb_T, inb_iZ, Int.toNat_natCast, cl_0, cl_1, cl_2, cl_3, cl_4, cl_5, cl_6, cl_7, cl_8, cl_9, cl_10, cl_11, cl_12, cl_13, cl_14, cl_15, cl_16, cl_17, cl_18, cl_19, cl_20, cl_21, cl_22, cl_23, cl_24, cl_25, cl_26, cl_27, cl_28, cl_29, cl_30, cl_31, cl_32, cl_36, cl_40, cl_48, cl_60, cl_108, cl_120, cl_200, cl_201, cl_576, cl_600, cl_864, cl_900, cl_960, cl_5400, cl_8040, j2_0, iN_iZ, iN_lit0, iZ_add, iZ_sub, iZ_mul, iZ_neg, jZ_add, jZ_sub, jZ_mul, jZ_neg, isB0, isB1, isBZ, eq0, eq1, bZ0, vI_, vJ_, vA_, rI_, rJ_, rA_, rV_, nX_, tX_, true_and, and_true, false_and, and_false, and_self, implies_true, forall_const, not_true_eq_false, not_false_eq_true, false_implies, true_implies, ↓reduceIte, Nat.reduceEqDiff, Int.reduceToNat, Int.reduceAdd, Int.reduceSub, Int.reduceLT, Int.reduceLE, Int.reduceEq, Int.add_zero, Int.neg_zero, Int.add_sub_cancel, Int.reduceNeg, Nat.reduceLeDiff, Nat.reduceSub, true_or, or_true, false_or, or_false, setI_d, setJ_d, setP_d, mI_row, mJ_row, mP_row, mI_row_ne, mJ_row_ne, mP_row_ne, rowI_rowI, rowJ_rowJ, rowI_sort, rowJ_sort, rowJ_rowI, rowP_rowI, rowP_rowJ, fu_app, fu_fu, mI_rowJ, mI_rowP, mJ_rowI, mJ_rowP, mP_rowI, mP_rowJ, mK_rowI, mN_rowI, mK_rowJ, mN_rowJ, mK_rowP, mN_rowP, oB_rowI, oB_rowJ, iA_rowI, iA_rowJ, iR_rowI, iR_rowJ, St_rowI, St_rowJ]
    refine ⟨FQ_tr F1 (by rw [hM]; exact FQ_row (by omega) (by omega)), fun x y hx hy => by rw [hM]; exact W1 x y hx hy, fun x hx => by rw [hM]; exact R1 x hx, fun j hj => by rw [hM, mI_row, hf j hj, if_pos hj], fun x hx => by rw [hM, mI_row_ne (by decide)]; exact H1 x hx⟩
end

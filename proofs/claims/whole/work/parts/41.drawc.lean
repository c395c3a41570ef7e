/-! draw: the class's side. -/
section
variable {G : GE} {d : Nat} {M : Mem}
def roomOk (op nx : Nat → Nat) (place g n : Nat) (j : Nat) : Prop := ∀ k, k < j → 0 < op k → (if place < nx k then nx k else place) + (op k - 1) * g < n
theorem c215 (hst : (gl G).stackTraces = false) (hS : Static M) {n place g : Nat} {op nx : Nat → Nat} (n8 : n ≤ 8) (hp : place ≤ 8) (g8 : g ≤ 8) (hn : mI M 146 0 = iZ n) (hg : mI M 146 9 = iZ g) (ho : ∀ k, k < 12 → mI M 152 k = iZ (op k)) (hx : ∀ k, k < 12 → mI M 153 k = iZ (nx k)) (bo : ∀ k, k < 12 → op k ≤ 8) (bx : ∀ k, k < 12 → nx k ≤ 16) : Ev G (d + 2) 215 [aR (some 146), aI (iZ place)] M 0 (rI fun v M' => M' = M ∧ ((v = iZ 1 ∧ roomOk op nx place g n 12) ∨ (v = iZ 0 ∧ ¬ roomOk op nx place g n 12))) nX := by
  refine Ev_wp 2000 hst (by decide) (Nat.le_of_ble_eq_true rfl) ?_; simp (disch := omega) only [en215, wcQ, wcX, wcG, wcL, wcS, w215_0, w215_1, h215_2, w215_2, w215_3, w215_5, w215_8, w215_9, w215_10, w215_13, w215_14, w215_15, w215_18, w215_19, w215_22, w215_23, w215_24, w215_25, w215_26, w215_27, w215_30, w215_31, w215_32, w215_33, w215_34, w215_37, w215_38, w215_39, w215_42, w215_43, w215_44, w215_47, w215_50, w215_51, w215_52, w215_55, w215_58, w215_59, toI, toJ, toI64, inb_T, inb_iZ, Int.toNat_natCast, cl_0, cl_1, cl_2, cl_3, cl_4, cl_5, cl_6, cl_7, cl_8, cl_9, cl_10, cl_11, cl_12, cl_13, cl_14, cl_15, cl_16, cl_17, cl_18, cl_19, cl_20, cl_21, cl_22, cl_23, cl_24, cl_25, cl_26, cl_27, cl_28, cl_29, cl_30, cl_31, cl_32, cl_36, cl_40, cl_48, cl_60, cl_108, cl_120, cl_200, cl_201, cl_576, cl_600, cl_864, cl_900, cl_960, cl_5400, cl_8040, j2_0, iN_iZ, iN_lit0, iZ_add, iZ_sub, iZ_mul, iZ_neg, jZ_add, jZ_sub, jZ_mul, jZ_neg, isB0, isB1, isBZ, eq0, eq1, bZ0, vI_, vJ_, vA_, rI_, rJ_, rA_, rV_, nX_, tX_, true_and, and_true, false_and, and_false, and_self, implies_true, forall_const, not_true_eq_false, not_false_eq_true, false_implies, true_implies, ↓reduceIte, Nat.reduceEqDiff, Int.reduceToNat, Int.reduceAdd, Int.reduceSub, Int.reduceLT, Int.reduceLE, Int.reduceEq, Int.add_zero, Int.neg_zero, Int.add_sub_cancel, Int.reduceNeg, Nat.reduceLeDiff, Nat.reduceSub, true_or, or_true, false_or, or_false, setI_d, setJ_d, setP_d, mI_row, mJ_row, mP_row, mI_row_ne, mJ_row_ne, mP_row_ne, rowI_rowI, rowJ_rowJ, rowI_sort, rowJ_sort, rowJ_rowI, rowP_rowI, rowP_rowJ, fu_app, fu_fu, mI_rowJ, mI_rowP, mJ_rowI, mJ_rowP, mP_rowI, mP_rowJ, mK_rowI, mN_rowI, mK_rowJ, mN_rowJ, mK_rowP, mN_rowP, oB_rowI, oB_rowJ, iA_rowI, iA_rowJ, iR_rowI, iR_rowJ, St_rowI, St_rowJ, K146 hS, O146 hS, P146_2 hS, P146_3 hS, P146_4 hS, P146_5 hS, P146_6 hS, P146_7 hS, P146_8 hS]
  refine loopN 12 (fun j ls M' => (∃ x, ls = [aR (some 146), aI (iZ place), aI (iZ j), x]) ∧ M' = M ∧ roomOk op nx place g n j) ⟨⟨_, rfl⟩, rfl, fun p hp => absurd hp (by omega)⟩ ?_ ?_
  · intro j hj ls M' ⟨⟨x, hl⟩, hM, hok⟩ K
    subst hl hM
    have hj' : (j : Int) < 12 := by omega
    have a1 := ho j hj
    have a2 := hx j hj
    have a3 := bo j hj
    have a4 := bx j hj
    have e := jd4 (d := d) (M := M') (x := (place : Int)) (y := nx j) hst (by omega) (by omega) (by omega) (by omega)
    refine wp1_go (n := 2000) ?_
    simp (disch := omega) only [wcQ, wcX, wcG, wcL, wcS, h215_2, w215_2, w215_3, w215_5, w215_8, w215_9, w215_10, w215_13, w215_14, w215_15, toI, toJ, toI64, inb_T, inb_iZ, Int.toNat_natCast, cl_0, cl_1, cl_2, cl_3, cl_4, cl_5, cl_6, cl_7, cl_8, cl_9, cl_10, cl_11, cl_12, cl_13, cl_14, cl_15, cl_16, cl_17, cl_18, cl_19, cl_20, cl_21, cl_22, cl_23, cl_24, cl_25, cl_26, cl_27, cl_28, cl_29, cl_30, cl_31, cl_32, cl_36, cl_40, cl_48, cl_60, cl_108, cl_120, cl_200, cl_201, cl_576, cl_600, cl_864, cl_900, cl_960, cl_5400, cl_8040, j2_0, iN_iZ, iN_lit0, iZ_add, iZ_sub, iZ_mul, iZ_neg, jZ_add, jZ_sub, jZ_mul, jZ_neg, isB0, isB1, isBZ, eq0, eq1, bZ0, vI_, vJ_, vA_, rI_, rJ_, rA_, rV_, nX_, tX_, true_and, and_true, false_and, and_false, and_self, implies_true, forall_const, not_true_eq_false, not_false_eq_true, false_implies, true_implies, ↓reduceIte, Nat.reduceEqDiff, Int.reduceToNat, Int.reduceAdd, Int.reduceSub, Int.reduceLT, Int.reduceLE, Int.reduceEq, Int.add_zero, Int.neg_zero, Int.add_sub_cancel, Int.reduceNeg, Nat.reduceLeDiff, Nat.reduceSub, true_or, or_true, false_or, or_false, setI_d, setJ_d, setP_d, mI_row, mJ_row, mP_row, mI_row_ne, mJ_row_ne, mP_row_ne, rowI_rowI, rowJ_rowJ, rowI_sort, rowJ_sort, rowJ_rowI, rowP_rowI, rowP_rowJ, fu_app, fu_fu, mI_rowJ, mI_rowP, mJ_rowI, mJ_rowP, mP_rowI, mP_rowJ, mK_rowI, mN_rowI, mK_rowJ, mN_rowJ, mK_rowP, mN_rowP, oB_rowI, oB_rowJ, iA_rowI, iA_rowJ, iR_rowI, iR_rowJ, St_rowI, St_rowJ, K146 hS, O146 hS, P146_2 hS, P146_3 hS, P146_4 hS, P146_5 hS, P146_6 hS, P146_7 hS, P146_8 hS, K153 hS, O153 hS, A153 hS, hj', a2]
    refine kI0 e ?_
    have ih : ∀ P : Prop, (P → 0 < op j → (if place < nx j then nx j else place) + (op j - 1) * g < n) → P → roomOk op nx place g n (j + 1) := fun P f p k hk => by
      by_cases z : k = j
      · rw [z]; exact f p
      · exact hok k (by omega)
    by_cases o0 : 0 < op j
    · have o1 : (0 : Int) < op j := by omega
      have hm : ((op j : Int) - 1) * g = (((op j - 1) * g : Nat) : Int) := by
        obtain ⟨m, hm⟩ : ∃ m, op j = m + 1 := ⟨op j - 1, by omega⟩
        rw [hm, Nat.add_sub_cancel, Int.natCast_mul, show (((m + 1 : Nat) : Int) - 1) = m by omega]
      have hb : (op j - 1) * g ≤ 7 * 8 := Nat.mul_le_mul (by omega) g8
      have he : (if (place : Int) < nx j then (nx j : Int) else place) = (((if place < nx j then nx j else place : Nat)) : Int) := by split <;> split <;> omega
      have hw : (if place < nx j then nx j else place) ≤ 16 := by split <;> omega
      rw [he]
      generalize hW : (if place < nx j then nx j else place) = W at *
      by_cases r : W + (op j - 1) * g < n
      · have r1 : ((W : Int) + (((op j - 1) * g : Nat) : Int)) < n := by omega
        simp (disch := omega) only [wcQ, wcX, wcG, wcL, wcS, h215_2, w215_2, w215_18, w215_19, w215_22, w215_23, w215_24, w215_25, w215_26, w215_27, w215_30, w215_31, w215_32, w215_33, w215_34, w215_37, w215_38, w215_39, w215_42, w215_43, w215_44, w215_47, w215_50, w215_51, w215_52, w215_55, toI, toJ, toI64, inb_T, inb_iZ, Int.toNat_natCast, cl_0, cl_1, cl_2, cl_3, cl_4, cl_5, cl_6, cl_7, cl_8, cl_9, cl_10, cl_11, cl_12, cl_13, cl_14, cl_15, cl_16, cl_17, cl_18, cl_19, cl_20, cl_21, cl_22, cl_23, cl_24, cl_25, cl_26, cl_27, cl_28, cl_29, cl_30, cl_31, cl_32, cl_36, cl_40, cl_48, cl_60, cl_108, cl_120, cl_200, cl_201, cl_576, cl_600, cl_864, cl_900, cl_960, cl_5400, cl_8040, j2_0, iN_iZ, iN_lit0, iZ_add, iZ_sub, iZ_mul, iZ_neg, jZ_add, jZ_sub, jZ_mul, jZ_neg, isB0, isB1, isBZ, eq0, eq1, bZ0, vI_, vJ_, vA_, rI_, rJ_, rA_, rV_, nX_, tX_, true_and, and_true, false_and, and_false, and_self, implies_true, forall_const, not_true_eq_false, not_false_eq_true, false_implies, true_implies, ↓reduceIte, Nat.reduceEqDiff, Int.reduceToNat, Int.reduceAdd, Int.reduceSub, Int.reduceLT, Int.reduceLE, Int.reduceEq, Int.add_zero, Int.neg_zero, Int.add_sub_cancel, Int.reduceNeg, Nat.reduceLeDiff, Nat.reduceSub, true_or, or_true, false_or, or_false, setI_d, setJ_d, setP_d, mI_row, mJ_row, mP_row, mI_row_ne, mJ_row_ne, mP_row_ne, rowI_rowI, rowJ_rowJ, rowI_sort, rowJ_sort, rowJ_rowI, rowP_rowI, rowP_rowJ, fu_app, fu_fu, mI_rowJ, mI_rowP, mJ_rowI, mJ_rowP, mP_rowI, mP_rowJ, mK_rowI, mN_rowI, mK_rowJ, mN_rowJ, mK_rowP, mN_rowP, oB_rowI, oB_rowJ, iA_rowI, iA_rowJ, iR_rowI, iR_rowJ, St_rowI, St_rowJ, K146 hS, O146 hS, P146_2 hS, P146_3 hS, P146_4 hS, P146_5 hS, P146_6 hS, P146_7 hS, P146_8 hS, K152 hS, O152 hS, A152 hS, hj', a1, hn, hg, o1, hm, r1]
        exact K _ _ ⟨⟨_, rfl⟩, rfl, ih True (fun _ _ => r) trivial⟩
      · have r1 : ¬ ((W : Int) + (((op j - 1) * g : Nat) : Int)) < n := by omega
        simp (disch := omega) only [wcQ, wcX, wcG, wcL, wcS, h215_2, w215_2, w215_18, w215_19, w215_22, w215_23, w215_24, w215_25, w215_26, w215_27, w215_30, w215_31, w215_32, w215_33, w215_34, w215_37, w215_38, w215_39, w215_42, w215_43, w215_44, w215_47, w215_50, w215_51, w215_52, w215_55, toI, toJ, toI64, inb_T, inb_iZ, Int.toNat_natCast, cl_0, cl_1, cl_2, cl_3, cl_4, cl_5, cl_6, cl_7, cl_8, cl_9, cl_10, cl_11, cl_12, cl_13, cl_14, cl_15, cl_16, cl_17, cl_18, cl_19, cl_20, cl_21, cl_22, cl_23, cl_24, cl_25, cl_26, cl_27, cl_28, cl_29, cl_30, cl_31, cl_32, cl_36, cl_40, cl_48, cl_60, cl_108, cl_120, cl_200, cl_201, cl_576, cl_600, cl_864, cl_900, cl_960, cl_5400, cl_8040, j2_0, iN_iZ, iN_lit0, iZ_add, iZ_sub, iZ_mul, iZ_neg, jZ_add, jZ_sub, jZ_mul, jZ_neg, isB0, isB1, isBZ, eq0, eq1, bZ0, vI_, vJ_, vA_, rI_, rJ_, rA_, rV_, nX_, tX_, true_and, and_true, false_and, and_false, and_self, implies_true, forall_const, not_true_eq_false, not_false_eq_true, false_implies, true_implies, ↓reduceIte, Nat.reduceEqDiff, Int.reduceToNat, Int.reduceAdd, Int.reduceSub, Int.reduceLT, Int.reduceLE, Int.reduceEq, Int.add_zero, Int.neg_zero, Int.add_sub_cancel, Int.reduceNeg, Nat.reduceLeDiff, Nat.reduceSub, true_or, or_true, false_or, or_false, setI_d, setJ_d, setP_d, mI_row, mJ_row, mP_row, mI_row_ne, mJ_row_ne, mP_row_ne, rowI_rowI, rowJ_rowJ, rowI_sort, rowJ_sort, rowJ_rowI, rowP_rowI, rowP_rowJ, fu_app, fu_fu, mI_rowJ, mI_rowP, mJ_rowI, mJ_rowP, mP_rowI, mP_rowJ, mK_rowI, mN_rowI, mK_rowJ, mN_rowJ, mK_rowP, mN_rowP, oB_rowI, oB_rowJ, iA_rowI, iA_rowJ, iR_rowI, iR_rowJ, St_rowI, St_rowJ, K146 hS, O146 hS, P146_2 hS, P146_3 hS, P146_4 hS, P146_5 hS, P146_6 hS, P146_7 hS, P146_8 hS, K152 hS, O152 hS, A152 hS, hj', a1, hn, hg, o1, hm, r1]
        exact Or.inr fun h => r (by have := h j hj o0; rw [hW] at this; exact this)
    · have o1 : ¬ (0 : Int) < op j := by omega
      simp (disch := omega) only [wcQ, wcX, wcG, wcL, wcS, h215_2, w215_2, w215_18, w215_19, w215_22, w215_23, w215_24, w215_25, w215_26, w215_27, w215_30, w215_31, w215_32, w215_33, w215_34, w215_37, w215_38, w215_39, w215_42, w215_43, w215_44, w215_47, w215_50, w215_51, w215_52, w215_55, toI, toJ, toI64, inb_T, inb_iZ, Int.toNat_natCast, cl_0, cl_1, cl_2, cl_3, cl_4, cl_5, cl_6, cl_7, cl_8, cl_9, cl_10, cl_11, cl_12, cl_13, cl_14, cl_15, cl_16, cl_17, cl_18, cl_19, cl_20, cl_21, cl_22, cl_23, cl_24, cl_25, cl_26, cl_27, cl_28, cl_29, cl_30, cl_31, cl_32, cl_36, cl_40, cl_48, cl_60, cl_108, cl_120, cl_200, cl_201, cl_576, cl_600, cl_864, cl_900, cl_960, cl_5400, cl_8040, j2_0, iN_iZ, iN_lit0, iZ_add, iZ_sub, iZ_mul, iZ_neg, jZ_add, jZ_sub, jZ_mul, jZ_neg, isB0, isB1, isBZ, eq0, eq1, bZ0, vI_, vJ_, vA_, rI_, rJ_, rA_, rV_, nX_, tX_, true_and, and_true, false_and, and_false, and_self, implies_true, forall_const, not_true_eq_false, not_false_eq_true, false_implies, true_implies, ↓reduceIte, Nat.reduceEqDiff, Int.reduceToNat, Int.reduceAdd, Int.reduceSub, Int.reduceLT, Int.reduceLE, Int.reduceEq, Int.add_zero, Int.neg_zero, Int.add_sub_cancel, Int.reduceNeg, Nat.reduceLeDiff, Nat.reduceSub, true_or, or_true, false_or, or_false, setI_d, setJ_d, setP_d, mI_row, mJ_row, mP_row, mI_row_ne, mJ_row_ne, mP_row_ne, rowI_rowI, rowJ_rowJ, rowI_sort, rowJ_sort, rowJ_rowI, rowP_rowI, rowP_rowJ, fu_app, fu_fu, mI_rowJ, mI_rowP, mJ_rowI, mJ_rowP, mP_rowI, mP_rowJ, mK_rowI, mN_rowI, mK_rowJ, mN_rowJ, mK_rowP, mN_rowP, oB_rowI, oB_rowJ, iA_rowI, iA_rowJ, iR_rowI, iR_rowJ, St_rowI, St_rowJ, K146 hS, O146 hS, P146_2 hS, P146_3 hS, P146_4 hS, P146_5 hS, P146_6 hS, P146_7 hS, P146_8 hS, K152 hS, O152 hS, A152 hS, hj', a1, hn, hg, o1]
      exact K _ _ ⟨⟨_, rfl⟩, rfl, ih True (fun _ h => absurd h o0) trivial⟩
  · intro ls M' ⟨⟨x, hl⟩, hM, hok⟩
    subst hl hM
    refine wp1_go (n := 2000) ?_
    simp (disch := omega) only [wcQ, wcX, wcG, wcL, wcS, w215_0, w215_1, h215_2, w215_2, w215_3, w215_5, w215_8, w215_9, w215_10, w215_13, w215_14, w215_15, w215_18, w215_19, w215_22, w215_23, w215_24, w215_25, w215_26, w215_27, w215_30, w215_31, w215_32, w215_33, w215_34, w215_37, w215_38, w215_39, w215_42, w215_43, w215_44, w215_47, w215_50, w215_51, w215_52, w215_55, w215_58, w215_59, toI, toJ, toI64, inb_T, inb_iZ, Int.toNat_natCast, cl_0, cl_1, cl_2, cl_3, cl_4, cl_5, cl_6, cl_7, cl_8, cl_9, cl_10, cl_11, cl_12, cl_13, cl_14, cl_15, cl_16, cl_17, cl_18, cl_19, cl_20, cl_21, cl_22, cl_23, cl_24, cl_25, cl_26, cl_27, cl_28, cl_29, cl_30, cl_31, cl_32, cl_36, cl_40, cl_48, cl_60, cl_108, cl_120, cl_200, cl_201, cl_576, cl_600, cl_864, cl_900, cl_960, cl_5400, cl_8040, j2_0, iN_iZ, iN_lit0, iZ_add, iZ_sub, iZ_mul, iZ_neg, jZ_add, jZ_sub, jZ_mul, jZ_neg, isB0, isB1, isBZ, eq0, eq1, bZ0, vI_, vJ_, vA_, rI_, rJ_, rA_, rV_, nX_, tX_, true_and, and_true, false_and, and_false, and_self, implies_true, forall_const, not_true_eq_false, not_false_eq_true, false_implies, true_implies, ↓reduceIte, Nat.reduceEqDiff, Int.reduceToNat, Int.reduceAdd, Int.reduceSub, Int.reduceLT, Int.reduceLE, Int.reduceEq, Int.add_zero, Int.neg_zero, Int.add_sub_cancel, Int.reduceNeg, Nat.reduceLeDiff, Nat.reduceSub, true_or, or_true, false_or, or_false, setI_d, setJ_d, setP_d, mI_row, mJ_row, mP_row, mI_row_ne, mJ_row_ne, mP_row_ne, rowI_rowI, rowJ_rowJ, rowI_sort, rowJ_sort, rowJ_rowI, rowP_rowI, rowP_rowJ, fu_app, fu_fu, mI_rowJ, mI_rowP, mJ_rowI, mJ_rowP, mP_rowI, mP_rowJ, mK_rowI, mN_rowI, mK_rowJ, mN_rowJ, mK_rowP, mN_rowP, oB_rowI, oB_rowJ, iA_rowI, iA_rowJ, iR_rowI, iR_rowJ, St_rowI, St_rowJ, K146 hS, O146 hS, P146_2 hS, P146_3 hS, P146_4 hS, P146_5 hS, P146_6 hS, P146_7 hS, P146_8 hS, Int.lt_irrefl]
    exact Or.inl hok
theorem c214s (hS : Static M) {qr : QR} {qx : QX} {n i j : Nat} {s s' s2 : Int64} {L' : Nat → Int32} {x y : AV} (n8 : n ≤ 8) (hi : i + 1 < n) (hn : mI M 146 0 = iZ n) (h2 : s' * jZ 6364136223846793005 + jZ 1442695040888963407 = s2) (hj : (s2.toUInt64 >>> ((jZ 33).toUInt64 &&& Int64.toUInt64 63)).toInt64 - (s2.toUInt64 >>> ((jZ 33).toUInt64 &&& Int64.toUInt64 63)).toInt64 / jZ (((i + 1 : Nat) : Int) + 1) * jZ (((i + 1 : Nat) : Int) + 1) = jZ j) (j2 : j < i + 1 + 1) (K : ∀ x y, Go G d 214 qr qx 25 [aR (some 146), aL s, aU, aL s2, aU, aI (iZ i), x, y] [] (rowI M 149 (fu (fu L' (i + 1) (L' j)) j (L' (i + 1)))) 0) : Go G d 214 qr qx 25 [aR (some 146), aL s, aU, aL s', aU, aI (iZ ((i + 1 : Nat) : Int)), x, y] [] (rowI M 149 L') 0 := by
  have hi' : ¬ ((i + 1 : Nat) : Int) < 1 := by omega
  refine wp1_go (n := 2000) ?_
  simp (disch := omega) only [wcQ, wcX, wcG, wcL, wcS, h214_25, w214_25, w214_27, w214_28, w214_31, w214_32, w214_35, w214_36, w214_39, w214_40, w214_41, w214_42, w214_44, w214_45, w214_47, w214_48, w214_49, w214_50, w214_51, w214_52, w214_54, w214_55, w214_58, w214_60, w214_61, w214_63, w214_64, w214_67, w214_69, w214_70, w214_73, w214_75, w214_76, w214_77, w214_78, w214_81, w214_83, w214_85, w214_86, w214_89, toI, toJ, toI64, inb_T, inb_iZ, Int.toNat_natCast, cl_0, cl_1, cl_2, cl_3, cl_4, cl_5, cl_6, cl_7, cl_8, cl_9, cl_10, cl_11, cl_12, cl_13, cl_14, cl_15, cl_16, cl_17, cl_18, cl_19, cl_20, cl_21, cl_22, cl_23, cl_24, cl_25, cl_26, cl_27, cl_28, cl_29, cl_30, cl_31, cl_32, cl_36, cl_40, cl_48, cl_60, cl_108, cl_120, cl_200, cl_201, cl_576, cl_600, cl_864, cl_900, cl_960, cl_5400, cl_8040, j2_0, iN_iZ, iN_lit0, iZ_add, iZ_sub, iZ_mul, iZ_neg, jZ_add, jZ_sub, jZ_mul, jZ_neg, isB0, isB1, isBZ, eq0, eq1, bZ0, vI_, vJ_, vA_, rI_, rJ_, rA_, rV_, nX_, tX_, true_and, and_true, false_and, and_false, and_self, implies_true, forall_const, not_true_eq_false, not_false_eq_true, false_implies, true_implies, ↓reduceIte, Nat.reduceEqDiff, Int.reduceToNat, Int.reduceAdd, Int.reduceSub, Int.reduceLT, Int.reduceLE, Int.reduceEq, Int.add_zero, Int.neg_zero, Int.add_sub_cancel, Int.reduceNeg, Nat.reduceLeDiff, Nat.reduceSub, true_or, or_true, false_or, or_false, setI_d, setJ_d, setP_d, mI_row, mJ_row, mP_row, mI_row_ne, mJ_row_ne, mP_row_ne, rowI_rowI, rowJ_rowJ, rowI_sort, rowJ_sort, rowJ_rowI, rowP_rowI, rowP_rowJ, fu_app, fu_fu, mI_rowJ, mI_rowP, mJ_rowI, mJ_rowP, mP_rowI, mP_rowJ, mK_rowI, mN_rowI, mK_rowJ, mN_rowJ, mK_rowP, mN_rowP, oB_rowI, oB_rowJ, iA_rowI, iA_rowJ, iR_rowI, iR_rowJ, St_rowI, St_rowJ, K146 hS, O146 hS, P146_2 hS, P146_3 hS, P146_4 hS, P146_5 hS, P146_6 hS, P146_7 hS, P146_8 hS, K149 hS, O149 hS, A149 hS, hn, hi', h2, hj, jZ_ne0, Int64.toInt32_ofInt]
  rw [show (((i + 1 : Nat) : Int) + -1) = i by omega]
  exact K _ _
theorem c214 (hst : (gl G).stackTraces = false) (hS : Static M) {n : Nat} {s : Int64} (n8 : n ≤ 8) (hn : mI M 146 0 = iZ n) : Ev G (d + 1) 214 [aR (some 146), aL s] M 0 (rV fun M' => M' = rowI M 149 (shuf (n - 1) s (upto 8 (mI M 148) (mI M 149)))) nX := by
  have hc : (fun j => if 0 ≤ j ∧ j < 0 + 8 then mI M 148 (0 + (j - 0)) else mI M 149 j) = upto 8 (mI M 148) (mI M 149) := by
    funext j
    unfold upto
    simp
  refine Ev_wp 2000 hst (by decide) (Nat.le_of_ble_eq_true rfl) ?_; simp (disch := omega) only [en214, wcQ, wcX, wcG, wcL, wcS, w214_0, w214_1, w214_4, w214_5, w214_6, w214_9, w214_10, w214_12, w214_15, w214_16, w214_17, w214_18, w214_21, w214_22, w214_23, h214_25, w214_25, toI, toJ, toI64, inb_T, inb_iZ, Int.toNat_natCast, cl_0, cl_1, cl_2, cl_3, cl_4, cl_5, cl_6, cl_7, cl_8, cl_9, cl_10, cl_11, cl_12, cl_13, cl_14, cl_15, cl_16, cl_17, cl_18, cl_19, cl_20, cl_21, cl_22, cl_23, cl_24, cl_25, cl_26, cl_27, cl_28, cl_29, cl_30, cl_31, cl_32, cl_36, cl_40, cl_48, cl_60, cl_108, cl_120, cl_200, cl_201, cl_576, cl_600, cl_864, cl_900, cl_960, cl_5400, cl_8040, j2_0, iN_iZ, iN_lit0, iZ_add, iZ_sub, iZ_mul, iZ_neg, jZ_add, jZ_sub, jZ_mul, jZ_neg, isB0, isB1, isBZ, eq0, eq1, bZ0, vI_, vJ_, vA_, rI_, rJ_, rA_, rV_, nX_, tX_, true_and, and_true, false_and, and_false, and_self, implies_true, forall_const, not_true_eq_false, not_false_eq_true, false_implies, true_implies, ↓reduceIte, Nat.reduceEqDiff, Int.reduceToNat, Int.reduceAdd, Int.reduceSub, Int.reduceLT, Int.reduceLE, Int.reduceEq, Int.add_zero, Int.neg_zero, Int.add_sub_cancel, Int.reduceNeg, Nat.reduceLeDiff, Nat.reduceSub, true_or, or_true, false_or, or_false, setI_d, setJ_d, setP_d, mI_row, mJ_row, mP_row, mI_row_ne, mJ_row_ne, mP_row_ne, rowI_rowI, rowJ_rowJ, rowI_sort, rowJ_sort, rowJ_rowI, rowP_rowI, rowP_rowJ, fu_app, fu_fu, mI_rowJ, mI_rowP, mJ_rowI, mJ_rowP, mP_rowI, mP_rowJ, mK_rowI, mN_rowI, mK_rowJ, mN_rowJ, mK_rowP, mN_rowP, oB_rowI, oB_rowJ, iA_rowI, iA_rowJ, iR_rowI, iR_rowJ, St_rowI, St_rowJ, K146 hS, O146 hS, P146_2 hS, P146_3 hS, P146_4 hS, P146_5 hS, P146_6 hS, P146_7 hS, P146_8 hS, K148 hS, O148 hS, A148 hS, K149 hS, O149 hS, A149 hS, hn, hc]
  by_cases n0 : n = 0
  · subst n0
    have hn0 : mI M 146 0 = iZ 0 := hn
    have e4 : (-1 : Int) < 1 := by omega
    refine wp1_go (n := 2000) ?_
    simp (disch := omega) only [wcQ, wcX, wcG, wcL, wcS, h214_25, w214_25, w214_27, w214_28, w214_92, toI, toJ, toI64, inb_T, inb_iZ, Int.toNat_natCast, cl_0, cl_1, cl_2, cl_3, cl_4, cl_5, cl_6, cl_7, cl_8, cl_9, cl_10, cl_11, cl_12, cl_13, cl_14, cl_15, cl_16, cl_17, cl_18, cl_19, cl_20, cl_21, cl_22, cl_23, cl_24, cl_25, cl_26, cl_27, cl_28, cl_29, cl_30, cl_31, cl_32, cl_36, cl_40, cl_48, cl_60, cl_108, cl_120, cl_200, cl_201, cl_576, cl_600, cl_864, cl_900, cl_960, cl_5400, cl_8040, j2_0, iN_iZ, iN_lit0, iZ_add, iZ_sub, iZ_mul, iZ_neg, jZ_add, jZ_sub, jZ_mul, jZ_neg, isB0, isB1, isBZ, eq0, eq1, bZ0, vI_, vJ_, vA_, rI_, rJ_, rA_, rV_, nX_, tX_, true_and, and_true, false_and, and_false, and_self, implies_true, forall_const, not_true_eq_false, not_false_eq_true, false_implies, true_implies, ↓reduceIte, Nat.reduceEqDiff, Int.reduceToNat, Int.reduceAdd, Int.reduceSub, Int.reduceLT, Int.reduceLE, Int.reduceEq, Int.add_zero, Int.neg_zero, Int.add_sub_cancel, Int.reduceNeg, Nat.reduceLeDiff, Nat.reduceSub, true_or, or_true, false_or, or_false, setI_d, setJ_d, setP_d, mI_row, mJ_row, mP_row, mI_row_ne, mJ_row_ne, mP_row_ne, rowI_rowI, rowJ_rowJ, rowI_sort, rowJ_sort, rowJ_rowI, rowP_rowI, rowP_rowJ, fu_app, fu_fu, mI_rowJ, mI_rowP, mJ_rowI, mJ_rowP, mP_rowI, mP_rowJ, mK_rowI, mN_rowI, mK_rowJ, mN_rowJ, mK_rowP, mN_rowP, oB_rowI, oB_rowJ, iA_rowI, iA_rowJ, iR_rowI, iR_rowJ, St_rowI, St_rowJ, K146 hS, O146 hS, P146_2 hS, P146_3 hS, P146_4 hS, P146_5 hS, P146_6 hS, P146_7 hS, P146_8 hS, hn0, e4]
    rfl
  · have hm : (n : Int) - 1 = ((n - 1 : Nat) : Int) := by omega
    rw [hm]
    refine loopN (n - 1) (fun t ls M' => ∃ s' L' x y, ls = [aR (some 146), aL s, aU, aL s', aU, aI (iZ ((n - 1 - t : Nat) : Int)), x, y] ∧ M' = rowI M 149 L' ∧ shuf (n - 1 - t) s' L' = shuf (n - 1) s (upto 8 (mI M 148) (mI M 149))) ⟨_, _, _, _, rfl, rfl, rfl⟩ ?_ ?_
    · intro t ht ls M' ⟨s', L', x, y, hl, hM, hs⟩ K
      subst hl hM
      obtain ⟨i, hi⟩ : ∃ i, n - 1 - t = i + 1 := ⟨n - 1 - t - 1, by omega⟩
      rw [hi] at hs ⊢
      have hi2 : n - 1 - (t + 1) = i := by omega
      rw [hi2] at K
      rw [shuf_s] at hs
      exact c214s hS n8 (by omega) hn lcg_ (sj_ (by omega)) (sjN_lt _ _) (fun x y => K _ _ ⟨_, _, _, _, rfl, rfl, hs⟩)
    · intro ls M' ⟨s', L', x, y, hl, hM, hs⟩
      rw [Nat.sub_self] at hl hs
      subst hl hM
      have hs : L' = shuf (n - 1) s (upto 8 (mI M 148) (mI M 149)) := hs
      have e4 : (((0 : Nat) : Int)) < 1 := by omega
      refine wp1_go (n := 2000) ?_
      simp (disch := omega) only [wcQ, wcX, wcG, wcL, wcS, h214_25, w214_25, w214_27, w214_28, w214_92, toI, toJ, toI64, inb_T, inb_iZ, Int.toNat_natCast, cl_0, cl_1, cl_2, cl_3, cl_4, cl_5, cl_6, cl_7, cl_8, cl_9, cl_10, cl_11, cl_12, cl_13, cl_14, cl_15, cl_16, cl_17, cl_18, cl_19, cl_20, cl_21, cl_22, cl_23, cl_24, cl_25, cl_26, cl_27, cl_28, cl_29, cl_30, cl_31, cl_32, cl_36, cl_40, cl_48, cl_60, cl_108, cl_120, cl_200, cl_201, cl_576, cl_600, cl_864, cl_900, cl_960, cl_5400, cl_8040, j2_0, iN_iZ, iN_lit0, iZ_add, iZ_sub, iZ_mul, iZ_neg, jZ_add, jZ_sub, jZ_mul, jZ_neg, isB0, isB1, isBZ, eq0, eq1, bZ0, vI_, vJ_, vA_, rI_, rJ_, rA_, rV_, nX_, tX_, true_and, and_true, false_and, and_false, and_self, implies_true, forall_const, not_true_eq_false, not_false_eq_true, false_implies, true_implies, ↓reduceIte, Nat.reduceEqDiff, Int.reduceToNat, Int.reduceAdd, Int.reduceSub, Int.reduceLT, Int.reduceLE, Int.reduceEq, Int.add_zero, Int.neg_zero, Int.add_sub_cancel, Int.reduceNeg, Nat.reduceLeDiff, Nat.reduceSub, true_or, or_true, false_or, or_false, setI_d, setJ_d, setP_d, mI_row, mJ_row, mP_row, mI_row_ne, mJ_row_ne, mP_row_ne, rowI_rowI, rowJ_rowJ, rowI_sort, rowJ_sort, rowJ_rowI, rowP_rowI, rowP_rowJ, fu_app, fu_fu, mI_rowJ, mI_rowP, mJ_rowI, mJ_rowP, mP_rowI, mP_rowJ, mK_rowI, mN_rowI, mK_rowJ, mN_rowJ, mK_rowP, mN_rowP, oB_rowI, oB_rowJ, iA_rowI, iA_rowJ, iR_rowI, iR_rowJ, St_rowI, St_rowJ, K146 hS, O146 hS, P146_2 hS, P146_3 hS, P146_4 hS, P146_5 hS, P146_6 hS, P146_7 hS, P146_8 hS, e4]
      rw [hs]
/-- what a room of so many makes of the two ways to tell the later -/
theorem room_iff {h : Nat → Nat} {g n place : Nat} {pl : Nat → Nat} (bh : ∀ j, j < n → h j < 12) : roomOk (opN h n pl place) (fun k => nxN h g pl place k) place g n 12 ↔ ∀ k, 0 < opN h n pl place k → max place (nxN h g pl place k) + (opN h n pl place k - 1) * g < n := by
  have e : ∀ x : Nat, (if place < x then x else place) = max place x := fun x => by split <;> omega
  constructor
  · intro r k hk
    have : k < 12 := by
      by_cases z : k < 12
      · exact z
      · exfalso
        have : opN h n pl place k = 0 := by
          unfold opN
          have : ∀ m, m ≤ n → cnt (fun i => frB pl place i && decide (h i = k)) m = 0 := by
            intro m
            induction m with
            | zero => intro _; rfl
            | succ m ih =>
              intro hm
              unfold cnt
              rw [ih (by omega)]
              have := bh m (by omega)
              have : decide (h m = k) = false := decide_eq_false (by omega)
              rw [this]
              simp
          exact this n (Nat.le_refl _)
        omega
    have := r k this hk
    rwa [e] at this
  · intro r k _ hk
    rw [e]
    exact r k hk
theorem cnt_n (P : Nat → Bool) : ∀ n, cnt P n ≤ n
  | 0 => Nat.le_refl _
  | n + 1 => by
    have := cnt_n P n
    unfold cnt
    split <;> omega
theorem nx_le {h : Nat → Nat} {g : Nat} {pl : Nat → Nat} {k : Nat} : ∀ place, nxN h g pl place k ≤ place + g
  | 0 => by unfold nxN; omega
  | p + 1 => by
    have := nx_le (h := h) (g := g) (pl := pl) (k := k) p
    unfold nxN
    split <;> omega
end

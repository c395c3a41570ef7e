/-! What is known of RUNS; the class's side. -/
section
variable {G : GE} {d : Nat} {M M' : Mem} {s : Sn} {kb ra ca : Nat → Nat} {u i : Nat} {k : Int}
def oA (ca : Nat → Nat) (z : Int) : Option Nat := if z = -1 then none else some (ca z.toNat)
/-- how the class keeps them -/
def CSn (M : Mem) (s : Sn) (kb ra ca : Nat → Nat) : Prop :=
  (mI M 61 6 = iZ (nBk s) ∧ ∀ i, i < nBk s → mP M 94 i = some (kb i) ∧ ∃ N sz, BK M (kb i) N ∧ BC M (kb i) sz (eBk s i) ∧ sz ≤ N ∧ N ≤ 600) ∧
  (mI M 97 0 = iZ (nTl s) ∧ ∀ i, i < nTl s → mP M 98 i = some (kb (eTl s i).1) ∧ mI M 99 i = iZ (eTl s i).2.1 ∧ mI M 100 i = iZ (eTl s i).2.2) ∧
  (mI M 97 4 = iZ (nRn s) ∧ ∀ i, i < nRn s → mP M 101 i = some (ra i) ∧ 222 ≤ ra i ∧ oB M (ra i) 7 ∧ mI M (ra i) 0 = iZ (eRn s i).1 ∧ mI M (ra i) 1 = iZ (eRn s i).2.1 ∧ mI M (ra i) 2 = iZ (eRn s i).2.2.1 ∧ mI M (ra i) 3 = iZ (eRn s i).2.2.2 ∧ mP M (ra i) 4 = oA ca (cA s i 999 (nCd s)) ∧ ∀ j, j < nRn s → ra i = ra j → i = j) ∧
  (mI M 97 6 = iZ (nCd s) ∧ ∀ i, i < nCd s → CO M (ca i) (uBk s (cRn s i)) (uHr s (cRn s i)) (uWd s (cRn s i)) (cRw s i) (cTm s i) (cRe s i) ∧ mI M (ca i) 0 = iZ (cDy s i) ∧ mP M (ca i) 7 = oA ca (cA s (cRn s i) 999 i)) ∧
  (mI M 97 7 = iZ (nPt s) ∧ ∀ i, i < nPt s → mI M 102 i = iZ (ePt s i).1 ∧ mI M 103 i = iZ (ePt s i).2.1 ∧ ((ePt s i).2.1 ≠ -1 → mI M 104 i = iZ (ePt s i).2.2.1 ∧ mI M 105 i = iZ (ePt s i).2.2.2))
theorem oA_n {z : Int} (h : z = -1) : oA ca z = none := if_pos h
theorem oA_s {z : Int} (h : z ≠ -1) : oA ca z = some (ca z.toNat) := if_neg h
theorem co_o {q : Bk} {hr wd t : Int} {rows : Rw} {re : Bool} {c : Nat} (h : CO M c q hr wd rows t re) : oB M c 0 = True := by
  obtain ⟨c1, c2, c3, _⟩ := h.1
  exact eq_true ⟨by omega, by omega, c3⟩
theorem c186 (hst : (gl G).stackTraces = false) (hS : Static M) (hO : Sok s) (hC : CSn M s kb ra ca) (hu : u < nRn s) (k1 : -2147483648 ≤ k) (k2 : k < 2147483648) : Ev G (d + 1) 186 [aR (some 97), aI (iZ u), aI (iZ k)] M 0 (vA (oA ca (kaI s u k)) M) nX := by
  have u120 := hO.2.2.1.1
  obtain ⟨r1, r2, r3, r4, r5, r6, r7, r8, _⟩ := hC.2.2.1.2 u hu
  have hr3 := eq_true r3
  have hc := hC.2.2.2.1.2
  have hd := fun i (hi : i < nCd s) => (hO.2.2.2.1.2 i hi).2.1
  have key : ∀ n, n ≤ nCd s → ∀ (Q : QR), Q (some (aR (oA ca (cA s u k n)))) M → Go G d 186 Q nX 10 [aR (some 97), aI (iZ u), aI (iZ k), aR (oA ca (cA s u 999 n))] [] M 0 := by
    intro n
    induction n using Nat.strongRecOn with
    | _ n ih =>
      intro hn Q hQ
      obtain ⟨a1, a2⟩ := cA_s (s := s) (u := u) (k := k) (n := n) (fun i hi => (hd i (by omega)).2)
      have ab := cA_b (s := s) (u := u) (k := 999) n
      by_cases z : cA s u 999 n = -1
      · rw [oA_n (a1 z)] at hQ
        rw [oA_n z]
        refine wp1_go (n := 2000) ?_
        simp (disch := omega) only [wcQ, wcX, wcG, wcL, wcS, w186_0, w186_1, w186_4, w186_5, w186_6, w186_9, h186_10, w186_10, w186_11, w186_14, w186_15, w186_18, w186_19, w186_22, w186_23, w186_24, w186_25, w186_28, w186_29, w186_32, w186_33, toI, toJ, toI64, inb_T, inb_iZ, Int.toNat_natCast, cl_0, cl_1, cl_2, cl_3, cl_4, cl_5, cl_6, cl_7, cl_8, cl_9, cl_10, cl_11, cl_12, cl_13, cl_14, cl_15, cl_16, cl_17, cl_18, cl_19, cl_20, cl_21, cl_22, cl_23, cl_24, cl_25, cl_26, cl_27, cl_28, cl_29, cl_30, cl_31, cl_32, cl_36, cl_40, cl_48, cl_60, cl_108, cl_120, cl_200, cl_201, cl_576, cl_600, cl_864, cl_900, cl_960, cl_5400, cl_8040, j2_0, iN_iZ, iN_lit0, iZ_add, iZ_sub, iZ_mul, iZ_neg, jZ_add, jZ_sub, jZ_mul, jZ_neg, isB0, isB1, isBZ, eq0, eq1, bZ0, vI_, vJ_, vA_, rI_, rJ_, rA_, rV_, nX_, tX_, true_and, and_true, false_and, and_false, and_self, implies_true, forall_const, not_true_eq_false, not_false_eq_true, false_implies, true_implies, ↓reduceIte, Nat.reduceEqDiff, Int.reduceToNat, Int.reduceAdd, Int.reduceSub, Int.reduceLT, Int.reduceLE, Int.reduceEq, Int.add_zero, Int.neg_zero, Int.add_sub_cancel, Int.reduceNeg, Nat.reduceLeDiff, Nat.reduceSub, true_or, or_true, false_or, or_false, setI_d, setJ_d, setP_d, mI_row, mJ_row, mP_row, mI_row_ne, mJ_row_ne, mP_row_ne, rowI_rowI, rowJ_rowJ, rowI_sort, rowJ_sort, rowJ_rowI, rowP_rowI, rowP_rowJ, fu_app, fu_fu, mI_rowJ, mI_rowP, mJ_rowI, mJ_rowP, mP_rowI, mP_rowJ, mK_rowI, mN_rowI, mK_rowJ, mN_rowJ, mK_rowP, mN_rowP, oB_rowI, oB_rowJ, iA_rowI, iA_rowJ, iR_rowI, iR_rowJ, St_rowI, St_rowJ]
        exact ⟨hQ, fun a h => by cases h⟩
      · obtain ⟨i, hi⟩ : ∃ i : Nat, cA s u 999 n = i := ⟨(cA s u 999 n).toNat, by omega⟩
        obtain ⟨b1, b2, b3⟩ := a2 i hi
        obtain ⟨c1, c2, c3⟩ := hc i (by omega)
        have hdi := hd i (by omega)
        have oc := co_o c1
        rw [oA_s z, hi, Int.toNat_natCast]
        rw [b3] at hQ
        by_cases y : cDy s i ≤ k
        · rw [if_pos y, oA_s (by omega), Int.toNat_natCast] at hQ
          have y' : ¬ k < cDy s i := by omega
          refine wp1_go (n := 2000) ?_
          simp (disch := omega) only [wcQ, wcX, wcG, wcL, wcS, h186_10, w186_10, w186_11, w186_14, w186_15, w186_18, w186_19, w186_22, w186_23, toI, toJ, toI64, inb_T, inb_iZ, Int.toNat_natCast, cl_0, cl_1, cl_2, cl_3, cl_4, cl_5, cl_6, cl_7, cl_8, cl_9, cl_10, cl_11, cl_12, cl_13, cl_14, cl_15, cl_16, cl_17, cl_18, cl_19, cl_20, cl_21, cl_22, cl_23, cl_24, cl_25, cl_26, cl_27, cl_28, cl_29, cl_30, cl_31, cl_32, cl_36, cl_40, cl_48, cl_60, cl_108, cl_120, cl_200, cl_201, cl_576, cl_600, cl_864, cl_900, cl_960, cl_5400, cl_8040, j2_0, iN_iZ, iN_lit0, iZ_add, iZ_sub, iZ_mul, iZ_neg, jZ_add, jZ_sub, jZ_mul, jZ_neg, isB0, isB1, isBZ, eq0, eq1, bZ0, vI_, vJ_, vA_, rI_, rJ_, rA_, rV_, nX_, tX_, true_and, and_true, false_and, and_false, and_self, implies_true, forall_const, not_true_eq_false, not_false_eq_true, false_implies, true_implies, ↓reduceIte, Nat.reduceEqDiff, Int.reduceToNat, Int.reduceAdd, Int.reduceSub, Int.reduceLT, Int.reduceLE, Int.reduceEq, Int.add_zero, Int.neg_zero, Int.add_sub_cancel, Int.reduceNeg, Nat.reduceLeDiff, Nat.reduceSub, true_or, or_true, false_or, or_false, setI_d, setJ_d, setP_d, mI_row, mJ_row, mP_row, mI_row_ne, mJ_row_ne, mP_row_ne, rowI_rowI, rowJ_rowJ, rowI_sort, rowJ_sort, rowJ_rowI, rowP_rowI, rowP_rowJ, fu_app, fu_fu, mI_rowJ, mI_rowP, mJ_rowI, mJ_rowP, mP_rowI, mP_rowJ, mK_rowI, mN_rowI, mK_rowJ, mN_rowJ, mK_rowP, mN_rowP, oB_rowI, oB_rowJ, iA_rowI, iA_rowJ, iR_rowI, iR_rowJ, St_rowI, St_rowJ, oc, c2, y']
          exact ⟨fun h => (by cases h), fun _ _ => hQ⟩
        · rw [if_neg y] at hQ
          have y' : k < cDy s i := by omega
          rw [b2] at c3
          refine wp1_go (n := 2000) ?_
          simp (disch := omega) only [wcQ, wcX, wcG, wcL, wcS, h186_10, w186_10, w186_11, w186_14, w186_15, w186_18, w186_19, w186_24, w186_25, w186_28, w186_29, toI, toJ, toI64, inb_T, inb_iZ, Int.toNat_natCast, cl_0, cl_1, cl_2, cl_3, cl_4, cl_5, cl_6, cl_7, cl_8, cl_9, cl_10, cl_11, cl_12, cl_13, cl_14, cl_15, cl_16, cl_17, cl_18, cl_19, cl_20, cl_21, cl_22, cl_23, cl_24, cl_25, cl_26, cl_27, cl_28, cl_29, cl_30, cl_31, cl_32, cl_36, cl_40, cl_48, cl_60, cl_108, cl_120, cl_200, cl_201, cl_576, cl_600, cl_864, cl_900, cl_960, cl_5400, cl_8040, j2_0, iN_iZ, iN_lit0, iZ_add, iZ_sub, iZ_mul, iZ_neg, jZ_add, jZ_sub, jZ_mul, jZ_neg, isB0, isB1, isBZ, eq0, eq1, bZ0, vI_, vJ_, vA_, rI_, rJ_, rA_, rV_, nX_, tX_, true_and, and_true, false_and, and_false, and_self, implies_true, forall_const, not_true_eq_false, not_false_eq_true, false_implies, true_implies, ↓reduceIte, Nat.reduceEqDiff, Int.reduceToNat, Int.reduceAdd, Int.reduceSub, Int.reduceLT, Int.reduceLE, Int.reduceEq, Int.add_zero, Int.neg_zero, Int.add_sub_cancel, Int.reduceNeg, Nat.reduceLeDiff, Nat.reduceSub, true_or, or_true, false_or, or_false, setI_d, setJ_d, setP_d, mI_row, mJ_row, mP_row, mI_row_ne, mJ_row_ne, mP_row_ne, rowI_rowI, rowJ_rowJ, rowI_sort, rowJ_sort, rowJ_rowI, rowP_rowI, rowP_rowJ, fu_app, fu_fu, mI_rowJ, mI_rowP, mJ_rowI, mJ_rowP, mP_rowI, mP_rowJ, mK_rowI, mN_rowI, mK_rowJ, mN_rowJ, mK_rowP, mN_rowP, oB_rowI, oB_rowJ, iA_rowI, iA_rowJ, iR_rowI, iR_rowJ, St_rowI, St_rowJ, oc, c2, y', c3]
          exact ⟨fun h => (by cases h), fun _ _ => ih i b1 (by omega) Q hQ⟩
  refine Ev_wp 2000 hst (by decide) (Nat.le_of_ble_eq_true rfl) ?_; simp (disch := omega) only [en186, wcQ, wcX, wcG, wcL, wcS, w186_0, w186_1, w186_4, w186_5, w186_6, w186_9, h186_10, w186_10, toI, toJ, toI64, inb_T, inb_iZ, Int.toNat_natCast, cl_0, cl_1, cl_2, cl_3, cl_4, cl_5, cl_6, cl_7, cl_8, cl_9, cl_10, cl_11, cl_12, cl_13, cl_14, cl_15, cl_16, cl_17, cl_18, cl_19, cl_20, cl_21, cl_22, cl_23, cl_24, cl_25, cl_26, cl_27, cl_28, cl_29, cl_30, cl_31, cl_32, cl_36, cl_40, cl_48, cl_60, cl_108, cl_120, cl_200, cl_201, cl_576, cl_600, cl_864, cl_900, cl_960, cl_5400, cl_8040, j2_0, iN_iZ, iN_lit0, iZ_add, iZ_sub, iZ_mul, iZ_neg, jZ_add, jZ_sub, jZ_mul, jZ_neg, isB0, isB1, isBZ, eq0, eq1, bZ0, vI_, vJ_, vA_, rI_, rJ_, rA_, rV_, nX_, tX_, true_and, and_true, false_and, and_false, and_self, implies_true, forall_const, not_true_eq_false, not_false_eq_true, false_implies, true_implies, ↓reduceIte, Nat.reduceEqDiff, Int.reduceToNat, Int.reduceAdd, Int.reduceSub, Int.reduceLT, Int.reduceLE, Int.reduceEq, Int.add_zero, Int.neg_zero, Int.add_sub_cancel, Int.reduceNeg, Nat.reduceLeDiff, Nat.reduceSub, true_or, or_true, false_or, or_false, setI_d, setJ_d, setP_d, mI_row, mJ_row, mP_row, mI_row_ne, mJ_row_ne, mP_row_ne, rowI_rowI, rowJ_rowJ, rowI_sort, rowJ_sort, rowJ_rowI, rowP_rowI, rowP_rowJ, fu_app, fu_fu, mI_rowJ, mI_rowP, mJ_rowI, mJ_rowP, mP_rowI, mP_rowJ, mK_rowI, mN_rowI, mK_rowJ, mN_rowJ, mK_rowP, mN_rowP, oB_rowI, oB_rowJ, iA_rowI, iA_rowJ, iR_rowI, iR_rowJ, St_rowI, St_rowJ, K97 hS, O97 hS, P97_1 hS, P97_2 hS, P97_3 hS, P97_5 hS, P97_8 hS, P97_9 hS, P97_10 hS, P97_11 hS, K101 hS, O101 hS, A101 hS, R101 hS, r1, hr3, r8]
  exact key _ (Nat.le_refl _) _ ⟨_, rfl, rfl, rfl⟩
theorem c187 (hst : (gl G).stackTraces = false) (hS : Static M) (hO : Sok s) (hC : CSn M s kb ra ca) (hi : i < nPt s) (hu : u < nRn s) (k1 : -2147483648 ≤ k) (k2 : k < 2147483648) : Ev G (d + 1) 187 [aR (some 97), aI (iZ i), aI (iZ u), aI (iZ k)] M 0 (rI fun v M' => M' = M ∧ ((v = iZ 1 ∧ dP s u k i) ∨ (v = iZ 0 ∧ ¬ dP s u k i))) nX := by
  obtain ⟨p1, p2, _⟩ := hC.2.2.2.2.2 i hi
  obtain ⟨o1, o2, _⟩ := hO.2.2.2.2.2 i hi
  have i40 := hO.2.2.2.2.1
  have u120 := hO.2.2.1.1
  have key : ∀ Q : QR, (dP s u k i → Q (some (aI (iZ 1))) M) → (¬ dP s u k i → Q (some (aI (iZ 0))) M) → Ev G (d + 1) 187 [aR (some 97), aI (iZ i), aI (iZ u), aI (iZ k)] M 0 Q nX := by
    intro Q h1 h0
    refine Ev_wp 2000 hst (by decide) (Nat.le_of_ble_eq_true rfl) ?_; simp (disch := omega) only [en187, wcQ, wcX, wcG, wcL, wcS, w187_0, w187_1, w187_4, w187_5, w187_6, w187_8, w187_9, w187_12, w187_13, w187_14, w187_15, w187_18, w187_20, w187_21, w187_24, w187_26, w187_27, w187_30, w187_31, w187_34, w187_35, toI, toJ, toI64, inb_T, inb_iZ, Int.toNat_natCast, cl_0, cl_1, cl_2, cl_3, cl_4, cl_5, cl_6, cl_7, cl_8, cl_9, cl_10, cl_11, cl_12, cl_13, cl_14, cl_15, cl_16, cl_17, cl_18, cl_19, cl_20, cl_21, cl_22, cl_23, cl_24, cl_25, cl_26, cl_27, cl_28, cl_29, cl_30, cl_31, cl_32, cl_36, cl_40, cl_48, cl_60, cl_108, cl_120, cl_200, cl_201, cl_576, cl_600, cl_864, cl_900, cl_960, cl_5400, cl_8040, j2_0, iN_iZ, iN_lit0, iZ_add, iZ_sub, iZ_mul, iZ_neg, jZ_add, jZ_sub, jZ_mul, jZ_neg, isB0, isB1, isBZ, eq0, eq1, bZ0, vI_, vJ_, vA_, rI_, rJ_, rA_, rV_, nX_, tX_, true_and, and_true, false_and, and_false, and_self, implies_true, forall_const, not_true_eq_false, not_false_eq_true, false_implies, true_implies, ↓reduceIte, Nat.reduceEqDiff, Int.reduceToNat, Int.reduceAdd, Int.reduceSub, Int.reduceLT, Int.reduceLE, Int.reduceEq, Int.add_zero, Int.neg_zero, Int.add_sub_cancel, Int.reduceNeg, Nat.reduceLeDiff, Nat.reduceSub, true_or, or_true, false_or, or_false, setI_d, setJ_d, setP_d, mI_row, mJ_row, mP_row, mI_row_ne, mJ_row_ne, mP_row_ne, rowI_rowI, rowJ_rowJ, rowI_sort, rowJ_sort, rowJ_rowI, rowP_rowI, rowP_rowJ, fu_app, fu_fu, mI_rowJ, mI_rowP, mJ_rowI, mJ_rowP, mP_rowI, mP_rowJ, mK_rowI, mN_rowI, mK_rowJ, mN_rowJ, mK_rowP, mN_rowP, oB_rowI, oB_rowJ, iA_rowI, iA_rowJ, iR_rowI, iR_rowJ, St_rowI, St_rowJ, K97 hS, O97 hS, P97_1 hS, P97_2 hS, P97_3 hS, P97_5 hS, P97_8 hS, P97_9 hS, P97_10 hS, P97_11 hS, K102 hS, O102 hS, A102 hS, K103 hS, O103 hS, A103 hS, p1, p2]
    refine ⟨fun z => ⟨fun y => ?_, fun y => ⟨fun w => ?_, fun w => ?_⟩⟩, fun z => ?_⟩
    · exact h0 (fun z => z.2.1 y)
    · exact h0 (fun z => by have := z.2.2; omega)
    · exact h1 ⟨by omega, y, by omega⟩
    · exact h0 (fun y => z (by rw [y.1]))
  exact key _ (fun h => ⟨_, rfl, rfl, Or.inl ⟨rfl, h⟩⟩) (fun h => ⟨_, rfl, rfl, Or.inr ⟨rfl, h⟩⟩)
end

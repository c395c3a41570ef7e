/-! rules: the class's call. -/
section
variable {G : GE} {d : Nat} {M : Mem} {B : Nat → Nat}
theorem St_P {a : Nat} {g : Nat → Option Nat} (ha : 222 ≤ a) (h : Static M) : Static (rowP M a g) := by
  have s2 : ∀ q ∈ spL, q.1 < 222 := by decide +kernel
  refine ⟨h.1, h.2.1, fun q hq => ?_⟩
  rw [mP_row_ne (by have := s2 q hq; omega)]
  exact h.2.2 q hq
theorem St_bk {k n : Nat} (hk : 222 ≤ k) (h : Static M) : Static (bkM M k n) := by
  unfold bkM inM
  simp only [setP_d]
  refine St_P (by omega) (St_P (by omega) (St_new (St_P (by omega) (St_new (St_P (by omega) (St_new (St_new (St_P (by omega) (St_new (St_P (by omega) (St_new ?_)))))))))))
  show Static (rowP _ _ _)
  exact St_P (by omega) (St_new (St_P (by omega) (St_new (St_P (by omega) (St_new (St_P (by omega) (St_new h)))))))
theorem TC_bk {k n m b : Nat} (hN : mN M = k + 1) (hk : 222 ≤ k) (h : TC M B n b) : TC (bkM M k m) B n b := by
  unfold TC TB at *
  rw [(bkM_old hN (c := 91) (by omega)).1, (bkM_old hN (c := 92) (by omega)).1, (bkM_old hN (c := 93) (by omega)).1]
  exact h
theorem TC_new {x y n b : Nat} (hN : 222 ≤ mN M) (h : TC M B n b) : TC (newC M x y) B n b := by
  unfold TC TB at *
  rw [mI_new_ne (by omega), mI_new_ne (by omega), mI_new_ne (by omega)]
  exact h
theorem BC_fr {M' : Mem} {k s : Nat} {q : Bk} (h : BC M k s q) (e : ∀ c, k ≤ c → c < k + 11 → mI M' c = mI M c ∧ mJ M' c = mJ M c) : BC M' k s q := by
  have e0 := (e k (by omega) (by omega)).1
  have e1 := (e (k + 1) (by omega) (by omega)).1
  have e2 := (e (k + 2) (by omega) (by omega)).1
  have e3 := (e (k + 3) (by omega) (by omega)).1
  have e4 := (e (k + 4) (by omega) (by omega)).1
  have e5 := (e (k + 5) (by omega) (by omega)).2
  have e6 := (e (k + 6) (by omega) (by omega)).2
  have e7 := (e (k + 7) (by omega) (by omega)).1
  have e10 := (e (k + 10) (by omega) (by omega)).1
  unfold BC CL at *
  rw [e0, e1, e2, e3, e4, e5, e6, e7, e10]
  exact h
theorem BK_fr {M' : Mem} {k n : Nat} (h : BK M k n) (hN : k + 11 ≤ mN M') (e : ∀ c, k ≤ c → c < k + 11 → mK M' c = mK M c ∧ mP M' c = mP M c) : BK M' k n := by
  unfold BK at *
  rw [(e k (by omega) (by omega)).1, (e (k + 1) (by omega) (by omega)).1, (e (k + 2) (by omega) (by omega)).1, (e (k + 3) (by omega) (by omega)).1, (e (k + 4) (by omega) (by omega)).1, (e (k + 5) (by omega) (by omega)).1, (e (k + 6) (by omega) (by omega)).1, (e (k + 7) (by omega) (by omega)).1, (e (k + 8) (by omega) (by omega)).1, (e (k + 9) (by omega) (by omega)).1, (e (k + 10) (by omega) (by omega)).1, (e k (by omega) (by omega)).2, (e (k + 7) (by omega) (by omega)).2]
  exact ⟨h.1, hN, h.2.2⟩
theorem c159 (hst : (gl G).stackTraces = false) (hS : Static M) {z : Int} {m T : Nat} (z1 : -2147483648 ≤ z) (z2 : z < 2147483648) (hm : mI M 61 6 = iZ m) (m6 : m ≤ 6) (hT : mI M 91 0 = iZ T) (t6 : T ≤ 600) (hB : ∀ j, j < T → B j < 256 ∧ mI M 92 j = iZ (B j) ∧ mI M 93 j = iZ (kd (B j))) : Ev G (d + 54) 159 [aR (some 61), aI (iZ z)] M 740 (rI fun v M' => (0 ≤ z ∧ z ≤ T) ∧ ((6 ≤ m ∧ v = iZ (-9) ∧ M' = rowI M 91 (fu (fu (fu (mI M 91) 0 (iZ 0)) 2 (iZ 0)) 3 (iZ (-1)))) ∨ (m < 6 ∧ Static M' ∧ mN M' = mN M + 11 ∧ (∀ c, c < mN M → mK M' c = mK M c ∧ (c ≠ 91 → mJ M' c = mJ M c) ∧ (c ≠ 91 → c ≠ 61 → mI M' c = mI M c) ∧ (c ≠ 94 → mP M' c = mP M c)) ∧ mI M' 91 0 = iZ 0 ∧ match pRules B z.toNat with
    | .inl (e, p) => v = iZ (-1 - e) ∧ mI M' 91 2 = iZ e ∧ mI M' 91 3 = iZ p ∧ mI M' 61 = mI M 61 ∧ mP M' 94 = mP M 94
    | .inr (c, q) => v = iZ m ∧ mI M' 91 2 = iZ 0 ∧ mI M' 91 3 = iZ (-1) ∧ mI M' 61 = fu (mI M 61) 6 (iZ ((m + 1 : Nat) : Int)) ∧ mP M' 94 = fu (mP M 94) m (some (mN M)) ∧ BK M' (mN M) z.toNat ∧ ∃ s, s ≤ z.toNat ∧ BC M' (mN M) s q))) (fun e M' => ¬ (0 ≤ z ∧ z ≤ T) ∧ e = 1 ∧ M' = M) := by
  have hN := hS.1
  have e0 := c122 (G := G) (d := d + 52) (M := M) (z := z) (T := T) hst hS z1 z2 hT (by omega) (by omega)
  refine Ev_wp 2000 hst (by decide) (Nat.le_of_ble_eq_true rfl) ?_; simp (disch := omega) only [en159, wcQ, wcX, wcG, wcL, wcS, w159_0, w159_1, w159_2, toI, toJ, toI64, inb_T, inb_iZ, Int.toNat_natCast, cl_0, cl_1, cl_2, cl_3, cl_4, cl_5, cl_6, cl_7, cl_8, cl_9, cl_10, cl_11, cl_12, cl_13, cl_14, cl_15, cl_16, cl_17, cl_18, cl_19, cl_20, cl_21, cl_22, cl_23, cl_24, cl_25, cl_26, cl_27, cl_28, cl_29, cl_30, cl_31, cl_32, cl_36, cl_40, cl_48, cl_60, cl_108, cl_120, cl_200, cl_201, cl_576, cl_600, cl_864, cl_900, cl_960, cl_5400, cl_8040, j2_0, iN_iZ, iN_lit0, iZ_add, iZ_sub, iZ_mul, iZ_neg, jZ_add, jZ_sub, jZ_mul, jZ_neg, isB0, isB1, isBZ, eq0, eq1, bZ0, vI_, vJ_, vA_, rI_, rJ_, rA_, rV_, nX_, tX_, true_and, and_true, false_and, and_false, and_self, implies_true, forall_const, not_true_eq_false, not_false_eq_true, false_implies, true_implies, ↓reduceIte, Nat.reduceEqDiff, Int.reduceToNat, Int.reduceAdd, Int.reduceSub, Int.reduceLT, Int.reduceLE, Int.reduceEq, Int.add_zero, Int.neg_zero, Int.add_sub_cancel, Int.reduceNeg, Nat.reduceLeDiff, Nat.reduceSub, true_or, or_true, false_or, or_false, setI_d, setJ_d, setP_d, mI_row, mJ_row, mP_row, mI_row_ne, mJ_row_ne, mP_row_ne, rowI_rowI, rowJ_rowJ, rowI_sort, rowJ_sort, rowJ_rowI, rowP_rowI, rowP_rowJ, fu_app, fu_fu, mI_rowJ, mI_rowP, mJ_rowI, mJ_rowP, mP_rowI, mP_rowJ, mK_rowI, mN_rowI, mK_rowJ, mN_rowJ, mK_rowP, mN_rowP, oB_rowI, oB_rowJ, iA_rowI, iA_rowJ, iR_rowI, iR_rowJ, St_rowI, St_rowJ, K61 hS, O61 hS, P61_3 hS, P61_4 hS, P61_5 hS, P61_7 hS, P61_8 hS, P61_9 hS, P61_10 hS, P61_11 hS]
  refine kV e0 (by decide) (fun M' hq => ?_) (fun e M' h => ?_)
  · obtain ⟨hz, rfl⟩ := hq
    obtain ⟨n, rfl⟩ : ∃ n : Nat, z = n := ⟨z.toNat, by omega⟩
    rw [Int.toNat_natCast]
    by_cases hm6 : m < 6
    · have hm6' : (m : Int) < 6 := by omega
      have e1 := c125 (G := G) (d := d + 51) (M := M') (B := B) (k := n) hst hS (by omega) (fun j hj => hB j (by omega))
      simp (disch := omega) only [wcQ, wcX, wcG, wcL, wcS, w159_5, w159_6, w159_9, w159_11, w159_24, w159_25, w159_28, w159_29, toI, toJ, toI64, inb_T, inb_iZ, Int.toNat_natCast, cl_0, cl_1, cl_2, cl_3, cl_4, cl_5, cl_6, cl_7, cl_8, cl_9, cl_10, cl_11, cl_12, cl_13, cl_14, cl_15, cl_16, cl_17, cl_18, cl_19, cl_20, cl_21, cl_22, cl_23, cl_24, cl_25, cl_26, cl_27, cl_28, cl_29, cl_30, cl_31, cl_32, cl_36, cl_40, cl_48, cl_60, cl_108, cl_120, cl_200, cl_201, cl_576, cl_600, cl_864, cl_900, cl_960, cl_5400, cl_8040, j2_0, iN_iZ, iN_lit0, iZ_add, iZ_sub, iZ_mul, iZ_neg, jZ_add, jZ_sub, jZ_mul, jZ_neg, isB0, isB1, isBZ, eq0, eq1, bZ0, vI_, vJ_, vA_, rI_, rJ_, rA_, rV_, nX_, tX_, true_and, and_true, false_and, and_false, and_self, implies_true, forall_const, not_true_eq_false, not_false_eq_true, false_implies, true_implies, ↓reduceIte, Nat.reduceEqDiff, Int.reduceToNat, Int.reduceAdd, Int.reduceSub, Int.reduceLT, Int.reduceLE, Int.reduceEq, Int.add_zero, Int.neg_zero, Int.add_sub_cancel, Int.reduceNeg, Nat.reduceLeDiff, Nat.reduceSub, true_or, or_true, false_or, or_false, setI_d, setJ_d, setP_d, mI_row, mJ_row, mP_row, mI_row_ne, mJ_row_ne, mP_row_ne, rowI_rowI, rowJ_rowJ, rowI_sort, rowJ_sort, rowJ_rowI, rowP_rowI, rowP_rowJ, fu_app, fu_fu, mI_rowJ, mI_rowP, mJ_rowI, mJ_rowP, mP_rowI, mP_rowJ, mK_rowI, mN_rowI, mK_rowJ, mN_rowJ, mK_rowP, mN_rowP, oB_rowI, oB_rowJ, iA_rowI, iA_rowJ, iR_rowI, iR_rowJ, St_rowI, St_rowJ, K61 hS, O61 hS, P61_3 hS, P61_4 hS, P61_5 hS, P61_7 hS, P61_8 hS, P61_9 hS, P61_10 hS, P61_11 hS, K91 hS, O91 hS, P91_4 hS, P91_5 hS, hm, hm6']
      refine kV e1 (Nat.zero_le _) (fun M1 hq => ?_) (fun e M' h => False.elim h)
      have hM1 : M1 = stM (rowI M' 91 (fu (fu (fu (fu (mI M' 91) 0 (iZ 0)) 2 (iZ 0)) 3 (iZ (-1))) 6 (iZ n))) B n (bl B n 0) := by
        rw [hq]; unfold stM; rw [mI_row, rowI_rowI]
      have T1 : TC M1 B n (bl B n 0) := by
        rw [hM1]
        refine TC_st ⟨by omega, fun j hj => ?_, ?_⟩ (bl_b.2 (Nat.zero_le _))
        · rw [mI_row_ne (by decide), mI_row_ne (by decide)]; exact hB j (by omega)
        · rw [mI_row]; unfold fu; simp
      have I1 : ∀ c, c ≠ 91 → mI M1 c = mI M' c := fun c hc => by rw [hq, mI_row_ne hc]
      have J1 : mJ M1 = mJ M' := by rw [hq]; rfl
      have P1 : mP M1 = mP M' := by rw [hq]; rfl
      have K1 : mK M1 = mK M' := by rw [hq]; rfl
      have N1 : mN M1 = mN M' := by rw [hq]; rfl
      have S1 : Static M1 := by rw [hq]; exact hS
      have Z1 : mI M1 91 0 = iZ 0 := by rw [hq, mI_row]; unfold tR fu; simp
      clear hq hM1 e1
      generalize hk : mN M' = k at *
      have T2 : TC (newC M1 6 14) B n (bl B n 0) := TC_new (by omega) T1
      have S2 : Static (newC M1 6 14) := St_new S1
      have N2 : mN (newC M1 6 14) = k + 1 := by rw [mN_new, N1]
      have o2 : oB (newC M1 6 14) k 6 := by rw [← N1]; exact oB_new_self (by omega)
      have I2 : ∀ c, c < k → mI (newC M1 6 14) c = mI M1 c := fun c hc => mI_new_ne (by omega)
      have J2 : ∀ c, c < k → mJ (newC M1 6 14) c = mJ M1 c := fun c hc => mJ_new_ne (by omega)
      have P2 : ∀ c, c < k → mP (newC M1 6 14) c = mP M1 c := fun c hc => mP_new_ne (by omega)
      have K2 : ∀ c, c < k → mK (newC M1 6 14) c = mK M1 c := fun c hc => mK_new_ne (by omega)
      have Z2 : ∀ j, mI (newC M1 6 14) k j = 0 := fun j => by rw [← N1, mI_newC]
      have e2 := c127 (G := G) (d := d + 50) (M := newC M1 6 14) (k := k) (n := n) hst o2 N2 (by omega) (by omega)
      have B3 : BK (bkM (newC M1 6 14) k n) k n := bkM_K N2 (by omega) o2.2.2
      have C3 : BC (bkM (newC M1 6 14) k n) k 0 bk0 := bkM_C N2 Z2
      have N3 : mN (bkM (newC M1 6 14) k n) = k + 11 := bkM_N N2
      have T3 : TC (bkM (newC M1 6 14) k n) B n (bl B n 0) := TC_bk N2 (by omega) T2
      have S3 : Static (bkM (newC M1 6 14) k n) := St_bk (by omega) S2
      have old := fun c (hc : c < k) => bkM_old (n := n) N2 hc
      have e3 := c158 (G := G) (d := d) hst S3 T3 B3 C3 rfl
      simp (disch := omega) only [wcQ, wcX, wcG, wcL, wcS, w159_32, w159_35, w159_36, w159_37, toI, toJ, toI64, inb_T, inb_iZ, Int.toNat_natCast, cl_0, cl_1, cl_2, cl_3, cl_4, cl_5, cl_6, cl_7, cl_8, cl_9, cl_10, cl_11, cl_12, cl_13, cl_14, cl_15, cl_16, cl_17, cl_18, cl_19, cl_20, cl_21, cl_22, cl_23, cl_24, cl_25, cl_26, cl_27, cl_28, cl_29, cl_30, cl_31, cl_32, cl_36, cl_40, cl_48, cl_60, cl_108, cl_120, cl_200, cl_201, cl_576, cl_600, cl_864, cl_900, cl_960, cl_5400, cl_8040, j2_0, iN_iZ, iN_lit0, iZ_add, iZ_sub, iZ_mul, iZ_neg, jZ_add, jZ_sub, jZ_mul, jZ_neg, isB0, isB1, isBZ, eq0, eq1, bZ0, vI_, vJ_, vA_, rI_, rJ_, rA_, rV_, nX_, tX_, true_and, and_true, false_and, and_false, and_self, implies_true, forall_const, not_true_eq_false, not_false_eq_true, false_implies, true_implies, ↓reduceIte, Nat.reduceEqDiff, Int.reduceToNat, Int.reduceAdd, Int.reduceSub, Int.reduceLT, Int.reduceLE, Int.reduceEq, Int.add_zero, Int.neg_zero, Int.add_sub_cancel, Int.reduceNeg, Nat.reduceLeDiff, Nat.reduceSub, true_or, or_true, false_or, or_false, setI_d, setJ_d, setP_d, mI_row, mJ_row, mP_row, mI_row_ne, mJ_row_ne, mP_row_ne, rowI_rowI, rowJ_rowJ, rowI_sort, rowJ_sort, rowJ_rowI, rowP_rowI, rowP_rowJ, fu_app, fu_fu, mI_rowJ, mI_rowP, mJ_rowI, mJ_rowP, mP_rowI, mP_rowJ, mK_rowI, mN_rowI, mK_rowJ, mN_rowJ, mK_rowP, mN_rowP, oB_rowI, oB_rowJ, iA_rowI, iA_rowJ, iR_rowI, iR_rowJ, St_rowI, St_rowJ, N1]
      refine kV e2 (by omega) (fun M3 hq => ?_) (fun e M' h => False.elim h)
      subst hq
      generalize hM3 : bkM (newC M1 6 14) k n = M3 at *
      have o3 : oB M3 k 6 = True := bk_o B3
      simp (disch := omega) only [wcQ, wcX, wcG, wcL, wcS, w159_40, w159_41, w159_42, w159_43, w159_46, toI, toJ, toI64, inb_T, inb_iZ, Int.toNat_natCast, cl_0, cl_1, cl_2, cl_3, cl_4, cl_5, cl_6, cl_7, cl_8, cl_9, cl_10, cl_11, cl_12, cl_13, cl_14, cl_15, cl_16, cl_17, cl_18, cl_19, cl_20, cl_21, cl_22, cl_23, cl_24, cl_25, cl_26, cl_27, cl_28, cl_29, cl_30, cl_31, cl_32, cl_36, cl_40, cl_48, cl_60, cl_108, cl_120, cl_200, cl_201, cl_576, cl_600, cl_864, cl_900, cl_960, cl_5400, cl_8040, j2_0, iN_iZ, iN_lit0, iZ_add, iZ_sub, iZ_mul, iZ_neg, jZ_add, jZ_sub, jZ_mul, jZ_neg, isB0, isB1, isBZ, eq0, eq1, bZ0, vI_, vJ_, vA_, rI_, rJ_, rA_, rV_, nX_, tX_, true_and, and_true, false_and, and_false, and_self, implies_true, forall_const, not_true_eq_false, not_false_eq_true, false_implies, true_implies, ↓reduceIte, Nat.reduceEqDiff, Int.reduceToNat, Int.reduceAdd, Int.reduceSub, Int.reduceLT, Int.reduceLE, Int.reduceEq, Int.add_zero, Int.neg_zero, Int.add_sub_cancel, Int.reduceNeg, Nat.reduceLeDiff, Nat.reduceSub, true_or, or_true, false_or, or_false, setI_d, setJ_d, setP_d, mI_row, mJ_row, mP_row, mI_row_ne, mJ_row_ne, mP_row_ne, rowI_rowI, rowJ_rowJ, rowI_sort, rowJ_sort, rowJ_rowI, rowP_rowI, rowP_rowJ, fu_app, fu_fu, mI_rowJ, mI_rowP, mJ_rowI, mJ_rowP, mP_rowI, mP_rowJ, mK_rowI, mN_rowI, mK_rowJ, mN_rowJ, mK_rowP, mN_rowP, oB_rowI, oB_rowJ, iA_rowI, iA_rowJ, iR_rowI, iR_rowJ, St_rowI, St_rowJ, K61 hS, O61 hS, P61_3 hS, P61_4 hS, P61_5 hS, P61_7 hS, P61_8 hS, P61_9 hS, P61_10 hS, P61_11 hS, K91 hS, O91 hS, P91_4 hS, P91_5 hS, K61 S3, O61 S3, P61_4 S3, K91 S3, O91 S3, o3]
      refine kI e3 (Nat.zero_le _) (fun v M4 hq => ?_) (fun e M' h => False.elim h)
      match hp : pRules B n with
      | .inl (e, p) =>
        rw [QB_i hp] at hq
        obtain ⟨F4, rfl, g2, g3⟩ := hq
        have S4 := Fm_Static F4 S3
        obtain ⟨f1, f2, f3, f4, f5, f6⟩ := F4
        simp (disch := omega) only [wcQ, wcX, wcG, wcL, wcS, w159_49, w159_52, w159_53, w159_54, w159_57, w159_60, w159_61, toI, toJ, toI64, inb_T, inb_iZ, Int.toNat_natCast, cl_0, cl_1, cl_2, cl_3, cl_4, cl_5, cl_6, cl_7, cl_8, cl_9, cl_10, cl_11, cl_12, cl_13, cl_14, cl_15, cl_16, cl_17, cl_18, cl_19, cl_20, cl_21, cl_22, cl_23, cl_24, cl_25, cl_26, cl_27, cl_28, cl_29, cl_30, cl_31, cl_32, cl_36, cl_40, cl_48, cl_60, cl_108, cl_120, cl_200, cl_201, cl_576, cl_600, cl_864, cl_900, cl_960, cl_5400, cl_8040, j2_0, iN_iZ, iN_lit0, iZ_add, iZ_sub, iZ_mul, iZ_neg, jZ_add, jZ_sub, jZ_mul, jZ_neg, isB0, isB1, isBZ, eq0, eq1, bZ0, vI_, vJ_, vA_, rI_, rJ_, rA_, rV_, nX_, tX_, true_and, and_true, false_and, and_false, and_self, implies_true, forall_const, not_true_eq_false, not_false_eq_true, false_implies, true_implies, ↓reduceIte, Nat.reduceEqDiff, Int.reduceToNat, Int.reduceAdd, Int.reduceSub, Int.reduceLT, Int.reduceLE, Int.reduceEq, Int.add_zero, Int.neg_zero, Int.add_sub_cancel, Int.reduceNeg, Nat.reduceLeDiff, Nat.reduceSub, true_or, or_true, false_or, or_false, setI_d, setJ_d, setP_d, mI_row, mJ_row, mP_row, mI_row_ne, mJ_row_ne, mP_row_ne, rowI_rowI, rowJ_rowJ, rowI_sort, rowJ_sort, rowJ_rowI, rowP_rowI, rowP_rowJ, fu_app, fu_fu, mI_rowJ, mI_rowP, mJ_rowI, mJ_rowP, mP_rowI, mP_rowJ, mK_rowI, mN_rowI, mK_rowJ, mN_rowJ, mK_rowP, mN_rowP, oB_rowI, oB_rowJ, iA_rowI, iA_rowJ, iR_rowI, iR_rowJ, St_rowI, St_rowJ, K61 S4, O61 S4, P61_4 S4, K91 S4, O91 S4, g2]
        refine ⟨hz, Or.inr ⟨hm6, S4, f2.trans N3, fun c hc => ⟨?_, fun z => ?_, fun h1 h2 => ?_, fun h1 => ?_⟩, ?_, g3, ?_, ?_⟩⟩
        · rw [f1, (old c hc).2.2.2, K2 c hc, K1]
        · rw [(f4 c z (Or.inl hc)).2, (old c hc).2.1, J2 c hc, J1]
        · rw [(f4 c h1 (Or.inl hc)).1, (old c hc).1, I2 c hc, I1 c h1]
        · rw [f3, (old c hc).2.2.1, P2 c hc, P1]
        · rw [f5, (old 91 (by omega)).1, I2 91 (by omega)]; exact Z1
        · rw [(f4 61 (by decide) (Or.inl (by omega))).1, (old 61 (by omega)).1, I2 61 (by omega), I1 61 (by decide)]
        · rw [f3, (old 94 (by omega)).2.2.1, P2 94 (by omega), P1]
      | .inr (c, q) =>
        rw [QB_r hp] at hq
        obtain ⟨F4, rfl, T4, s4, g4, C4⟩ := hq
        have S4 := Fm_Static F4 S3
        have B4 := Fm_BK F4 B3
        obtain ⟨f1, f2, f3, f4, f5, f6⟩ := F4
        have hm4 : mI M4 61 6 = iZ m := by
          rw [(f4 61 (by decide) (Or.inl (by omega))).1, (old 61 (by omega)).1, I2 61 (by omega), I1 61 (by decide)]; exact hm
        have o4 : oB M4 k 6 = True := bk_o B4
        have hs4 : iS M4 94 (iZ m) k = True := eq_true (by
          have h1 : iA M4 94 23 (iZ m) := by rw [A94 S4, inb_T (by omega) (by omega) (by omega)]; trivial
          first | exact Or.inl ⟨h1, by rw [o4]; trivial⟩ | exact Or.inr (Or.inl ⟨h1, by rw [o4]; trivial⟩))
        simp (disch := omega) only [wcQ, wcX, wcG, wcL, wcS, w159_49, w159_62, w159_63, w159_66, w159_67, w159_70, w159_71, w159_72, w159_73, w159_74, w159_77, w159_78, w159_79, w159_82, w159_83, w159_86, w159_87, w159_88, toI, toJ, toI64, inb_T, inb_iZ, Int.toNat_natCast, cl_0, cl_1, cl_2, cl_3, cl_4, cl_5, cl_6, cl_7, cl_8, cl_9, cl_10, cl_11, cl_12, cl_13, cl_14, cl_15, cl_16, cl_17, cl_18, cl_19, cl_20, cl_21, cl_22, cl_23, cl_24, cl_25, cl_26, cl_27, cl_28, cl_29, cl_30, cl_31, cl_32, cl_36, cl_40, cl_48, cl_60, cl_108, cl_120, cl_200, cl_201, cl_576, cl_600, cl_864, cl_900, cl_960, cl_5400, cl_8040, j2_0, iN_iZ, iN_lit0, iZ_add, iZ_sub, iZ_mul, iZ_neg, jZ_add, jZ_sub, jZ_mul, jZ_neg, isB0, isB1, isBZ, eq0, eq1, bZ0, vI_, vJ_, vA_, rI_, rJ_, rA_, rV_, nX_, tX_, true_and, and_true, false_and, and_false, and_self, implies_true, forall_const, not_true_eq_false, not_false_eq_true, false_implies, true_implies, ↓reduceIte, Nat.reduceEqDiff, Int.reduceToNat, Int.reduceAdd, Int.reduceSub, Int.reduceLT, Int.reduceLE, Int.reduceEq, Int.add_zero, Int.neg_zero, Int.add_sub_cancel, Int.reduceNeg, Nat.reduceLeDiff, Nat.reduceSub, true_or, or_true, false_or, or_false, setI_d, setJ_d, setP_d, mI_row, mJ_row, mP_row, mI_row_ne, mJ_row_ne, mP_row_ne, rowI_rowI, rowJ_rowJ, rowI_sort, rowJ_sort, rowJ_rowI, rowP_rowI, rowP_rowJ, fu_app, fu_fu, mI_rowJ, mI_rowP, mJ_rowI, mJ_rowP, mP_rowI, mP_rowJ, mK_rowI, mN_rowI, mK_rowJ, mN_rowJ, mK_rowP, mN_rowP, oB_rowI, oB_rowJ, iA_rowI, iA_rowJ, iR_rowI, iR_rowJ, St_rowI, St_rowJ, K61 S4, O61 S4, P61_5 S4, K94 S4, O94 S4, A94 S4, R94 S4, hm4, o4, hs4, oB_rowP]
        have h61 : mI M4 61 = mI M' 61 := by rw [(f4 61 (by decide) (Or.inl (by omega))).1, (old 61 (by omega)).1, I2 61 (by omega), I1 61 (by decide)]
        have h94 : mP M4 94 = mP M' 94 := by rw [f3, (old 94 (by omega)).2.2.1, P2 94 (by omega), P1]
        refine ⟨hz, Or.inr ⟨hm6, ?_, f2.trans N3, fun c hc => ⟨?_, fun z => ?_, fun h1 h2 => ?_, fun h1 => ?_⟩, ?_, T4.1.2.2.2.1, T4.1.2.2.2.2, ?_, ?_, ?_, s4, Nat.le_trans g4 T4.2.1, ?_⟩⟩
        · exact St_rowP sp94 S4
        · rw [f1, (old c hc).2.2.2, K2 c hc, K1]
        · rw [(f4 c z (Or.inl hc)).2, (old c hc).2.1, J2 c hc, J1]
        · rw [mI_row_ne h2, mI_rowP, (f4 c h1 (Or.inl hc)).1, (old c hc).1, I2 c hc, I1 c h1]
        · rw [mP_row_ne h1, f3, (old c hc).2.2.1, P2 c hc, P1]
        · rw [f5, (old 91 (by omega)).1, I2 91 (by omega)]; exact Z1
        · rw [h61]; rfl
        · rw [h94]
        · exact BK_fr B4 (by show k + 11 ≤ mN M4; rw [f2, N3]; exact Nat.le_refl _) (fun c h1 h2 => ⟨rfl, by show mP (rowP M4 94 _) c = _; rw [mP_row_ne (by omega)]⟩)
        · exact BC_fr C4 (fun c h1 h2 => ⟨by rw [mI_row_ne (by omega)]; rfl, rfl⟩)
    · have hm6' : ¬ (m : Int) < 6 := by omega
      have e1 := c123 (G := G) (d := d + 52) (M := M') hst hS
      simp (disch := omega) only [wcQ, wcX, wcG, wcL, wcS, w159_5, w159_6, w159_9, w159_11, w159_14, w159_15, w159_18, toI, toJ, toI64, inb_T, inb_iZ, Int.toNat_natCast, cl_0, cl_1, cl_2, cl_3, cl_4, cl_5, cl_6, cl_7, cl_8, cl_9, cl_10, cl_11, cl_12, cl_13, cl_14, cl_15, cl_16, cl_17, cl_18, cl_19, cl_20, cl_21, cl_22, cl_23, cl_24, cl_25, cl_26, cl_27, cl_28, cl_29, cl_30, cl_31, cl_32, cl_36, cl_40, cl_48, cl_60, cl_108, cl_120, cl_200, cl_201, cl_576, cl_600, cl_864, cl_900, cl_960, cl_5400, cl_8040, j2_0, iN_iZ, iN_lit0, iZ_add, iZ_sub, iZ_mul, iZ_neg, jZ_add, jZ_sub, jZ_mul, jZ_neg, isB0, isB1, isBZ, eq0, eq1, bZ0, vI_, vJ_, vA_, rI_, rJ_, rA_, rV_, nX_, tX_, true_and, and_true, false_and, and_false, and_self, implies_true, forall_const, not_true_eq_false, not_false_eq_true, false_implies, true_implies, ↓reduceIte, Nat.reduceEqDiff, Int.reduceToNat, Int.reduceAdd, Int.reduceSub, Int.reduceLT, Int.reduceLE, Int.reduceEq, Int.add_zero, Int.neg_zero, Int.add_sub_cancel, Int.reduceNeg, Nat.reduceLeDiff, Nat.reduceSub, true_or, or_true, false_or, or_false, setI_d, setJ_d, setP_d, mI_row, mJ_row, mP_row, mI_row_ne, mJ_row_ne, mP_row_ne, rowI_rowI, rowJ_rowJ, rowI_sort, rowJ_sort, rowJ_rowI, rowP_rowI, rowP_rowJ, fu_app, fu_fu, mI_rowJ, mI_rowP, mJ_rowI, mJ_rowP, mP_rowI, mP_rowJ, mK_rowI, mN_rowI, mK_rowJ, mN_rowJ, mK_rowP, mN_rowP, oB_rowI, oB_rowJ, iA_rowI, iA_rowJ, iR_rowI, iR_rowJ, St_rowI, St_rowJ, K61 hS, O61 hS, P61_3 hS, P61_4 hS, P61_5 hS, P61_7 hS, P61_8 hS, P61_9 hS, P61_10 hS, P61_11 hS, K91 hS, O91 hS, P91_4 hS, P91_5 hS, hm, hm6']
      refine kV e1 (Nat.zero_le _) (fun M1 hq => ?_) (fun e M' h => False.elim h)
      subst hq
      simp (disch := omega) only [wcQ, wcX, wcG, wcL, wcS, w159_21, w159_23, toI, toJ, toI64, inb_T, inb_iZ, Int.toNat_natCast, cl_0, cl_1, cl_2, cl_3, cl_4, cl_5, cl_6, cl_7, cl_8, cl_9, cl_10, cl_11, cl_12, cl_13, cl_14, cl_15, cl_16, cl_17, cl_18, cl_19, cl_20, cl_21, cl_22, cl_23, cl_24, cl_25, cl_26, cl_27, cl_28, cl_29, cl_30, cl_31, cl_32, cl_36, cl_40, cl_48, cl_60, cl_108, cl_120, cl_200, cl_201, cl_576, cl_600, cl_864, cl_900, cl_960, cl_5400, cl_8040, j2_0, iN_iZ, iN_lit0, iZ_add, iZ_sub, iZ_mul, iZ_neg, jZ_add, jZ_sub, jZ_mul, jZ_neg, isB0, isB1, isBZ, eq0, eq1, bZ0, vI_, vJ_, vA_, rI_, rJ_, rA_, rV_, nX_, tX_, true_and, and_true, false_and, and_false, and_self, implies_true, forall_const, not_true_eq_false, not_false_eq_true, false_implies, true_implies, ↓reduceIte, Nat.reduceEqDiff, Int.reduceToNat, Int.reduceAdd, Int.reduceSub, Int.reduceLT, Int.reduceLE, Int.reduceEq, Int.add_zero, Int.neg_zero, Int.add_sub_cancel, Int.reduceNeg, Nat.reduceLeDiff, Nat.reduceSub, true_or, or_true, false_or, or_false, setI_d, setJ_d, setP_d, mI_row, mJ_row, mP_row, mI_row_ne, mJ_row_ne, mP_row_ne, rowI_rowI, rowJ_rowJ, rowI_sort, rowJ_sort, rowJ_rowI, rowP_rowI, rowP_rowJ, fu_app, fu_fu, mI_rowJ, mI_rowP, mJ_rowI, mJ_rowP, mP_rowI, mP_rowJ, mK_rowI, mN_rowI, mK_rowJ, mN_rowJ, mK_rowP, mN_rowP, oB_rowI, oB_rowJ, iA_rowI, iA_rowJ, iR_rowI, iR_rowJ, St_rowI, St_rowJ]
      exact ⟨hz, by omega⟩
  · exact h
end

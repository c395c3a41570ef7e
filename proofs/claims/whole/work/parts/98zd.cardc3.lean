/-! card: the class's call. -/
section
variable {G : GE} {d : Nat} {M M' M'' : Mem} {s : Sn} {kb ra ca : Nat → Nat} {B : Nat → Nat} {u c a k i j n T N : Nat} {D z y : Int}
theorem bk_ne (h : BK M k N) (ha : oB M a 7) : a < k ∨ k + 11 ≤ a := by
  obtain ⟨_, _, a3⟩ := ha
  have e0 : (mK M k).1 = 6 := by unfold BK at h; simp only [h]
  have e7 : (mK M (k + 7)).1 = 3 := by unfold BK at h; simp only [h]
  have e1 := bk_k1 h
  have e2 := bk_k2 h
  have e3 := bk_k3 h
  have e4 := bk_k4 h
  have e5 := bk_k5 h
  have e6 := bk_k6 h
  have e8 := bk_k8 h
  have e9 := bk_k9 h
  have e10 := bk_kx h
  have n : ∀ x w v, mK M x = (w, v) → w ≠ 7 → a ≠ x := fun x w v h1 h2 h3 => by rw [h3, h1] at a3; exact h2 a3
  have n0 : a ≠ k := fun z => by rw [z, e0] at a3; exact absurd a3 (by decide)
  have n7 : a ≠ k + 7 := fun z => by rw [z, e7] at a3; exact absurd a3 (by decide)
  have n1 := n _ _ _ e1 (by decide)
  have n2 := n _ _ _ e2 (by decide)
  have n3 := n _ _ _ e3 (by decide)
  have n4 := n _ _ _ e4 (by decide)
  have n5 := n _ _ _ e5 (by decide)
  have n6 := n _ _ _ e6 (by decide)
  have n8 := n _ _ _ e8 (by decide)
  have n9 := n _ _ _ e9 (by decide)
  have n10 := n _ _ _ e10 (by decide)
  omega
/-- what a card's telling leaves as it was -/
def FS (M M' : Mem) : Prop := Static M' ∧ mN M ≤ mN M' ∧ ∀ y, y < 222 → mK M' y = mK M y ∧ mJ M' y = mJ M y ∧ (y ≠ 95 → mP M' y = mP M y) ∧ (y ≠ 91 → y ≠ 95 → y ≠ 96 → y ≠ 97 → mI M' y = mI M y)
def QD (M : Mem) (s : Sn) (kb ra ca : Nat → Nat) (z D : Int) (r : (Nat × Nat) ⊕ (Rw × Int × Bool)) (v : Int32) (M' : Mem) : Prop := FS M M' ∧ mI M' 91 0 = iZ 0 ∧ match r with
  | .inl (e, p) => v = iZ e ∧ mI M' 91 2 = iZ e ∧ mI M' 91 3 = iZ p ∧ CSn M' s kb ra ca
  | .inr (rows, t, re) => v = iZ 0 ∧ mI M' 91 2 = iZ 0 ∧ mI M' 91 3 = iZ (-1) ∧ CSn M' (addC s z.toNat D rows t re) kb ra (fu ca (nCd s) (mN M))
theorem QD_i {r : (Nat × Nat) ⊕ (Rw × Int × Bool)} {e p : Nat} {v : Int32} (h : r = .inl (e, p)) : QD M s kb ra ca z D r v M' = (FS M M' ∧ mI M' 91 0 = iZ 0 ∧ v = iZ e ∧ mI M' 91 2 = iZ e ∧ mI M' 91 3 = iZ p ∧ CSn M' s kb ra ca) := by rw [h]; rfl
theorem QD_r {r : (Nat × Nat) ⊕ (Rw × Int × Bool)} {rows : Rw} {t : Int} {re : Bool} {v : Int32} (h : r = .inr (rows, t, re)) : QD M s kb ra ca z D r v M' = (FS M M' ∧ mI M' 91 0 = iZ 0 ∧ v = iZ 0 ∧ mI M' 91 2 = iZ 0 ∧ mI M' 91 3 = iZ (-1) ∧ CSn M' (addC s z.toNat D rows t re) kb ra (fu ca (nCd s) (mN M))) := by rw [h]; rfl
theorem c184 (hst : (gl G).stackTraces = false) (hS : Static M) (hO : Sok s) (hC : CSn M s kb ra ca) (hD : Dj s kb) (z1 : -2147483648 ≤ z) (z2 : z < 2147483648) (y1 : -2147483648 ≤ y) (y2 : y < 2147483648) (hT : mI M 91 0 = iZ T) (t6 : T ≤ 600) (hB : ∀ j, j < T → B j < 256 ∧ mI M 92 j = iZ (B j) ∧ mI M 93 j = iZ (kd (B j))) (hd : mI M 61 0 = iZ D) (D0 : 0 ≤ D) (D9 : D ≤ 999) : Ev G (d + 13) 184 [aR (some 61), aI (iZ z), aI (iZ y)] M 71 (rI fun v M' => (0 ≤ z ∧ z < nRn s) ∧ (0 ≤ y ∧ y ≤ T) ∧ ((200 ≤ nCd s ∧ v = iZ 9 ∧ M' = rowI M 91 (fu (fu (fu (mI M 91) 0 (iZ 0)) 2 (iZ 0)) 3 (iZ (-1)))) ∨ (nCd s < 200 ∧ QD M s kb ra ca z D (kCard B y.toNat (uBk s z.toNat)) v M'))) (fun e M' => M' = M ∧ ((¬ (0 ≤ z ∧ z < nRn s) ∧ e = 0) ∨ ((0 ≤ z ∧ z < nRn s) ∧ ¬ (0 ≤ y ∧ y ≤ T) ∧ e = 1))) := by
  have hS1 := hS.1
  have r120 := hO.2.2.1.1
  have e0 := c167 (G := G) (d := d + 10) (M := M) (z := z) (n := nRn s) hst hS z1 z2 hC.2.2.1.1 (by omega) (by omega)
  have e1 := c122 (G := G) (d := d + 11) (M := M) (z := y) (T := T) hst hS y1 y2 hT (by omega) (by omega)
  refine Ev_wp 2000 hst (by decide) (Nat.le_of_ble_eq_true rfl) ?_; simp (disch := omega) only [en184, wcQ, wcX, wcG, wcL, wcS, w184_0, w184_1, w184_2, toI, toJ, toI64, inb_T, inb_iZ, Int.toNat_natCast, cl_0, cl_1, cl_2, cl_3, cl_4, cl_5, cl_6, cl_7, cl_8, cl_9, cl_10, cl_11, cl_12, cl_13, cl_14, cl_15, cl_16, cl_17, cl_18, cl_19, cl_20, cl_21, cl_22, cl_23, cl_24, cl_25, cl_26, cl_27, cl_28, cl_29, cl_30, cl_31, cl_32, cl_36, cl_40, cl_48, cl_60, cl_108, cl_120, cl_200, cl_201, cl_576, cl_600, cl_864, cl_900, cl_960, cl_5400, cl_8040, j2_0, iN_iZ, iN_lit0, iZ_add, iZ_sub, iZ_mul, iZ_neg, jZ_add, jZ_sub, jZ_mul, jZ_neg, isB0, isB1, isBZ, eq0, eq1, bZ0, vI_, vJ_, vA_, rI_, rJ_, rA_, rV_, nX_, tX_, true_and, and_true, false_and, and_false, and_self, implies_true, forall_const, not_true_eq_false, not_false_eq_true, false_implies, true_implies, ↓reduceIte, Nat.reduceEqDiff, Int.reduceToNat, Int.reduceAdd, Int.reduceSub, Int.reduceLT, Int.reduceLE, Int.reduceEq, Int.add_zero, Int.neg_zero, Int.add_sub_cancel, Int.reduceNeg, Nat.reduceLeDiff, Nat.reduceSub, true_or, or_true, false_or, or_false, setI_d, setJ_d, setP_d, mI_row, mJ_row, mP_row, mI_row_ne, mJ_row_ne, mP_row_ne, rowI_rowI, rowJ_rowJ, rowI_sort, rowJ_sort, rowJ_rowI, rowP_rowI, rowP_rowJ, fu_app, fu_fu, mI_rowJ, mI_rowP, mJ_rowI, mJ_rowP, mP_rowI, mP_rowJ, mK_rowI, mN_rowI, mK_rowJ, mN_rowJ, mK_rowP, mN_rowP, oB_rowI, oB_rowJ, iA_rowI, iA_rowJ, iR_rowI, iR_rowJ, St_rowI, St_rowJ, K61 hS, O61 hS, P61_3 hS, P61_4 hS, P61_5 hS, P61_7 hS, P61_8 hS, P61_9 hS, P61_10 hS, P61_11 hS]
  refine kV e0 (by decide) (fun M' hq => ?_) (fun e M' h => ⟨h.2.2, Or.inl ⟨h.1, h.2.1⟩⟩)
  obtain ⟨hz, hM⟩ := hq
  have hM := hM.symm
  subst hM
  obtain ⟨u, rfl⟩ : ∃ u : Nat, z = u := ⟨z.toNat, by omega⟩
  simp (disch := omega) only [wcQ, wcX, wcG, wcL, wcS, w184_5, w184_6, w184_7, toI, toJ, toI64, inb_T, inb_iZ, Int.toNat_natCast, cl_0, cl_1, cl_2, cl_3, cl_4, cl_5, cl_6, cl_7, cl_8, cl_9, cl_10, cl_11, cl_12, cl_13, cl_14, cl_15, cl_16, cl_17, cl_18, cl_19, cl_20, cl_21, cl_22, cl_23, cl_24, cl_25, cl_26, cl_27, cl_28, cl_29, cl_30, cl_31, cl_32, cl_36, cl_40, cl_48, cl_60, cl_108, cl_120, cl_200, cl_201, cl_576, cl_600, cl_864, cl_900, cl_960, cl_5400, cl_8040, j2_0, iN_iZ, iN_lit0, iZ_add, iZ_sub, iZ_mul, iZ_neg, jZ_add, jZ_sub, jZ_mul, jZ_neg, isB0, isB1, isBZ, eq0, eq1, bZ0, vI_, vJ_, vA_, rI_, rJ_, rA_, rV_, nX_, tX_, true_and, and_true, false_and, and_false, and_self, implies_true, forall_const, not_true_eq_false, not_false_eq_true, false_implies, true_implies, ↓reduceIte, Nat.reduceEqDiff, Int.reduceToNat, Int.reduceAdd, Int.reduceSub, Int.reduceLT, Int.reduceLE, Int.reduceEq, Int.add_zero, Int.neg_zero, Int.add_sub_cancel, Int.reduceNeg, Nat.reduceLeDiff, Nat.reduceSub, true_or, or_true, false_or, or_false, setI_d, setJ_d, setP_d, mI_row, mJ_row, mP_row, mI_row_ne, mJ_row_ne, mP_row_ne, rowI_rowI, rowJ_rowJ, rowI_sort, rowJ_sort, rowJ_rowI, rowP_rowI, rowP_rowJ, fu_app, fu_fu, mI_rowJ, mI_rowP, mJ_rowI, mJ_rowP, mP_rowI, mP_rowJ, mK_rowI, mN_rowI, mK_rowJ, mN_rowJ, mK_rowP, mN_rowP, oB_rowI, oB_rowJ, iA_rowI, iA_rowJ, iR_rowI, iR_rowJ, St_rowI, St_rowJ, K61 hS, O61 hS, P61_3 hS, P61_4 hS, P61_5 hS, P61_7 hS, P61_8 hS, P61_9 hS, P61_10 hS, P61_11 hS]
  refine kV e1 (by decide) (fun M' hq => ?_) (fun e M' h => ⟨h.2.2, Or.inr ⟨hz, h.1, h.2.1⟩⟩)
  obtain ⟨hy, hM⟩ := hq
  have hM := hM.symm
  subst hM
  obtain ⟨n, rfl⟩ : ∃ n : Nat, y = n := ⟨y.toNat, by omega⟩
  have hc6 := hC.2.2.2.1.1
  have c200 := hO.2.2.2.1.1
  by_cases w : nCd s < 200
  · have w' : (nCd s : Int) < 200 := by omega
    have e2 := c125 (G := G) (d := d + 10) (M := M) (B := B) (k := n) hst hS (by omega) (fun j hj => hB j (by omega))
    simp (disch := omega) only [wcQ, wcX, wcG, wcL, wcS, w184_10, w184_11, w184_14, w184_17, w184_20, w184_33, w184_34, w184_37, w184_38, toI, toJ, toI64, inb_T, inb_iZ, Int.toNat_natCast, cl_0, cl_1, cl_2, cl_3, cl_4, cl_5, cl_6, cl_7, cl_8, cl_9, cl_10, cl_11, cl_12, cl_13, cl_14, cl_15, cl_16, cl_17, cl_18, cl_19, cl_20, cl_21, cl_22, cl_23, cl_24, cl_25, cl_26, cl_27, cl_28, cl_29, cl_30, cl_31, cl_32, cl_36, cl_40, cl_48, cl_60, cl_108, cl_120, cl_200, cl_201, cl_576, cl_600, cl_864, cl_900, cl_960, cl_5400, cl_8040, j2_0, iN_iZ, iN_lit0, iZ_add, iZ_sub, iZ_mul, iZ_neg, jZ_add, jZ_sub, jZ_mul, jZ_neg, isB0, isB1, isBZ, eq0, eq1, bZ0, vI_, vJ_, vA_, rI_, rJ_, rA_, rV_, nX_, tX_, true_and, and_true, false_and, and_false, and_self, implies_true, forall_const, not_true_eq_false, not_false_eq_true, false_implies, true_implies, ↓reduceIte, Nat.reduceEqDiff, Int.reduceToNat, Int.reduceAdd, Int.reduceSub, Int.reduceLT, Int.reduceLE, Int.reduceEq, Int.add_zero, Int.neg_zero, Int.add_sub_cancel, Int.reduceNeg, Nat.reduceLeDiff, Nat.reduceSub, true_or, or_true, false_or, or_false, setI_d, setJ_d, setP_d, mI_row, mJ_row, mP_row, mI_row_ne, mJ_row_ne, mP_row_ne, rowI_rowI, rowJ_rowJ, rowI_sort, rowJ_sort, rowJ_rowI, rowP_rowI, rowP_rowJ, fu_app, fu_fu, mI_rowJ, mI_rowP, mJ_rowI, mJ_rowP, mP_rowI, mP_rowJ, mK_rowI, mN_rowI, mK_rowJ, mN_rowJ, mK_rowP, mN_rowP, oB_rowI, oB_rowJ, iA_rowI, iA_rowJ, iR_rowI, iR_rowJ, St_rowI, St_rowJ, K61 hS, O61 hS, P61_3 hS, P61_4 hS, P61_5 hS, P61_7 hS, P61_8 hS, P61_9 hS, P61_10 hS, P61_11 hS, K91 hS, O91 hS, P91_4 hS, P91_5 hS, K97 hS, O97 hS, P97_1 hS, P97_2 hS, P97_3 hS, P97_5 hS, P97_8 hS, P97_9 hS, P97_10 hS, P97_11 hS, hc6, w']
    refine kV e2 (Nat.zero_le _) (fun M1 hq => ?_) (fun e M' h => False.elim h)
    have T1 : TC M1 B n (bl B n 0) := by
      have hM1 : M1 = stM (rowI M 91 (fu (fu (fu (fu (mI M 91) 0 (iZ 0)) 2 (iZ 0)) 3 (iZ (-1))) 6 (iZ n))) B n (bl B n 0) := by
        rw [hq]; unfold stM; rw [mI_row, rowI_rowI]
      rw [hM1]
      refine TC_st ⟨by omega, fun j hj => ?_, ?_⟩ (bl_b.2 (Nat.zero_le _))
      · rw [mI_row_ne (by decide), mI_row_ne (by decide)]; exact hB j (by omega)
      · rw [mI_row]; unfold fu; simp
    have I1 : ∀ c, c ≠ 91 → mI M1 c = mI M c := fun c hc => by rw [hq, mI_row_ne hc]
    have J1 : mJ M1 = mJ M := by rw [hq]; rfl
    have P1 : mP M1 = mP M := by rw [hq]; rfl
    have K1 : mK M1 = mK M := by rw [hq]; rfl
    have N1 : mN M1 = mN M := by rw [hq]; rfl
    have S1 : Static M1 := by rw [hq]; exact hS
    have Z1 : mI M1 91 0 = iZ 0 := by rw [hq, mI_row]; unfold tR fu; simp
    clear hq e2
    have C1 : CSn M1 s kb ra ca := CSn_CG ⟨by rw [N1]; exact Nat.le_refl _, fun c _ => by rw [K1], fun c _ => by rw [P1], fun c h1 h2 => ⟨by rw [J1], I1 c (by omega)⟩, by rw [I1 61 (by omega)], fun j _ => by rw [I1 97 (by omega)], fun c h => I1 c (by omega)⟩ hC
    have hu : u < nRn s := by omega
    obtain ⟨u1, u2, u3, u4, u5, u6, u7, _⟩ := C1.2.2.1.2 u hu
    obtain ⟨v1, v2, v3⟩ := hO.2.2.1.2 u hu
    have t20 := hO.2.1.1
    obtain ⟨q1, _, _, _⟩ := hO.2.1.2 (uTr s u) v1
    obtain ⟨x1, _, _⟩ := C1.2.1.2 (uTr s u) v1
    have b6 := hO.1.1
    obtain ⟨y1', N, sz, y2', y3, y4, y5⟩ := C1.1.2 (uRl s u) q1
    have e3 := c168 (G := G) (d := d + 11) (M := M1) (u := u) (t := uTr s u) hst S1 (by omega) (Nat.lt_of_lt_of_le v1 t20) u1 u3 u4 x1
    have e4 := c182 (G := G) (d := d) (M := M1) (B := B) (n := n) (k := kb (uRl s u)) (N := N) (s := sz) (q := uBk s u) (a := ra u) (hr := uHr s u) (wd := uWd s u) hst S1 y2' y3 y4 y5 ⟨u2, u3, u6, u7⟩ (bk_ne y2' u3) (hO.1.2 _ q1).1 v3 T1
    simp (disch := omega) only [wcQ, wcX, wcG, wcL, wcS, w184_41, w184_42, w184_45, w184_46, w184_49, w184_50, w184_53, w184_54, toI, toJ, toI64, inb_T, inb_iZ, Int.toNat_natCast, cl_0, cl_1, cl_2, cl_3, cl_4, cl_5, cl_6, cl_7, cl_8, cl_9, cl_10, cl_11, cl_12, cl_13, cl_14, cl_15, cl_16, cl_17, cl_18, cl_19, cl_20, cl_21, cl_22, cl_23, cl_24, cl_25, cl_26, cl_27, cl_28, cl_29, cl_30, cl_31, cl_32, cl_36, cl_40, cl_48, cl_60, cl_108, cl_120, cl_200, cl_201, cl_576, cl_600, cl_864, cl_900, cl_960, cl_5400, cl_8040, j2_0, iN_iZ, iN_lit0, iZ_add, iZ_sub, iZ_mul, iZ_neg, jZ_add, jZ_sub, jZ_mul, jZ_neg, isB0, isB1, isBZ, eq0, eq1, bZ0, vI_, vJ_, vA_, rI_, rJ_, rA_, rV_, nX_, tX_, true_and, and_true, false_and, and_false, and_self, implies_true, forall_const, not_true_eq_false, not_false_eq_true, false_implies, true_implies, ↓reduceIte, Nat.reduceEqDiff, Int.reduceToNat, Int.reduceAdd, Int.reduceSub, Int.reduceLT, Int.reduceLE, Int.reduceEq, Int.add_zero, Int.neg_zero, Int.add_sub_cancel, Int.reduceNeg, Nat.reduceLeDiff, Nat.reduceSub, true_or, or_true, false_or, or_false, setI_d, setJ_d, setP_d, mI_row, mJ_row, mP_row, mI_row_ne, mJ_row_ne, mP_row_ne, rowI_rowI, rowJ_rowJ, rowI_sort, rowJ_sort, rowJ_rowI, rowP_rowI, rowP_rowJ, fu_app, fu_fu, mI_rowJ, mI_rowP, mJ_rowI, mJ_rowP, mP_rowI, mP_rowJ, mK_rowI, mN_rowI, mK_rowJ, mN_rowJ, mK_rowP, mN_rowP, oB_rowI, oB_rowJ, iA_rowI, iA_rowJ, iR_rowI, iR_rowJ, St_rowI, St_rowJ, K61 S1, O61 S1, P61_7 S1, P61_4 S1, P61_8 S1, K97 S1, O97 S1]
    refine kA e3 (Nat.zero_le _) (fun v M' hq => ?_) (fun e M' h => False.elim h)
    obtain ⟨hv, hM⟩ := hq
    have hM := hM.symm
    subst hM
    subst hv
    have u120 : u < 120 := by omega
    simp (disch := omega) only [wcQ, wcX, wcG, wcL, wcS, w184_57, w184_58, w184_61, w184_64, w184_65, w184_66, toI, toJ, toI64, inb_T, inb_iZ, Int.toNat_natCast, cl_0, cl_1, cl_2, cl_3, cl_4, cl_5, cl_6, cl_7, cl_8, cl_9, cl_10, cl_11, cl_12, cl_13, cl_14, cl_15, cl_16, cl_17, cl_18, cl_19, cl_20, cl_21, cl_22, cl_23, cl_24, cl_25, cl_26, cl_27, cl_28, cl_29, cl_30, cl_31, cl_32, cl_36, cl_40, cl_48, cl_60, cl_108, cl_120, cl_200, cl_201, cl_576, cl_600, cl_864, cl_900, cl_960, cl_5400, cl_8040, j2_0, iN_iZ, iN_lit0, iZ_add, iZ_sub, iZ_mul, iZ_neg, jZ_add, jZ_sub, jZ_mul, jZ_neg, isB0, isB1, isBZ, eq0, eq1, bZ0, vI_, vJ_, vA_, rI_, rJ_, rA_, rV_, nX_, tX_, true_and, and_true, false_and, and_false, and_self, implies_true, forall_const, not_true_eq_false, not_false_eq_true, false_implies, true_implies, ↓reduceIte, Nat.reduceEqDiff, Int.reduceToNat, Int.reduceAdd, Int.reduceSub, Int.reduceLT, Int.reduceLE, Int.reduceEq, Int.add_zero, Int.neg_zero, Int.add_sub_cancel, Int.reduceNeg, Nat.reduceLeDiff, Nat.reduceSub, true_or, or_true, false_or, or_false, setI_d, setJ_d, setP_d, mI_row, mJ_row, mP_row, mI_row_ne, mJ_row_ne, mP_row_ne, rowI_rowI, rowJ_rowJ, rowI_sort, rowJ_sort, rowJ_rowI, rowP_rowI, rowP_rowJ, fu_app, fu_fu, mI_rowJ, mI_rowP, mJ_rowI, mJ_rowP, mP_rowI, mP_rowJ, mK_rowI, mN_rowI, mK_rowJ, mN_rowJ, mK_rowP, mN_rowP, oB_rowI, oB_rowJ, iA_rowI, iA_rowJ, iR_rowI, iR_rowJ, St_rowI, St_rowJ, K61 S1, O61 S1, P61_8 S1, K97 S1, O97 S1, O95 S1, P97_5 S1, K101 S1, O101 S1, A101 S1, R101 S1, u1]
    refine kA e4 (Nat.le_refl _) (fun v Mr hq => ?_) (fun e M' h => False.elim h)
    have hk1 := y2'.2.1
    have hF : FF M1 Mr (kb (uRl s u)) (mN M1) := hq.1
    have Cr : CSn Mr s kb ra ca := CSn_FF hF rfl C1 hD q1 rfl (by omega)
    have Zr : mI Mr 91 0 = iZ 0 := hF.2.2.1.trans Z1
    have kne : kb (uRl s u) + 8 ≠ 61 ∧ kb (uRl s u) + 9 ≠ 61 := by have := y2'.1; omega
    have dr : mI Mr 61 0 = iZ D := by rw [(hF.2.2.2 61 (by omega)).2.2.2 (by omega) (by omega) (by omega) (by omega) (by omega), I1 61 (by omega)]; exact hd
    have Fr : FS M Mr := by
      refine ⟨hF.1, by rw [hF.2.1]; omega, fun y hy => ?_⟩
      have h9 := y2'.1
      obtain ⟨g1, g2, g3, g4⟩ := hF.2.2.2 y (by omega)
      exact ⟨g1.trans (by rw [K1]), g2.trans (by rw [J1]), fun h => (g3 h).trans (by rw [P1]), fun h1 h2 h3 _ => (g4 h1 h2 h3 (by omega) (by omega)).trans (by rw [I1 y h1])⟩
    have Sr := hF.1
    generalize hr : kCard B n (uBk s u) = r at *
    match r, hr with
    | .inl (e, p), hr =>
      obtain ⟨_, rfl, r2, r3⟩ := hq
      simp (disch := omega) only [wcQ, wcX, wcG, wcL, wcS, w184_69, w184_70, w184_71, w184_74, w184_75, w184_78, w184_81, toI, toJ, toI64, inb_T, inb_iZ, Int.toNat_natCast, cl_0, cl_1, cl_2, cl_3, cl_4, cl_5, cl_6, cl_7, cl_8, cl_9, cl_10, cl_11, cl_12, cl_13, cl_14, cl_15, cl_16, cl_17, cl_18, cl_19, cl_20, cl_21, cl_22, cl_23, cl_24, cl_25, cl_26, cl_27, cl_28, cl_29, cl_30, cl_31, cl_32, cl_36, cl_40, cl_48, cl_60, cl_108, cl_120, cl_200, cl_201, cl_576, cl_600, cl_864, cl_900, cl_960, cl_5400, cl_8040, j2_0, iN_iZ, iN_lit0, iZ_add, iZ_sub, iZ_mul, iZ_neg, jZ_add, jZ_sub, jZ_mul, jZ_neg, isB0, isB1, isBZ, eq0, eq1, bZ0, vI_, vJ_, vA_, rI_, rJ_, rA_, rV_, nX_, tX_, true_and, and_true, false_and, and_false, and_self, implies_true, forall_const, not_true_eq_false, not_false_eq_true, false_implies, true_implies, ↓reduceIte, Nat.reduceEqDiff, Int.reduceToNat, Int.reduceAdd, Int.reduceSub, Int.reduceLT, Int.reduceLE, Int.reduceEq, Int.add_zero, Int.neg_zero, Int.add_sub_cancel, Int.reduceNeg, Nat.reduceLeDiff, Nat.reduceSub, true_or, or_true, false_or, or_false, setI_d, setJ_d, setP_d, mI_row, mJ_row, mP_row, mI_row_ne, mJ_row_ne, mP_row_ne, rowI_rowI, rowJ_rowJ, rowI_sort, rowJ_sort, rowJ_rowI, rowP_rowI, rowP_rowJ, fu_app, fu_fu, mI_rowJ, mI_rowP, mJ_rowI, mJ_rowP, mP_rowI, mP_rowJ, mK_rowI, mN_rowI, mK_rowJ, mN_rowJ, mK_rowP, mN_rowP, oB_rowI, oB_rowJ, iA_rowI, iA_rowJ, iR_rowI, iR_rowJ, St_rowI, St_rowJ, K61 Sr, O61 Sr, P61_4 Sr, O91 Sr, K91 Sr, r2]
      refine ⟨fun a h => (by cases h), ⟨hz, hy, Or.inr ⟨w, ?_⟩⟩⟩
      rw [QD_i rfl]
      exact ⟨Fr, Zr, rfl, r2, r3, Cr⟩
    | .inr (rows, t, re), hr =>
      obtain ⟨_, rfl, r2, r3, r4, r5⟩ := hq
      have au : mP Mr 101 u = some (ra u) := (Cr.2.2.1.2 u hu).1
      have ou : oB Mr (ra u) 7 := (Cr.2.2.1.2 u hu).2.2.1
      have oc : oB Mr (mN M1) 0 := by
        obtain ⟨_, g2, g3, _⟩ := r4.1
        exact ⟨by omega, by omega, by rw [g3]⟩
      have e5 := c183 (G := G) (d := d + 11) (M := Mr) (u := u) (D := D) hst Sr (by omega) au ou oc u2 (by omega) Cr.2.2.2.1.1 (by omega)
      simp (disch := omega) only [wcQ, wcX, wcG, wcL, wcS, w184_69, w184_70, w184_71, w184_82, w184_83, w184_86, w184_87, w184_88, w184_89, w184_92, toI, toJ, toI64, inb_T, inb_iZ, Int.toNat_natCast, cl_0, cl_1, cl_2, cl_3, cl_4, cl_5, cl_6, cl_7, cl_8, cl_9, cl_10, cl_11, cl_12, cl_13, cl_14, cl_15, cl_16, cl_17, cl_18, cl_19, cl_20, cl_21, cl_22, cl_23, cl_24, cl_25, cl_26, cl_27, cl_28, cl_29, cl_30, cl_31, cl_32, cl_36, cl_40, cl_48, cl_60, cl_108, cl_120, cl_200, cl_201, cl_576, cl_600, cl_864, cl_900, cl_960, cl_5400, cl_8040, j2_0, iN_iZ, iN_lit0, iZ_add, iZ_sub, iZ_mul, iZ_neg, jZ_add, jZ_sub, jZ_mul, jZ_neg, isB0, isB1, isBZ, eq0, eq1, bZ0, vI_, vJ_, vA_, rI_, rJ_, rA_, rV_, nX_, tX_, true_and, and_true, false_and, and_false, and_self, implies_true, forall_const, not_true_eq_false, not_false_eq_true, false_implies, true_implies, ↓reduceIte, Nat.reduceEqDiff, Int.reduceToNat, Int.reduceAdd, Int.reduceSub, Int.reduceLT, Int.reduceLE, Int.reduceEq, Int.add_zero, Int.neg_zero, Int.add_sub_cancel, Int.reduceNeg, Nat.reduceLeDiff, Nat.reduceSub, true_or, or_true, false_or, or_false, setI_d, setJ_d, setP_d, mI_row, mJ_row, mP_row, mI_row_ne, mJ_row_ne, mP_row_ne, rowI_rowI, rowJ_rowJ, rowI_sort, rowJ_sort, rowJ_rowI, rowP_rowI, rowP_rowJ, fu_app, fu_fu, mI_rowJ, mI_rowP, mJ_rowI, mJ_rowP, mP_rowI, mP_rowJ, mK_rowI, mN_rowI, mK_rowJ, mN_rowJ, mK_rowP, mN_rowP, oB_rowI, oB_rowJ, iA_rowI, iA_rowJ, iR_rowI, iR_rowJ, St_rowI, St_rowJ, K61 Sr, O61 Sr, P61_8 Sr, K97 Sr, O97 Sr, dr]
      refine ⟨fun _ _ => ?_, fun h => (by cases h)⟩
      refine kV e5 (Nat.zero_le _) (fun M2 hq => ?_) (fun e M' h => False.elim h)
      have une : ra u ≠ mN M1 := by have := u3.2.1; omega
      have hM2 : M2 = rowI (rowI (rowP (rowP Mr (mN M1) (fu (mP Mr (mN M1)) 7 (mP Mr (ra u) 4))) (ra u) (fu (mP Mr (ra u)) 4 (some (mN M1)))) (mN M1) (fu (mI Mr (mN M1)) 0 (iZ D))) 97 (fu (mI Mr 97) 6 (iZ ((nCd s : Int) + 1))) := by
        rw [hq]
        show rowI (rowI (rowP (rowP Mr (mN M1) _) (ra u) (fu (mP (rowP Mr (mN M1) _) (ra u)) 4 (some (mN M1)))) (mN M1) _) 97 _ = _
        rw [mP_row_ne une]
        rfl
      have S2 : Static M2 := by rw [hM2]; exact St_P u2 (St_P (by omega) Sr)
      have hlo : (∀ i, i < nRn s → ra i < mN M1) ∧ (∀ i, i < nCd s → ca i + 3 ≤ mN M1) ∧ ∀ i, i < nBk s → kb i + 11 ≤ mN M1 := ⟨fun i hi => (C1.2.2.1.2 i hi).2.2.1.2.1, fun i hi => (C1.2.2.2.1.2 i hi).1.1.2.1, fun i hi => by obtain ⟨_, N, sz, e2, _⟩ := C1.1.2 i hi; exact e2.2.1⟩
      have C2 := CSn_addC (Mr := Mr) (M' := M2) (c := mN M1) (D := D) Cr hO hu r4 hlo (by omega) D9 hM2
      simp (disch := omega) only [wcQ, wcX, wcG, wcL, wcS, w184_95, w184_96, toI, toJ, toI64, inb_T, inb_iZ, Int.toNat_natCast, cl_0, cl_1, cl_2, cl_3, cl_4, cl_5, cl_6, cl_7, cl_8, cl_9, cl_10, cl_11, cl_12, cl_13, cl_14, cl_15, cl_16, cl_17, cl_18, cl_19, cl_20, cl_21, cl_22, cl_23, cl_24, cl_25, cl_26, cl_27, cl_28, cl_29, cl_30, cl_31, cl_32, cl_36, cl_40, cl_48, cl_60, cl_108, cl_120, cl_200, cl_201, cl_576, cl_600, cl_864, cl_900, cl_960, cl_5400, cl_8040, j2_0, iN_iZ, iN_lit0, iZ_add, iZ_sub, iZ_mul, iZ_neg, jZ_add, jZ_sub, jZ_mul, jZ_neg, isB0, isB1, isBZ, eq0, eq1, bZ0, vI_, vJ_, vA_, rI_, rJ_, rA_, rV_, nX_, tX_, true_and, and_true, false_and, and_false, and_self, implies_true, forall_const, not_true_eq_false, not_false_eq_true, false_implies, true_implies, ↓reduceIte, Nat.reduceEqDiff, Int.reduceToNat, Int.reduceAdd, Int.reduceSub, Int.reduceLT, Int.reduceLE, Int.reduceEq, Int.add_zero, Int.neg_zero, Int.add_sub_cancel, Int.reduceNeg, Nat.reduceLeDiff, Nat.reduceSub, true_or, or_true, false_or, or_false, setI_d, setJ_d, setP_d, mI_row, mJ_row, mP_row, mI_row_ne, mJ_row_ne, mP_row_ne, rowI_rowI, rowJ_rowJ, rowI_sort, rowJ_sort, rowJ_rowI, rowP_rowI, rowP_rowJ, fu_app, fu_fu, mI_rowJ, mI_rowP, mJ_rowI, mJ_rowP, mP_rowI, mP_rowJ, mK_rowI, mN_rowI, mK_rowJ, mN_rowJ, mK_rowP, mN_rowP, oB_rowI, oB_rowJ, iA_rowI, iA_rowJ, iR_rowI, iR_rowJ, St_rowI, St_rowJ]
      refine ⟨hz, hy, Or.inr ⟨w, ?_⟩⟩
      rw [QD_r rfl, Int.toNat_natCast, ← N1]
      have I2 : ∀ y, y < 222 → y ≠ 97 → mI M2 y = mI Mr y := fun y h1 h2 => by rw [hM2, mI_row_ne h2, mI_row_ne (by omega)]; rfl
      have P2 : ∀ y, y < 222 → mP M2 y = mP Mr y := fun y h1 => by
        rw [hM2]
        show mP (rowP (rowP Mr (mN M1) _) (ra u) _) y = _
        rw [mP_row_ne (by omega), mP_row_ne (by omega)]
      obtain ⟨_, F2, F3⟩ := Fr
      refine ⟨⟨S2, by rw [hM2]; exact F2, fun y hy => ?_⟩, by rw [I2 91 (by omega) (by omega)]; exact Zr, rfl, by rw [I2 91 (by omega) (by omega)]; exact r2, by rw [I2 91 (by omega) (by omega)]; exact r3, C2⟩
      obtain ⟨g1, g2, g3, g4⟩ := F3 y hy
      exact ⟨by rw [hM2]; exact g1, by rw [hM2]; exact g2, fun h => (P2 y hy).trans (g3 h), fun h1 h2 h3 h4 => (I2 y hy h4).trans (g4 h1 h2 h3 h4)⟩
  · have w' : ¬ (nCd s : Int) < 200 := by omega
    have e2 := c123 (G := G) (d := d + 11) (M := M) hst hS
    simp (disch := omega) only [wcQ, wcX, wcG, wcL, wcS, w184_10, w184_11, w184_14, w184_17, w184_20, w184_23, w184_24, w184_27, toI, toJ, toI64, inb_T, inb_iZ, Int.toNat_natCast, cl_0, cl_1, cl_2, cl_3, cl_4, cl_5, cl_6, cl_7, cl_8, cl_9, cl_10, cl_11, cl_12, cl_13, cl_14, cl_15, cl_16, cl_17, cl_18, cl_19, cl_20, cl_21, cl_22, cl_23, cl_24, cl_25, cl_26, cl_27, cl_28, cl_29, cl_30, cl_31, cl_32, cl_36, cl_40, cl_48, cl_60, cl_108, cl_120, cl_200, cl_201, cl_576, cl_600, cl_864, cl_900, cl_960, cl_5400, cl_8040, j2_0, iN_iZ, iN_lit0, iZ_add, iZ_sub, iZ_mul, iZ_neg, jZ_add, jZ_sub, jZ_mul, jZ_neg, isB0, isB1, isBZ, eq0, eq1, bZ0, vI_, vJ_, vA_, rI_, rJ_, rA_, rV_, nX_, tX_, true_and, and_true, false_and, and_false, and_self, implies_true, forall_const, not_true_eq_false, not_false_eq_true, false_implies, true_implies, ↓reduceIte, Nat.reduceEqDiff, Int.reduceToNat, Int.reduceAdd, Int.reduceSub, Int.reduceLT, Int.reduceLE, Int.reduceEq, Int.add_zero, Int.neg_zero, Int.add_sub_cancel, Int.reduceNeg, Nat.reduceLeDiff, Nat.reduceSub, true_or, or_true, false_or, or_false, setI_d, setJ_d, setP_d, mI_row, mJ_row, mP_row, mI_row_ne, mJ_row_ne, mP_row_ne, rowI_rowI, rowJ_rowJ, rowI_sort, rowJ_sort, rowJ_rowI, rowP_rowI, rowP_rowJ, fu_app, fu_fu, mI_rowJ, mI_rowP, mJ_rowI, mJ_rowP, mP_rowI, mP_rowJ, mK_rowI, mN_rowI, mK_rowJ, mN_rowJ, mK_rowP, mN_rowP, oB_rowI, oB_rowJ, iA_rowI, iA_rowJ, iR_rowI, iR_rowJ, St_rowI, St_rowJ, K61 hS, O61 hS, P61_3 hS, P61_4 hS, P61_5 hS, P61_7 hS, P61_8 hS, P61_9 hS, P61_10 hS, P61_11 hS, K91 hS, O91 hS, P91_4 hS, P91_5 hS, K97 hS, O97 hS, P97_1 hS, P97_2 hS, P97_3 hS, P97_5 hS, P97_8 hS, P97_9 hS, P97_10 hS, P97_11 hS, hc6, w']
    refine kV e2 (Nat.zero_le _) (fun M1 hq => ?_) (fun e M' h => False.elim h)
    simp (disch := omega) only [wcQ, wcX, wcG, wcL, wcS, w184_30, w184_32, toI, toJ, toI64, inb_T, inb_iZ, Int.toNat_natCast, cl_0, cl_1, cl_2, cl_3, cl_4, cl_5, cl_6, cl_7, cl_8, cl_9, cl_10, cl_11, cl_12, cl_13, cl_14, cl_15, cl_16, cl_17, cl_18, cl_19, cl_20, cl_21, cl_22, cl_23, cl_24, cl_25, cl_26, cl_27, cl_28, cl_29, cl_30, cl_31, cl_32, cl_36, cl_40, cl_48, cl_60, cl_108, cl_120, cl_200, cl_201, cl_576, cl_600, cl_864, cl_900, cl_960, cl_5400, cl_8040, j2_0, iN_iZ, iN_lit0, iZ_add, iZ_sub, iZ_mul, iZ_neg, jZ_add, jZ_sub, jZ_mul, jZ_neg, isB0, isB1, isBZ, eq0, eq1, bZ0, vI_, vJ_, vA_, rI_, rJ_, rA_, rV_, nX_, tX_, true_and, and_true, false_and, and_false, and_self, implies_true, forall_const, not_true_eq_false, not_false_eq_true, false_implies, true_implies, ↓reduceIte, Nat.reduceEqDiff, Int.reduceToNat, Int.reduceAdd, Int.reduceSub, Int.reduceLT, Int.reduceLE, Int.reduceEq, Int.add_zero, Int.neg_zero, Int.add_sub_cancel, Int.reduceNeg, Nat.reduceLeDiff, Nat.reduceSub, true_or, or_true, false_or, or_false, setI_d, setJ_d, setP_d, mI_row, mJ_row, mP_row, mI_row_ne, mJ_row_ne, mP_row_ne, rowI_rowI, rowJ_rowJ, rowI_sort, rowJ_sort, rowJ_rowI, rowP_rowI, rowP_rowJ, fu_app, fu_fu, mI_rowJ, mI_rowP, mJ_rowI, mJ_rowP, mP_rowI, mP_rowJ, mK_rowI, mN_rowI, mK_rowJ, mN_rowJ, mK_rowP, mN_rowP, oB_rowI, oB_rowJ, iA_rowI, iA_rowJ, iR_rowI, iR_rowJ, St_rowI, St_rowJ]
    exact ⟨hz, hy, Or.inl ⟨by omega, hq⟩⟩
end

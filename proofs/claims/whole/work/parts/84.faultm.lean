/-! RULES: a fault; the reference's side. -/
section
variable {G : GE} {d : Nat} {M M' M'' : Mem} {B : Nat → Nat} {n b r s : Nat} {q : Bk}
/-- behind what was read, without the sign behind it -/
def QF (M : Mem) (B : Nat → Nat) (n r s : Nat) (x : PR) (g : List Int → Bk) (M' : Mem) : Prop := Hm M M' r ∧ match x with
  | .inl (e, p) => XM M' e p
  | .inr (c, l) => TM M' B n c ∧ mI M' 154 23 = iZ ((s + (mc l).length : Nat) : Int) ∧ MC M' r (s + (mc l).length) (g l)
/-- what a fault's clause makes, behind its name -/
def pFl (B : Nat → Nat) (n b : Nat) (F : List (Int × List Int)) : PR := if nnE B n b (gN F) F.length ≠ 0 then .inl (nnE B n b (gN F) F.length, b) else if ¬ twd B n (nxT B n b) 14 then .inl (1, nxT B n b) else pEx B n 6 (nxT B n (nxT B n b))
theorem QF_i {x : PR} {g : List Int → Bk} {e p : Nat} (h : x = .inl (e, p)) : QF M B n r s x g M' = (Hm M M' r ∧ XM M' e p) := by rw [h]; rfl
theorem QF_r {x : PR} {g : List Int → Bk} {c : Nat} {l : List Int} (h : x = .inr (c, l)) : QF M B n r s x g M' = (Hm M M' r ∧ TM M' B n c ∧ mI M' 154 23 = iZ ((s + (mc l).length : Nat) : Int) ∧ MC M' r (s + (mc l).length) (g l)) := by rw [h]; rfl
/-- an EXPR read into RULES r: where it begins, what it makes, where it ends -/
theorem c52 (hst : (gl G).stackTraces = false) (hS : Static M) (hT : TM M B n b) (hr : r < 6) (h23 : mI M 154 23 = iZ s) (hs : 2 * s ≤ 3 * b) (hC : MC M r s q) (h10 : (bF q).length < 10) : Ev G (d + 46) 52 [aR (some 154), aI (iZ r)] M 0 (rV fun M' => QF M B n r s (pFl B n (nxT B n b) (bF q)) (fun l => (bP q, bF q ++ [(((nc B (nxT B n b) (tl B n (nxT B n b)) : Nat) : Int), l)], q.2.2)) M') nX := by
  have n6 := hT.1.1
  have h20 := hT.2.2.2.2.2.2.2.1
  obtain ⟨hf0, hf10, hfx⟩ := hC.2.1
  have nb := nxT_b (B := B) (n := n) (b := b)
  have h10' : ¬ (((bF q).length : Nat) : Int) = 10 := by omega
  have e1 := c29t (G := G) (d := d + 43) hst hS hT
  have hix : ((10 : Int) * r + ((bF q).length : Nat)) = ((10 * r + (bF q).length : Nat) : Int) := by omega
  have w167 : bW 167 = 10 := rfl
  have w168 : bW 168 = 10 := rfl
  have w166 : bW 166 = 1 := rfl
  have h1430 : ((14 : Nat) < 30) = True := eq_true (by decide)
  refine Ev_wp 2000 hst (by decide) (Nat.le_of_ble_eq_true rfl) ?_; simp (disch := omega) only [en52, wcQ, wcX, wcG, wcL, wcS, w52_0, w52_1, w52_4, w52_5, w52_6, w52_8, w52_16, w52_17, w52_20, w52_23, w52_24, w52_25, toI, toJ, toI64, inb_T, inb_iZ, Int.toNat_natCast, cl_0, cl_1, cl_2, cl_3, cl_4, cl_5, cl_6, cl_7, cl_8, cl_9, cl_10, cl_11, cl_12, cl_13, cl_14, cl_15, cl_16, cl_17, cl_18, cl_19, cl_20, cl_21, cl_22, cl_23, cl_24, cl_25, cl_26, cl_27, cl_28, cl_29, cl_30, cl_31, cl_32, cl_36, cl_40, cl_48, cl_60, cl_108, cl_120, cl_200, cl_201, cl_576, cl_600, cl_864, cl_900, cl_960, cl_5400, cl_8040, j2_0, iN_iZ, iN_lit0, iZ_add, iZ_sub, iZ_mul, iZ_neg, jZ_add, jZ_sub, jZ_mul, jZ_neg, isB0, isB1, isBZ, eq0, eq1, bZ0, vI_, vJ_, vA_, rI_, rJ_, rA_, rV_, nX_, tX_, true_and, and_true, false_and, and_false, and_self, implies_true, forall_const, not_true_eq_false, not_false_eq_true, false_implies, true_implies, ↓reduceIte, Nat.reduceEqDiff, Int.reduceToNat, Int.reduceAdd, Int.reduceSub, Int.reduceLT, Int.reduceLE, Int.reduceEq, Int.add_zero, Int.neg_zero, Int.add_sub_cancel, Int.reduceNeg, Nat.reduceLeDiff, Nat.reduceSub, true_or, or_true, false_or, or_false, setI_d, setJ_d, setP_d, mI_row, mJ_row, mP_row, mI_row_ne, mJ_row_ne, mP_row_ne, rowI_rowI, rowJ_rowJ, rowI_sort, rowJ_sort, rowJ_rowI, rowP_rowI, rowP_rowJ, fu_app, fu_fu, mI_rowJ, mI_rowP, mJ_rowI, mJ_rowP, mP_rowI, mP_rowJ, mK_rowI, mN_rowI, mK_rowJ, mN_rowJ, mK_rowP, mN_rowP, oB_rowI, oB_rowJ, iA_rowI, iA_rowJ, iR_rowI, iR_rowJ, St_rowI, St_rowJ, K154 hS, O154 hS, P154_0 hS, P154_1 hS, P154_7 hS, P154_8 hS, P154_9 hS, P154_10 hS, P154_11 hS, P154_25 hS, P154_26 hS, P154_27 hS, P154_28 hS, P154_29 hS, P154_30 hS, P154_31 hS, P154_32 hS, P154_33 hS, P154_34 hS, P154_35 hS, P154_36 hS, P154_37 hS, P154_38 hS, P154_39 hS, P154_40 hS, P154_41 hS, P154_46 hS, P154_47 hS, P154_48 hS, P154_49 hS, P154_50 hS, P154_51 hS, P154_52 hS, P154_53 hS, P154_54 hS, P154_55 hS, P154_56 hS, P154_57 hS, P154_58 hS, P154_59 hS, P154_60 hS, P154_61 hS, P154_62 hS, P154_63 hS, P154_64 hS, P154_65 hS, P154_68 hS, P154_69 hS, P154_70 hS, P154_71 hS, P154_72 hS, P154_73 hS, P154_74 hS, P154_75 hS, P154_76 hS, P154_77 hS, P154_78 hS, P154_79 hS, P154_80 hS, P154_81 hS, P154_82 hS, P154_83 hS, P154_84 hS, P154_85 hS, P154_86 hS, P154_87 hS, P154_88 hS, P154_89 hS, K166 hS, O166 hS, A166 hS, hf0, h10', h20]
  refine kV e1 (Nat.le_refl _) (fun M1 hq => ?_) (fun e M' h => False.elim h)
  obtain ⟨G1, T1⟩ := hq
  have S1 := GT_S G1 hS
  have C1 := MC_GT hC G1
  have a1 : mI M1 154 23 = iZ s := by rw [GT_23 G1]; exact h23
  generalize hb1 : nxT B n b = b1 at *
  have b1n := T1.2.1
  have nb1 := nxT_b (B := B) (n := n) (b := b1)
  have nb2 := nxT_b (B := B) (n := n) (b := nxT B n b1)
  obtain ⟨cf0, cf10, cfx⟩ := C1.2.1
  have e2 := c42 (G := G) (d := d + 44) (M := M1) hst hr
  have e3 := c36 (G := G) (d := d + 38) (f0 := 18 * r + 8) (m := (bF q).length) (P := gN (bF q)) hst S1 T1 (by omega) (fun i hi => by
    obtain ⟨x, x1, x2⟩ := gN_lt hi
    rw [x2]; exact (cfx i x x1).1)
  simp (disch := omega) only [wcQ, wcX, wcG, wcL, wcS, w52_28, w52_29, w52_30, toI, toJ, toI64, inb_T, inb_iZ, Int.toNat_natCast, cl_0, cl_1, cl_2, cl_3, cl_4, cl_5, cl_6, cl_7, cl_8, cl_9, cl_10, cl_11, cl_12, cl_13, cl_14, cl_15, cl_16, cl_17, cl_18, cl_19, cl_20, cl_21, cl_22, cl_23, cl_24, cl_25, cl_26, cl_27, cl_28, cl_29, cl_30, cl_31, cl_32, cl_36, cl_40, cl_48, cl_60, cl_108, cl_120, cl_200, cl_201, cl_576, cl_600, cl_864, cl_900, cl_960, cl_5400, cl_8040, j2_0, iN_iZ, iN_lit0, iZ_add, iZ_sub, iZ_mul, iZ_neg, jZ_add, jZ_sub, jZ_mul, jZ_neg, isB0, isB1, isBZ, eq0, eq1, bZ0, vI_, vJ_, vA_, rI_, rJ_, rA_, rV_, nX_, tX_, true_and, and_true, false_and, and_false, and_self, implies_true, forall_const, not_true_eq_false, not_false_eq_true, false_implies, true_implies, ↓reduceIte, Nat.reduceEqDiff, Int.reduceToNat, Int.reduceAdd, Int.reduceSub, Int.reduceLT, Int.reduceLE, Int.reduceEq, Int.add_zero, Int.neg_zero, Int.add_sub_cancel, Int.reduceNeg, Nat.reduceLeDiff, Nat.reduceSub, true_or, or_true, false_or, or_false, setI_d, setJ_d, setP_d, mI_row, mJ_row, mP_row, mI_row_ne, mJ_row_ne, mP_row_ne, rowI_rowI, rowJ_rowJ, rowI_sort, rowJ_sort, rowJ_rowI, rowP_rowI, rowP_rowJ, fu_app, fu_fu, mI_rowJ, mI_rowP, mJ_rowI, mJ_rowP, mP_rowI, mP_rowJ, mK_rowI, mN_rowI, mK_rowJ, mN_rowJ, mK_rowP, mN_rowP, oB_rowI, oB_rowJ, iA_rowI, iA_rowJ, iR_rowI, iR_rowJ, St_rowI, St_rowJ, O154 S1]
  refine kI0 e2 ?_
  simp (disch := omega) only [wcQ, wcX, wcG, wcL, wcS, w52_33, w52_34, w52_37, w52_38, w52_39, toI, toJ, toI64, inb_T, inb_iZ, Int.toNat_natCast, cl_0, cl_1, cl_2, cl_3, cl_4, cl_5, cl_6, cl_7, cl_8, cl_9, cl_10, cl_11, cl_12, cl_13, cl_14, cl_15, cl_16, cl_17, cl_18, cl_19, cl_20, cl_21, cl_22, cl_23, cl_24, cl_25, cl_26, cl_27, cl_28, cl_29, cl_30, cl_31, cl_32, cl_36, cl_40, cl_48, cl_60, cl_108, cl_120, cl_200, cl_201, cl_576, cl_600, cl_864, cl_900, cl_960, cl_5400, cl_8040, j2_0, iN_iZ, iN_lit0, iZ_add, iZ_sub, iZ_mul, iZ_neg, jZ_add, jZ_sub, jZ_mul, jZ_neg, isB0, isB1, isBZ, eq0, eq1, bZ0, vI_, vJ_, vA_, rI_, rJ_, rA_, rV_, nX_, tX_, true_and, and_true, false_and, and_false, and_self, implies_true, forall_const, not_true_eq_false, not_false_eq_true, false_implies, true_implies, ↓reduceIte, Nat.reduceEqDiff, Int.reduceToNat, Int.reduceAdd, Int.reduceSub, Int.reduceLT, Int.reduceLE, Int.reduceEq, Int.add_zero, Int.neg_zero, Int.add_sub_cancel, Int.reduceNeg, Nat.reduceLeDiff, Nat.reduceSub, true_or, or_true, false_or, or_false, setI_d, setJ_d, setP_d, mI_row, mJ_row, mP_row, mI_row_ne, mJ_row_ne, mP_row_ne, rowI_rowI, rowJ_rowJ, rowI_sort, rowJ_sort, rowJ_rowI, rowP_rowI, rowP_rowJ, fu_app, fu_fu, mI_rowJ, mI_rowP, mJ_rowI, mJ_rowP, mP_rowI, mP_rowJ, mK_rowI, mN_rowI, mK_rowJ, mN_rowJ, mK_rowP, mN_rowP, oB_rowI, oB_rowJ, iA_rowI, iA_rowJ, iR_rowI, iR_rowJ, St_rowI, St_rowJ, K154 S1, O154 S1, P154_29 S1, K166 S1, O166 S1, A166 S1, cf0]
  refine kV e3 (Nat.le_refl _) (fun M2 hq => ?_) (fun e M' h => False.elim h)
  -- refused ahead of the EXPR: the rest writes where it ends
  have X : ∀ (m : Nat) (e p : Nat) (M3 : Mem), pFl B n b1 (bF q) = .inl (e, p) → Hm M M3 r → XM M3 e p → mI M3 166 r = iZ (bF q).length → wp (WCo G (d + 45) 52 (rV fun M' => QF M B n r s (pFl B n b1 (bF q)) (fun l => (bP q, bF q ++ [(((nc B b1 (tl B n b1) : Nat) : Int), l)], q.2.2)) M') nX) 52 (m + 300) 48 [aR (some 154), aI (iZ r), aU] [] M3 0 := by
    intro m e p M3 hp hH hX h166
    have S3 := Hm_S hH hS
    have ex := fun (M : Mem) (hS : Static M) (hX : XM M e p) => c51x (G := G) (d := d + 44) hst hS hX (x := iZ r) (y := iZ 0)
    have hix' : ((10 : Int) * r + ((bF q).length : Nat)).toNat = 10 * r + (bF q).length := by omega
    obtain ⟨g20, x1, x4, _⟩ := id hX
    have hz : ¬ (e : Int) = 0 := by omega
    simp (disch := omega) only [wcQ, wcX, wcG, wcL, wcS, w52_48, w52_50, w52_51, w52_52, w52_53, w52_56, w52_57, w52_58, w52_59, w52_60, w52_61, w52_64, w52_65, w52_66, w52_69, w52_70, w52_71, w52_72, w52_73, toI, toJ, toI64, inb_T, inb_iZ, Int.toNat_natCast, cl_0, cl_1, cl_2, cl_3, cl_4, cl_5, cl_6, cl_7, cl_8, cl_9, cl_10, cl_11, cl_12, cl_13, cl_14, cl_15, cl_16, cl_17, cl_18, cl_19, cl_20, cl_21, cl_22, cl_23, cl_24, cl_25, cl_26, cl_27, cl_28, cl_29, cl_30, cl_31, cl_32, cl_36, cl_40, cl_48, cl_60, cl_108, cl_120, cl_200, cl_201, cl_576, cl_600, cl_864, cl_900, cl_960, cl_5400, cl_8040, j2_0, iN_iZ, iN_lit0, iZ_add, iZ_sub, iZ_mul, iZ_neg, jZ_add, jZ_sub, jZ_mul, jZ_neg, isB0, isB1, isBZ, eq0, eq1, bZ0, vI_, vJ_, vA_, rI_, rJ_, rA_, rV_, nX_, tX_, true_and, and_true, false_and, and_false, and_self, implies_true, forall_const, not_true_eq_false, not_false_eq_true, false_implies, true_implies, ↓reduceIte, Nat.reduceEqDiff, Int.reduceToNat, Int.reduceAdd, Int.reduceSub, Int.reduceLT, Int.reduceLE, Int.reduceEq, Int.add_zero, Int.neg_zero, Int.add_sub_cancel, Int.reduceNeg, Nat.reduceLeDiff, Nat.reduceSub, true_or, or_true, false_or, or_false, setI_d, setJ_d, setP_d, mI_row, mJ_row, mP_row, mI_row_ne, mJ_row_ne, mP_row_ne, rowI_rowI, rowJ_rowJ, rowI_sort, rowJ_sort, rowJ_rowI, rowP_rowI, rowP_rowJ, fu_app, fu_fu, mI_rowJ, mI_rowP, mJ_rowI, mJ_rowP, mP_rowI, mP_rowJ, mK_rowI, mN_rowI, mK_rowJ, mN_rowJ, mK_rowP, mN_rowP, oB_rowI, oB_rowJ, iA_rowI, iA_rowJ, iR_rowI, iR_rowJ, St_rowI, St_rowJ, K154 S3, O154 S3, P154_29 S3, P154_30 S3, K166 S3, O166 S3, A166 S3, K167 S3, O167 S3, A167 S3, h166, hix']
    generalize hM4 : rowI M3 167 (fu (mI M3 167) (10 * r + (bF q).length) (mI M3 154 23)) = M4
    have hM4 := hM4.symm
    have S4 : Static M4 := by rw [hM4]; exact S3
    have X4 : XM M4 e p := by
      unfold XM at *
      rw [hM4, mI_row_ne (by decide)]
      exact hX
    have h1664 : mI M4 166 r = iZ (bF q).length := by rw [hM4, mI_row_ne (by decide)]; exact h166
    have H4 : Hm M M4 r := by
      rw [hM4]
      refine Hm_tr hH (Hm_row (c := 167) (by decide) (by decide) (fun j hj => ?_))
      rw [w167] at hj
      exact if_neg (by omega)
    refine kV (ex M4 S4 X4) (Nat.le_refl _) (fun M5 hq => ?_) (fun e M' h => False.elim h)
    have hq := hq.symm
    subst hq
    obtain ⟨g204, _⟩ := id X4
    simp (disch := omega) only [wcQ, wcX, wcG, wcL, wcS, w52_76, w52_77, w52_80, w52_81, w52_82, w52_85, w52_86, w52_87, w52_90, w52_103, toI, toJ, toI64, inb_T, inb_iZ, Int.toNat_natCast, cl_0, cl_1, cl_2, cl_3, cl_4, cl_5, cl_6, cl_7, cl_8, cl_9, cl_10, cl_11, cl_12, cl_13, cl_14, cl_15, cl_16, cl_17, cl_18, cl_19, cl_20, cl_21, cl_22, cl_23, cl_24, cl_25, cl_26, cl_27, cl_28, cl_29, cl_30, cl_31, cl_32, cl_36, cl_40, cl_48, cl_60, cl_108, cl_120, cl_200, cl_201, cl_576, cl_600, cl_864, cl_900, cl_960, cl_5400, cl_8040, j2_0, iN_iZ, iN_lit0, iZ_add, iZ_sub, iZ_mul, iZ_neg, jZ_add, jZ_sub, jZ_mul, jZ_neg, isB0, isB1, isBZ, eq0, eq1, bZ0, vI_, vJ_, vA_, rI_, rJ_, rA_, rV_, nX_, tX_, true_and, and_true, false_and, and_false, and_self, implies_true, forall_const, not_true_eq_false, not_false_eq_true, false_implies, true_implies, ↓reduceIte, Nat.reduceEqDiff, Int.reduceToNat, Int.reduceAdd, Int.reduceSub, Int.reduceLT, Int.reduceLE, Int.reduceEq, Int.add_zero, Int.neg_zero, Int.add_sub_cancel, Int.reduceNeg, Nat.reduceLeDiff, Nat.reduceSub, true_or, or_true, false_or, or_false, setI_d, setJ_d, setP_d, mI_row, mJ_row, mP_row, mI_row_ne, mJ_row_ne, mP_row_ne, rowI_rowI, rowJ_rowJ, rowI_sort, rowJ_sort, rowJ_rowI, rowP_rowI, rowP_rowJ, fu_app, fu_fu, mI_rowJ, mI_rowP, mJ_rowI, mJ_rowP, mP_rowI, mP_rowJ, mK_rowI, mN_rowI, mK_rowJ, mN_rowJ, mK_rowP, mN_rowP, oB_rowI, oB_rowJ, iA_rowI, iA_rowJ, iR_rowI, iR_rowJ, St_rowI, St_rowJ, K154 S4, O154 S4, P154_31 S4, K168 S4, O168 S4, A168 S4, g204, hz]
    rw [QF_i hp]
    refine ⟨Hm_tr H4 (Hm_row (c := 168) (by decide) (by decide) (fun j hj => ?_)), ?_⟩
    · rw [w168] at hj
      exact if_neg (by omega)
    · unfold XM at *
      rw [mI_row_ne (by decide)]
      exact X4
  rcases hq with ⟨he, G2, X2⟩ | ⟨he, T2, N2, F2⟩
  · have hpp : pFl B n b1 (bF q) = .inl (nnE B n b1 (gN (bF q)) (bF q).length, b1) := by unfold pFl; rw [if_pos he]
    have S2 := GT_S G2 S1
    have e4 := c43x (G := G) (d := d + 39) hst S2 X2 (a := 14)
    simp (disch := omega) only [wcQ, wcX, wcG, wcL, wcS, w52_42, w52_43, w52_45, toI, toJ, toI64, inb_T, inb_iZ, Int.toNat_natCast, cl_0, cl_1, cl_2, cl_3, cl_4, cl_5, cl_6, cl_7, cl_8, cl_9, cl_10, cl_11, cl_12, cl_13, cl_14, cl_15, cl_16, cl_17, cl_18, cl_19, cl_20, cl_21, cl_22, cl_23, cl_24, cl_25, cl_26, cl_27, cl_28, cl_29, cl_30, cl_31, cl_32, cl_36, cl_40, cl_48, cl_60, cl_108, cl_120, cl_200, cl_201, cl_576, cl_600, cl_864, cl_900, cl_960, cl_5400, cl_8040, j2_0, iN_iZ, iN_lit0, iZ_add, iZ_sub, iZ_mul, iZ_neg, jZ_add, jZ_sub, jZ_mul, jZ_neg, isB0, isB1, isBZ, eq0, eq1, bZ0, vI_, vJ_, vA_, rI_, rJ_, rA_, rV_, nX_, tX_, true_and, and_true, false_and, and_false, and_self, implies_true, forall_const, not_true_eq_false, not_false_eq_true, false_implies, true_implies, ↓reduceIte, Nat.reduceEqDiff, Int.reduceToNat, Int.reduceAdd, Int.reduceSub, Int.reduceLT, Int.reduceLE, Int.reduceEq, Int.add_zero, Int.neg_zero, Int.add_sub_cancel, Int.reduceNeg, Nat.reduceLeDiff, Nat.reduceSub, true_or, or_true, false_or, or_false, setI_d, setJ_d, setP_d, mI_row, mJ_row, mP_row, mI_row_ne, mJ_row_ne, mP_row_ne, rowI_rowI, rowJ_rowJ, rowI_sort, rowJ_sort, rowJ_rowI, rowP_rowI, rowP_rowJ, fu_app, fu_fu, mI_rowJ, mI_rowP, mJ_rowI, mJ_rowP, mP_rowI, mP_rowJ, mK_rowI, mN_rowI, mK_rowJ, mN_rowJ, mK_rowP, mN_rowP, oB_rowI, oB_rowJ, iA_rowI, iA_rowJ, iR_rowI, iR_rowJ, St_rowI, St_rowJ, O154 S2, h1430]
    refine kV e4 (Nat.le_refl _) (fun M3 hq => ?_) (fun e M' h => False.elim h)
    have hq := hq.symm
    subst hq
    refine X _ _ _ _ hpp (Hm_tr (GT_Hm G1) (GT_Hm G2)) X2 ?_
    rw [G2.2.2.2.2.1 166 (by decide)]; exact cf0
  · have H2 := FN_Hm (r := r) F2 (by omega) (by omega)
    have S2 := Hm_S H2 S1
    have a2 : mI M2 154 23 = iZ s := by rw [F2.2.2.2.2.2.1 23 (by omega)]; exact a1
    have I2 := F2.2.2.2.2.1
    have e4 := c43 (G := G) (d := d + 39) (a := 14) hst S2 T2 (by decide)
    simp (disch := omega) only [wcQ, wcX, wcG, wcL, wcS, w52_42, w52_43, w52_45, toI, toJ, toI64, inb_T, inb_iZ, Int.toNat_natCast, cl_0, cl_1, cl_2, cl_3, cl_4, cl_5, cl_6, cl_7, cl_8, cl_9, cl_10, cl_11, cl_12, cl_13, cl_14, cl_15, cl_16, cl_17, cl_18, cl_19, cl_20, cl_21, cl_22, cl_23, cl_24, cl_25, cl_26, cl_27, cl_28, cl_29, cl_30, cl_31, cl_32, cl_36, cl_40, cl_48, cl_60, cl_108, cl_120, cl_200, cl_201, cl_576, cl_600, cl_864, cl_900, cl_960, cl_5400, cl_8040, j2_0, iN_iZ, iN_lit0, iZ_add, iZ_sub, iZ_mul, iZ_neg, jZ_add, jZ_sub, jZ_mul, jZ_neg, isB0, isB1, isBZ, eq0, eq1, bZ0, vI_, vJ_, vA_, rI_, rJ_, rA_, rV_, nX_, tX_, true_and, and_true, false_and, and_false, and_self, implies_true, forall_const, not_true_eq_false, not_false_eq_true, false_implies, true_implies, ↓reduceIte, Nat.reduceEqDiff, Int.reduceToNat, Int.reduceAdd, Int.reduceSub, Int.reduceLT, Int.reduceLE, Int.reduceEq, Int.add_zero, Int.neg_zero, Int.add_sub_cancel, Int.reduceNeg, Nat.reduceLeDiff, Nat.reduceSub, true_or, or_true, false_or, or_false, setI_d, setJ_d, setP_d, mI_row, mJ_row, mP_row, mI_row_ne, mJ_row_ne, mP_row_ne, rowI_rowI, rowJ_rowJ, rowI_sort, rowJ_sort, rowJ_rowI, rowP_rowI, rowP_rowJ, fu_app, fu_fu, mI_rowJ, mI_rowP, mJ_rowI, mJ_rowP, mP_rowI, mP_rowJ, mK_rowI, mN_rowI, mK_rowJ, mN_rowJ, mK_rowP, mN_rowP, oB_rowI, oB_rowJ, iA_rowI, iA_rowJ, iR_rowI, iR_rowJ, St_rowI, St_rowJ, O154 S2, h1430]
    refine kV e4 (Nat.le_refl _) (fun M3 hq => ?_) (fun e M' h => False.elim h)
    obtain ⟨G3, hq⟩ := hq
    have S3 := GT_S G3 S2
    have I3 := G3.2.2.2.2.1
    have h166 : mI M3 166 r = iZ (bF q).length := by rw [I3 166 (by decide), I2 166 (by decide) (by decide) (by decide)]; exact cf0
    rcases hq with ⟨hw, T3⟩ | ⟨hw, X3⟩
    · have hpp : pFl B n b1 (bF q) = pEx B n 6 (nxT B n (nxT B n b1)) := by unfold pFl; rw [he, if_neg (by omega), if_neg (by simpa using hw)]
      generalize hb3 : nxT B n (nxT B n b1) = b3 at *
      have a3 : mI M3 154 23 = iZ s := by rw [GT_23 G3]; exact a2
      have hix' : ((10 : Int) * r + ((bF q).length : Nat)).toNat = 10 * r + (bF q).length := by omega
      simp (disch := omega) only [wcQ, wcX, wcG, wcL, wcS, w52_48, w52_50, w52_51, w52_52, w52_53, w52_56, w52_57, w52_58, w52_59, w52_60, w52_61, w52_64, w52_65, w52_66, w52_69, w52_70, w52_71, w52_72, w52_73, toI, toJ, toI64, inb_T, inb_iZ, Int.toNat_natCast, cl_0, cl_1, cl_2, cl_3, cl_4, cl_5, cl_6, cl_7, cl_8, cl_9, cl_10, cl_11, cl_12, cl_13, cl_14, cl_15, cl_16, cl_17, cl_18, cl_19, cl_20, cl_21, cl_22, cl_23, cl_24, cl_25, cl_26, cl_27, cl_28, cl_29, cl_30, cl_31, cl_32, cl_36, cl_40, cl_48, cl_60, cl_108, cl_120, cl_200, cl_201, cl_576, cl_600, cl_864, cl_900, cl_960, cl_5400, cl_8040, j2_0, iN_iZ, iN_lit0, iZ_add, iZ_sub, iZ_mul, iZ_neg, jZ_add, jZ_sub, jZ_mul, jZ_neg, isB0, isB1, isBZ, eq0, eq1, bZ0, vI_, vJ_, vA_, rI_, rJ_, rA_, rV_, nX_, tX_, true_and, and_true, false_and, and_false, and_self, implies_true, forall_const, not_true_eq_false, not_false_eq_true, false_implies, true_implies, ↓reduceIte, Nat.reduceEqDiff, Int.reduceToNat, Int.reduceAdd, Int.reduceSub, Int.reduceLT, Int.reduceLE, Int.reduceEq, Int.add_zero, Int.neg_zero, Int.add_sub_cancel, Int.reduceNeg, Nat.reduceLeDiff, Nat.reduceSub, true_or, or_true, false_or, or_false, setI_d, setJ_d, setP_d, mI_row, mJ_row, mP_row, mI_row_ne, mJ_row_ne, mP_row_ne, rowI_rowI, rowJ_rowJ, rowI_sort, rowJ_sort, rowJ_rowI, rowP_rowI, rowP_rowJ, fu_app, fu_fu, mI_rowJ, mI_rowP, mJ_rowI, mJ_rowP, mP_rowI, mP_rowJ, mK_rowI, mN_rowI, mK_rowJ, mN_rowJ, mK_rowP, mN_rowP, oB_rowI, oB_rowJ, iA_rowI, iA_rowJ, iR_rowI, iR_rowJ, St_rowI, St_rowJ, K154 S3, O154 S3, P154_29 S3, P154_30 S3, K166 S3, O166 S3, A166 S3, K167 S3, O167 S3, A167 S3, h166, hix', a3]
      generalize hM4 : rowI M3 167 (fu (mI M3 167) (10 * r + (bF q).length) (iZ s)) = M4
      have hM4 := hM4.symm
      have S4 : Static M4 := by rw [hM4]; exact S3
      have T4 : TM M4 B n b3 := by rw [hM4]; exact TM_row (by decide) (by decide) T3
      have a4 : mI M4 154 23 = iZ s := by rw [hM4, mI_row_ne (by decide)]; exact a3
      have I4 : ∀ c, c ≠ 154 → c ≠ 167 → mI M4 c = mI M3 c := fun c _ hc => by rw [hM4, mI_row_ne hc]
      have z4 : mI M4 167 = fu (mI M3 167) (10 * r + (bF q).length) (iZ s) := by rw [hM4, mI_row]
      have H4 : Hm M3 M4 r := by
        rw [hM4]
        refine Hm_row (c := 167) (by decide) (by decide) (fun j hj => ?_)
        rw [w167] at hj
        exact if_neg (by omega)
      have H04 : Hm M M4 r := Hm_tr (GT_Hm G1) (Hm_tr H2 (Hm_tr (GT_Hm G3) H4))
      have e5 := c51 (G := G) (d := d + 1) (B := B) (n := n) hst hr 6 (by decide) M4 b3 s S4 T4 a4 (by omega)
      refine kV e5 (Nat.le_refl _) (fun M5 hq => ?_) (fun e M' h => False.elim h)
      cases hx : pEx B n 6 b3 with
      | inl v =>
        obtain ⟨e, p⟩ := v
        rw [PS_i hx] at hq
        obtain ⟨G5, X5⟩ := hq
        have H5 := GQ_Hm G5
        have S5 := Hm_S H5 S4
        obtain ⟨g20, x1, x4, _⟩ := id X5
        have hz : ¬ (e : Int) = 0 := by omega
        have h1665 : mI M5 166 r = iZ (bF q).length := by rw [G5.2.2.2.2.1 166 (by decide) (by decide), I4 166 (by decide) (by decide)]; exact h166
        simp (disch := omega) only [wcQ, wcX, wcG, wcL, wcS, w52_76, w52_77, w52_80, w52_81, w52_82, w52_85, w52_86, w52_87, w52_90, w52_103, toI, toJ, toI64, inb_T, inb_iZ, Int.toNat_natCast, cl_0, cl_1, cl_2, cl_3, cl_4, cl_5, cl_6, cl_7, cl_8, cl_9, cl_10, cl_11, cl_12, cl_13, cl_14, cl_15, cl_16, cl_17, cl_18, cl_19, cl_20, cl_21, cl_22, cl_23, cl_24, cl_25, cl_26, cl_27, cl_28, cl_29, cl_30, cl_31, cl_32, cl_36, cl_40, cl_48, cl_60, cl_108, cl_120, cl_200, cl_201, cl_576, cl_600, cl_864, cl_900, cl_960, cl_5400, cl_8040, j2_0, iN_iZ, iN_lit0, iZ_add, iZ_sub, iZ_mul, iZ_neg, jZ_add, jZ_sub, jZ_mul, jZ_neg, isB0, isB1, isBZ, eq0, eq1, bZ0, vI_, vJ_, vA_, rI_, rJ_, rA_, rV_, nX_, tX_, true_and, and_true, false_and, and_false, and_self, implies_true, forall_const, not_true_eq_false, not_false_eq_true, false_implies, true_implies, ↓reduceIte, Nat.reduceEqDiff, Int.reduceToNat, Int.reduceAdd, Int.reduceSub, Int.reduceLT, Int.reduceLE, Int.reduceEq, Int.add_zero, Int.neg_zero, Int.add_sub_cancel, Int.reduceNeg, Nat.reduceLeDiff, Nat.reduceSub, true_or, or_true, false_or, or_false, setI_d, setJ_d, setP_d, mI_row, mJ_row, mP_row, mI_row_ne, mJ_row_ne, mP_row_ne, rowI_rowI, rowJ_rowJ, rowI_sort, rowJ_sort, rowJ_rowI, rowP_rowI, rowP_rowJ, fu_app, fu_fu, mI_rowJ, mI_rowP, mJ_rowI, mJ_rowP, mP_rowI, mP_rowJ, mK_rowI, mN_rowI, mK_rowJ, mN_rowJ, mK_rowP, mN_rowP, oB_rowI, oB_rowJ, iA_rowI, iA_rowJ, iR_rowI, iR_rowJ, St_rowI, St_rowJ, K154 S5, O154 S5, P154_31 S5, K168 S5, O168 S5, A168 S5, hix', g20, hz]
        rw [QF_i (hpp.trans hx)]
        refine ⟨Hm_tr H04 (Hm_tr H5 (Hm_row (c := 168) (by decide) (by decide) (fun j hj => ?_))), ?_⟩
        · rw [w168] at hj
          exact if_neg (by omega)
        · unfold XM at *
          rw [mI_row_ne (by decide)]
          exact X5
      | inr v =>
        obtain ⟨c, l⟩ := v
        rw [PS_r hx] at hq
        obtain ⟨G5, T5, a5, z5⟩ := hq
        have H5 := GQ_Hm G5
        have S5 := Hm_S H5 S4
        have g20 := T5.2.2.2.2.2.2.2.1
        have I5 := G5.2.2.2.2.1
        have h1665 : mI M5 166 r = iZ (bF q).length := by rw [I5 166 (by decide) (by decide), I4 166 (by decide) (by decide)]; exact h166
        simp (disch := omega) only [wcQ, wcX, wcG, wcL, wcS, w52_76, w52_77, w52_80, w52_81, w52_82, w52_85, w52_86, w52_87, w52_90, w52_93, w52_94, w52_97, w52_98, w52_99, w52_100, w52_101, w52_102, w52_103, toI, toJ, toI64, inb_T, inb_iZ, Int.toNat_natCast, cl_0, cl_1, cl_2, cl_3, cl_4, cl_5, cl_6, cl_7, cl_8, cl_9, cl_10, cl_11, cl_12, cl_13, cl_14, cl_15, cl_16, cl_17, cl_18, cl_19, cl_20, cl_21, cl_22, cl_23, cl_24, cl_25, cl_26, cl_27, cl_28, cl_29, cl_30, cl_31, cl_32, cl_36, cl_40, cl_48, cl_60, cl_108, cl_120, cl_200, cl_201, cl_576, cl_600, cl_864, cl_900, cl_960, cl_5400, cl_8040, j2_0, iN_iZ, iN_lit0, iZ_add, iZ_sub, iZ_mul, iZ_neg, jZ_add, jZ_sub, jZ_mul, jZ_neg, isB0, isB1, isBZ, eq0, eq1, bZ0, vI_, vJ_, vA_, rI_, rJ_, rA_, rV_, nX_, tX_, true_and, and_true, false_and, and_false, and_self, implies_true, forall_const, not_true_eq_false, not_false_eq_true, false_implies, true_implies, ↓reduceIte, Nat.reduceEqDiff, Int.reduceToNat, Int.reduceAdd, Int.reduceSub, Int.reduceLT, Int.reduceLE, Int.reduceEq, Int.add_zero, Int.neg_zero, Int.add_sub_cancel, Int.reduceNeg, Nat.reduceLeDiff, Nat.reduceSub, true_or, or_true, false_or, or_false, setI_d, setJ_d, setP_d, mI_row, mJ_row, mP_row, mI_row_ne, mJ_row_ne, mP_row_ne, rowI_rowI, rowJ_rowJ, rowI_sort, rowJ_sort, rowJ_rowI, rowP_rowI, rowP_rowJ, fu_app, fu_fu, mI_rowJ, mI_rowP, mJ_rowI, mJ_rowP, mP_rowI, mP_rowJ, mK_rowI, mN_rowI, mK_rowJ, mN_rowJ, mK_rowP, mN_rowP, oB_rowI, oB_rowJ, iA_rowI, iA_rowJ, iR_rowI, iR_rowJ, St_rowI, St_rowJ, K154 S5, O154 S5, P154_29 S5, P154_31 S5, K166 S5, O166 S5, A166 S5, K168 S5, O168 S5, A168 S5, hix', g20, a5, h1665]
        rw [QF_r (hpp.trans hx)]
        generalize hME : rowI (rowI M5 166 (fu (mI M5 166) r (iZ (((bF q).length : Int) + 1)))) 168 (fu (mI M5 168) (10 * r + (bF q).length) (iZ ((s + (mc l).length : Nat) : Int))) = ME
        have hME := hME.symm
        have IE : ∀ c, c ≠ 154 → c ≠ 166 → c ≠ 168 → c ≠ 176 → mI ME c = mI M4 c := fun c c1 c2 c3 c4 => by rw [hME, mI_row_ne c3, mI_row_ne c2, I5 c c1 c4]
        have J4 : ∀ c, c ≠ 154 → c ≠ 162 → c ≠ 163 → c ≠ 167 → mI M4 c = mI M1 c := fun c c1 c2 c3 c4 => by rw [I4 c c1 c4, I3 c c1, I2 c c1 c2 c3]
        have N4 : ∀ w x, NM M2 w x → NM ME w x := fun w x h => NM_fr h (by rw [IE 162 (by decide) (by decide) (by decide) (by decide), I4 162 (by decide) (by decide), I3 162 (by decide)]) (fun j _ => by rw [IE 163 (by decide) (by decide) (by decide) (by decide), I4 163 (by decide) (by decide), I3 163 (by decide)])
        refine ⟨?_, ?_, ?_, ?_⟩
        · refine Hm_tr H04 (Hm_tr H5 ?_)
          rw [hME]
          refine Hm_tr (Hm_row (c := 166) (by decide) (by decide) (fun j hj => ?_)) (Hm_row (c := 168) (by decide) (by decide) (fun j hj => ?_))
          · rw [w166] at hj; exact if_neg (by omega)
          · rw [w168] at hj; rw [mI_row_ne (by decide)]; exact if_neg (by omega)
        · rw [hME]; exact TM_row (by decide) (by decide) (TM_row (by decide) (by decide) T5)
        · rw [hME, mI_row_ne (by decide), mI_row_ne (by decide)]; exact a5
        · refine MC_addF C1 h10 ?_ ?_ ?_ ?_ (fun w x hw h => N4 w x (NM_FN h F2 hw)) (N4 _ _ N2) ?_ ?_ (fun c c1 c2 => ?_)
          · rw [hME, mI_row_ne (by decide), mI_row]; exact if_pos rfl
          · rw [IE 167 (by decide) (by decide) (by decide) (by decide), z4, I3 167 (by decide), I2 167 (by decide) (by decide) (by decide)]
          · rw [hME, mI_row, I5 168 (by decide) (by decide), J4 168 (by decide) (by decide) (by decide) (by decide)]
          · rw [hME, mI_row_ne (by decide), mI_row_ne (by decide), z5, J4 176 (by decide) (by decide) (by decide) (by decide)]
          · rw [IE 164 (by decide) (by decide) (by decide) (by decide), J4 164 (by decide) (by decide) (by decide) (by decide)]
          · rw [IE 165 (by decide) (by decide) (by decide) (by decide), J4 165 (by decide) (by decide) (by decide) (by decide)]
          · rw [IE c (by omega) (by omega) (by omega) (by omega), J4 c (by omega) (by omega) (by omega) (by omega)]
    · have hpp : pFl B n b1 (bF q) = .inl (1, nxT B n b1) := by unfold pFl; rw [he, if_neg (by omega), if_pos hw]
      exact X _ _ _ _ hpp (Hm_tr (GT_Hm G1) (Hm_tr H2 (GT_Hm G3))) X3 h166
end

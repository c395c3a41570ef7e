/-! RULES: all ties; the reference's side. -/
section
variable {G : GE} {d : Nat} {M M' M'' : Mem} {B : Nat → Nat} {n b r s : Nat} {q : Bk}
def QTm (M : Mem) (B : Nat → Nat) (n r s : Nat) (q : Bk) (x : TR) (M' : Mem) : Prop := Hm M M' r ∧ match x with
  | .inl (e, p) => XM M' e p
  | .inr (c, T) => TM M' B n c ∧ mI M' 154 23 = mI M 154 23 ∧ MC M' r s (bkT q T)
theorem QTm_i {x : TR} {e p : Nat} (h : x = .inl (e, p)) : QTm M B n r s q x M' = (Hm M M' r ∧ XM M' e p) := by rw [h]; rfl
theorem QTm_r {x : TR} {c : Nat} {T : List Int} (h : x = .inr (c, T)) : QTm M B n r s q x M' = (Hm M M' r ∧ TM M' B n c ∧ mI M' 154 23 = mI M 154 23 ∧ MC M' r s (bkT q T)) := by rw [h]; rfl
theorem pTie_len {P : List (Int × Int)} {T T' : List Int} {c : Nat} (h : pTie B n P T b = .inr (c, T')) : T'.length = T.length + 1 := by
  obtain ⟨key, h⟩ : ∃ key : Int, (if ¬ twd B n b 19 ∧ ¬ nmP B n b then .inl (1, b) else if 8 ≤ T.length ∨ 8 < tl B n b then .inl (2, b) else if key = -1 then .inl (3, b) else if key ∈ T then .inl (4, b) else .inr (nxT B n b, T ++ [key]) : TR) = .inr (c, T') := ⟨_, h⟩
  split at h
  · cases h
  · split at h
    · cases h
    · split at h
      · cases h
      · split at h
        · cases h
        · cases h; rw [List.length_append]; rfl
theorem c53 (hst : (gl G).stackTraces = false) (hS : Static M) (hT : TM M B n b) (hr : r < 6) (hC : MC M r s q) : Ev G (d + 8) 53 [aR (some 154), aI (iZ r)] M 0 (rV fun M' => QTm M B n r s q (pTies B n (bP q) b) M') nX := by
  have w172 : bW 172 = 1 := rfl
  have hR0 : pTies B n (bP q) b = match pTie B n (bP q) [] b with
    | .inl e => .inl e
    | .inr (c, T) => pTieR B n (bP q) 8 c T := rfl
  have h0 := hR0
  generalize hR : pTies B n (bP q) b = R at *
  have H1 : Hm M (rowI M 172 (fu (mI M 172) r (iZ 0))) r := Hm_row (c := 172) (by decide) (by decide) (fun j hj => by rw [w172] at hj; exact if_neg (by omega))
  have C1 : MC (rowI M 172 (fu (mI M 172) r (iZ 0))) r s (bkT q []) := by
    refine MC_setT hC (fun c c1 c2 c3 c4 => mI_row_ne c3) ?_ (Nat.zero_le _) (fun i t hx => by simp at hx)
    rw [mI_row]; exact if_pos rfl
  have T1 : TM (rowI M 172 (fu (mI M 172) r (iZ 0))) B n b := TM_row (by decide) (by decide) hT
  refine Ev_wp 2000 hst (by decide) (Nat.le_of_ble_eq_true rfl) ?_; simp (disch := omega) only [en53, wcQ, wcX, wcG, wcL, wcS, w53_0, w53_1, w53_4, w53_5, w53_6, w53_7, w53_8, h53_9, w53_9, toI, toJ, toI64, inb_T, inb_iZ, Int.toNat_natCast, cl_0, cl_1, cl_2, cl_3, cl_4, cl_5, cl_6, cl_7, cl_8, cl_9, cl_10, cl_11, cl_12, cl_13, cl_14, cl_15, cl_16, cl_17, cl_18, cl_19, cl_20, cl_21, cl_22, cl_23, cl_24, cl_25, cl_26, cl_27, cl_28, cl_29, cl_30, cl_31, cl_32, cl_36, cl_40, cl_48, cl_60, cl_108, cl_120, cl_200, cl_201, cl_576, cl_600, cl_864, cl_900, cl_960, cl_5400, cl_8040, j2_0, iN_iZ, iN_lit0, iZ_add, iZ_sub, iZ_mul, iZ_neg, jZ_add, jZ_sub, jZ_mul, jZ_neg, isB0, isB1, isBZ, eq0, eq1, bZ0, vI_, vJ_, vA_, rI_, rJ_, rA_, rV_, nX_, tX_, true_and, and_true, false_and, and_false, and_self, implies_true, forall_const, not_true_eq_false, not_false_eq_true, false_implies, true_implies, ↓reduceIte, Nat.reduceEqDiff, Int.reduceToNat, Int.reduceAdd, Int.reduceSub, Int.reduceLT, Int.reduceLE, Int.reduceEq, Int.add_zero, Int.neg_zero, Int.add_sub_cancel, Int.reduceNeg, Nat.reduceLeDiff, Nat.reduceSub, true_or, or_true, false_or, or_false, setI_d, setJ_d, setP_d, mI_row, mJ_row, mP_row, mI_row_ne, mJ_row_ne, mP_row_ne, rowI_rowI, rowJ_rowJ, rowI_sort, rowJ_sort, rowJ_rowI, rowP_rowI, rowP_rowJ, fu_app, fu_fu, mI_rowJ, mI_rowP, mJ_rowI, mJ_rowP, mP_rowI, mP_rowJ, mK_rowI, mN_rowI, mK_rowJ, mN_rowJ, mK_rowP, mN_rowP, oB_rowI, oB_rowJ, iA_rowI, iA_rowJ, iR_rowI, iR_rowJ, St_rowI, St_rowJ, K154 hS, O154 hS, P154_0 hS, P154_1 hS, P154_7 hS, P154_8 hS, P154_9 hS, P154_10 hS, P154_11 hS, P154_25 hS, P154_26 hS, P154_27 hS, P154_28 hS, P154_29 hS, P154_30 hS, P154_31 hS, P154_32 hS, P154_33 hS, P154_34 hS, P154_35 hS, P154_36 hS, P154_37 hS, P154_38 hS, P154_39 hS, P154_40 hS, P154_41 hS, P154_46 hS, P154_47 hS, P154_48 hS, P154_49 hS, P154_50 hS, P154_51 hS, P154_52 hS, P154_53 hS, P154_54 hS, P154_55 hS, P154_56 hS, P154_57 hS, P154_58 hS, P154_59 hS, P154_60 hS, P154_61 hS, P154_62 hS, P154_63 hS, P154_64 hS, P154_65 hS, P154_68 hS, P154_69 hS, P154_70 hS, P154_71 hS, P154_72 hS, P154_73 hS, P154_74 hS, P154_75 hS, P154_76 hS, P154_77 hS, P154_78 hS, P154_79 hS, P154_80 hS, P154_81 hS, P154_82 hS, P154_83 hS, P154_84 hS, P154_85 hS, P154_86 hS, P154_87 hS, P154_88 hS, P154_89 hS, K172 hS, O172 hS, A172 hS, P154_35 hS]
  refine loopN 9 (fun i ls M' => ∃ x3 x4 x5, ls = [aR (some 154), aI (iZ r), aI (iZ 1), x3, x4, x5] ∧ ∃ c T, T.length = i ∧ Hm M M' r ∧ TM M' B n c ∧ mI M' 154 23 = mI M 154 23 ∧ MC M' r s (bkT q T) ∧ R = match pTie B n (bP q) T c with
    | .inl e => .inl e
    | .inr (c, T) => pTieR B n (bP q) (8 - i) c T) ⟨aU, aU, aU, rfl, b, [], rfl, H1, T1, by rw [mI_row_ne (by decide)], C1, h0⟩ ?_ ?_
  · intro i hi ls Mi ⟨x3, x4, x5, hl, c, T, gl', gH, gT, g23, gC, gR⟩ K
    subst hl
    have gS := Hm_S gH hS
    have h20 := gT.2.2.2.2.2.2.2.1
    refine wp1_go (n := 2000) ?_
    simp (disch := omega) only [wcQ, wcX, wcG, wcL, wcS, h53_9, w53_9, w53_10, w53_13, w53_14, w53_17, toI, toJ, toI64, inb_T, inb_iZ, Int.toNat_natCast, cl_0, cl_1, cl_2, cl_3, cl_4, cl_5, cl_6, cl_7, cl_8, cl_9, cl_10, cl_11, cl_12, cl_13, cl_14, cl_15, cl_16, cl_17, cl_18, cl_19, cl_20, cl_21, cl_22, cl_23, cl_24, cl_25, cl_26, cl_27, cl_28, cl_29, cl_30, cl_31, cl_32, cl_36, cl_40, cl_48, cl_60, cl_108, cl_120, cl_200, cl_201, cl_576, cl_600, cl_864, cl_900, cl_960, cl_5400, cl_8040, j2_0, iN_iZ, iN_lit0, iZ_add, iZ_sub, iZ_mul, iZ_neg, jZ_add, jZ_sub, jZ_mul, jZ_neg, isB0, isB1, isBZ, eq0, eq1, bZ0, vI_, vJ_, vA_, rI_, rJ_, rA_, rV_, nX_, tX_, true_and, and_true, false_and, and_false, and_self, implies_true, forall_const, not_true_eq_false, not_false_eq_true, false_implies, true_implies, ↓reduceIte, Nat.reduceEqDiff, Int.reduceToNat, Int.reduceAdd, Int.reduceSub, Int.reduceLT, Int.reduceLE, Int.reduceEq, Int.add_zero, Int.neg_zero, Int.add_sub_cancel, Int.reduceNeg, Nat.reduceLeDiff, Nat.reduceSub, true_or, or_true, false_or, or_false, setI_d, setJ_d, setP_d, mI_row, mJ_row, mP_row, mI_row_ne, mJ_row_ne, mP_row_ne, rowI_rowI, rowJ_rowJ, rowI_sort, rowJ_sort, rowJ_rowI, rowP_rowI, rowP_rowJ, fu_app, fu_fu, mI_rowJ, mI_rowP, mJ_rowI, mJ_rowP, mP_rowI, mP_rowJ, mK_rowI, mN_rowI, mK_rowJ, mN_rowJ, mK_rowP, mN_rowP, oB_rowI, oB_rowJ, iA_rowI, iA_rowJ, iR_rowI, iR_rowJ, St_rowI, St_rowJ, K154 gS, O154 gS, P154_35 gS, h20]
    refine tie1 hst gS gT hr gC (fun e p M' hp hH hX => ?_) (fun m c' T' M' y3 y4 y5 hp hH hT' h23 hC' => ?_) _
    · have hp : pTie B n (bP q) T c = .inl (e, p) := hp
      rw [hp] at gR
      rw [QTm_i gR]
      exact ⟨Hm_tr gH hH, hX⟩
    · have hp : pTie B n (bP q) T c = .inr (c', T') := hp
      rw [hp] at gR
      have hC' : MC M' r s (bkT q T') := hC'
      have hlen := pTie_len hp
      have hle : T'.length ≤ 8 := hC'.2.2.2.1.2.1
      obtain ⟨f, hf⟩ : ∃ f, 8 - i = f + 1 := ⟨8 - i - 1, by omega⟩
      have hf2 : 8 - (i + 1) = f := by omega
      rw [hf2] at K
      rw [hf] at gR
      have gR : R = pTieR B n (bP q) (f + 1) c' T' := gR
      unfold pTieR at gR
      have S' := Hm_S hH gS
      have H' := Hm_tr gH hH
      have e44 := c38 (G := G) (d := d + 6) (c := 44) hst S' hT' (by decide)
      simp (disch := omega) only [wcQ, wcX, wcG, wcL, wcS, w53_218, w53_219, w53_221, toI, toJ, toI64, inb_T, inb_iZ, Int.toNat_natCast, cl_0, cl_1, cl_2, cl_3, cl_4, cl_5, cl_6, cl_7, cl_8, cl_9, cl_10, cl_11, cl_12, cl_13, cl_14, cl_15, cl_16, cl_17, cl_18, cl_19, cl_20, cl_21, cl_22, cl_23, cl_24, cl_25, cl_26, cl_27, cl_28, cl_29, cl_30, cl_31, cl_32, cl_36, cl_40, cl_48, cl_60, cl_108, cl_120, cl_200, cl_201, cl_576, cl_600, cl_864, cl_900, cl_960, cl_5400, cl_8040, j2_0, iN_iZ, iN_lit0, iZ_add, iZ_sub, iZ_mul, iZ_neg, jZ_add, jZ_sub, jZ_mul, jZ_neg, isB0, isB1, isBZ, eq0, eq1, bZ0, vI_, vJ_, vA_, rI_, rJ_, rA_, rV_, nX_, tX_, true_and, and_true, false_and, and_false, and_self, implies_true, forall_const, not_true_eq_false, not_false_eq_true, false_implies, true_implies, ↓reduceIte, Nat.reduceEqDiff, Int.reduceToNat, Int.reduceAdd, Int.reduceSub, Int.reduceLT, Int.reduceLE, Int.reduceEq, Int.add_zero, Int.neg_zero, Int.add_sub_cancel, Int.reduceNeg, Nat.reduceLeDiff, Nat.reduceSub, true_or, or_true, false_or, or_false, setI_d, setJ_d, setP_d, mI_row, mJ_row, mP_row, mI_row_ne, mJ_row_ne, mP_row_ne, rowI_rowI, rowJ_rowJ, rowI_sort, rowJ_sort, rowJ_rowI, rowP_rowI, rowP_rowJ, fu_app, fu_fu, mI_rowJ, mI_rowP, mJ_rowI, mJ_rowP, mP_rowI, mP_rowJ, mK_rowI, mN_rowI, mK_rowJ, mN_rowJ, mK_rowP, mN_rowP, oB_rowI, oB_rowJ, iA_rowI, iA_rowJ, iR_rowI, iR_rowJ, St_rowI, St_rowJ, O154 S']
      refine kI0 e44 ?_
      by_cases w : sgP B n c' 44
      · have w' := eq_true w
        rw [if_pos w] at gR
        simp (disch := omega) only [wcQ, wcX, wcG, wcL, wcS, w53_224, w53_225, w53_226, w53_229, w53_230, toI, toJ, toI64, inb_T, inb_iZ, Int.toNat_natCast, cl_0, cl_1, cl_2, cl_3, cl_4, cl_5, cl_6, cl_7, cl_8, cl_9, cl_10, cl_11, cl_12, cl_13, cl_14, cl_15, cl_16, cl_17, cl_18, cl_19, cl_20, cl_21, cl_22, cl_23, cl_24, cl_25, cl_26, cl_27, cl_28, cl_29, cl_30, cl_31, cl_32, cl_36, cl_40, cl_48, cl_60, cl_108, cl_120, cl_200, cl_201, cl_576, cl_600, cl_864, cl_900, cl_960, cl_5400, cl_8040, j2_0, iN_iZ, iN_lit0, iZ_add, iZ_sub, iZ_mul, iZ_neg, jZ_add, jZ_sub, jZ_mul, jZ_neg, isB0, isB1, isBZ, eq0, eq1, bZ0, vI_, vJ_, vA_, rI_, rJ_, rA_, rV_, nX_, tX_, true_and, and_true, false_and, and_false, and_self, implies_true, forall_const, not_true_eq_false, not_false_eq_true, false_implies, true_implies, ↓reduceIte, Nat.reduceEqDiff, Int.reduceToNat, Int.reduceAdd, Int.reduceSub, Int.reduceLT, Int.reduceLE, Int.reduceEq, Int.add_zero, Int.neg_zero, Int.add_sub_cancel, Int.reduceNeg, Nat.reduceLeDiff, Nat.reduceSub, true_or, or_true, false_or, or_false, setI_d, setJ_d, setP_d, mI_row, mJ_row, mP_row, mI_row_ne, mJ_row_ne, mP_row_ne, rowI_rowI, rowJ_rowJ, rowI_sort, rowJ_sort, rowJ_rowI, rowP_rowI, rowP_rowJ, fu_app, fu_fu, mI_rowJ, mI_rowP, mJ_rowI, mJ_rowP, mP_rowI, mP_rowJ, mK_rowI, mN_rowI, mK_rowJ, mN_rowJ, mK_rowP, mN_rowP, oB_rowI, oB_rowJ, iA_rowI, iA_rowJ, iR_rowI, iR_rowJ, St_rowI, St_rowJ, w', O154 S']
        refine kV (c29t (G := G) (d := d + 5) hst S' hT') (Nat.le_refl _) (fun M3 hq => ?_) (fun e M' h => False.elim h)
        obtain ⟨G3, T3⟩ := hq
        simp (disch := omega) only [wcQ, wcX, wcG, wcL, wcS, h53_9, w53_9, w53_233, toI, toJ, toI64, inb_T, inb_iZ, Int.toNat_natCast, cl_0, cl_1, cl_2, cl_3, cl_4, cl_5, cl_6, cl_7, cl_8, cl_9, cl_10, cl_11, cl_12, cl_13, cl_14, cl_15, cl_16, cl_17, cl_18, cl_19, cl_20, cl_21, cl_22, cl_23, cl_24, cl_25, cl_26, cl_27, cl_28, cl_29, cl_30, cl_31, cl_32, cl_36, cl_40, cl_48, cl_60, cl_108, cl_120, cl_200, cl_201, cl_576, cl_600, cl_864, cl_900, cl_960, cl_5400, cl_8040, j2_0, iN_iZ, iN_lit0, iZ_add, iZ_sub, iZ_mul, iZ_neg, jZ_add, jZ_sub, jZ_mul, jZ_neg, isB0, isB1, isBZ, eq0, eq1, bZ0, vI_, vJ_, vA_, rI_, rJ_, rA_, rV_, nX_, tX_, true_and, and_true, false_and, and_false, and_self, implies_true, forall_const, not_true_eq_false, not_false_eq_true, false_implies, true_implies, ↓reduceIte, Nat.reduceEqDiff, Int.reduceToNat, Int.reduceAdd, Int.reduceSub, Int.reduceLT, Int.reduceLE, Int.reduceEq, Int.add_zero, Int.neg_zero, Int.add_sub_cancel, Int.reduceNeg, Nat.reduceLeDiff, Nat.reduceSub, true_or, or_true, false_or, or_false, setI_d, setJ_d, setP_d, mI_row, mJ_row, mP_row, mI_row_ne, mJ_row_ne, mP_row_ne, rowI_rowI, rowJ_rowJ, rowI_sort, rowJ_sort, rowJ_rowI, rowP_rowI, rowP_rowJ, fu_app, fu_fu, mI_rowJ, mI_rowP, mJ_rowI, mJ_rowP, mP_rowI, mP_rowJ, mK_rowI, mN_rowI, mK_rowJ, mN_rowJ, mK_rowP, mN_rowP, oB_rowI, oB_rowJ, iA_rowI, iA_rowJ, iR_rowI, iR_rowJ, St_rowI, St_rowJ]
        exact K _ _ ⟨_, _, _, rfl, nxT B n c', T', by omega, Hm_tr H' (GT_Hm G3), T3, by rw [GT_23 G3, h23, g23], MC_GT hC' G3, gR⟩
      · have w' := eq_false w
        rw [if_neg w] at gR
        simp (disch := omega) only [wcQ, wcX, wcG, wcL, wcS, h53_9, w53_9, w53_224, w53_225, w53_226, w53_233, toI, toJ, toI64, inb_T, inb_iZ, Int.toNat_natCast, cl_0, cl_1, cl_2, cl_3, cl_4, cl_5, cl_6, cl_7, cl_8, cl_9, cl_10, cl_11, cl_12, cl_13, cl_14, cl_15, cl_16, cl_17, cl_18, cl_19, cl_20, cl_21, cl_22, cl_23, cl_24, cl_25, cl_26, cl_27, cl_28, cl_29, cl_30, cl_31, cl_32, cl_36, cl_40, cl_48, cl_60, cl_108, cl_120, cl_200, cl_201, cl_576, cl_600, cl_864, cl_900, cl_960, cl_5400, cl_8040, j2_0, iN_iZ, iN_lit0, iZ_add, iZ_sub, iZ_mul, iZ_neg, jZ_add, jZ_sub, jZ_mul, jZ_neg, isB0, isB1, isBZ, eq0, eq1, bZ0, vI_, vJ_, vA_, rI_, rJ_, rA_, rV_, nX_, tX_, true_and, and_true, false_and, and_false, and_self, implies_true, forall_const, not_true_eq_false, not_false_eq_true, false_implies, true_implies, ↓reduceIte, Nat.reduceEqDiff, Int.reduceToNat, Int.reduceAdd, Int.reduceSub, Int.reduceLT, Int.reduceLE, Int.reduceEq, Int.add_zero, Int.neg_zero, Int.add_sub_cancel, Int.reduceNeg, Nat.reduceLeDiff, Nat.reduceSub, true_or, or_true, false_or, or_false, setI_d, setJ_d, setP_d, mI_row, mJ_row, mP_row, mI_row_ne, mJ_row_ne, mP_row_ne, rowI_rowI, rowJ_rowJ, rowI_sort, rowJ_sort, rowJ_rowI, rowP_rowI, rowP_rowJ, fu_app, fu_fu, mI_rowJ, mI_rowP, mJ_rowI, mJ_rowP, mP_rowI, mP_rowJ, mK_rowI, mN_rowI, mK_rowJ, mN_rowJ, mK_rowP, mN_rowP, oB_rowI, oB_rowJ, iA_rowI, iA_rowJ, iR_rowI, iR_rowJ, St_rowI, St_rowJ, w', O154 S']
        refine wp1_go (n := 2000) ?_
        simp (disch := omega) only [wcQ, wcX, wcG, wcL, wcS, h53_9, w53_9, w53_10, w53_236, toI, toJ, toI64, inb_T, inb_iZ, Int.toNat_natCast, cl_0, cl_1, cl_2, cl_3, cl_4, cl_5, cl_6, cl_7, cl_8, cl_9, cl_10, cl_11, cl_12, cl_13, cl_14, cl_15, cl_16, cl_17, cl_18, cl_19, cl_20, cl_21, cl_22, cl_23, cl_24, cl_25, cl_26, cl_27, cl_28, cl_29, cl_30, cl_31, cl_32, cl_36, cl_40, cl_48, cl_60, cl_108, cl_120, cl_200, cl_201, cl_576, cl_600, cl_864, cl_900, cl_960, cl_5400, cl_8040, j2_0, iN_iZ, iN_lit0, iZ_add, iZ_sub, iZ_mul, iZ_neg, jZ_add, jZ_sub, jZ_mul, jZ_neg, isB0, isB1, isBZ, eq0, eq1, bZ0, vI_, vJ_, vA_, rI_, rJ_, rA_, rV_, nX_, tX_, true_and, and_true, false_and, and_false, and_self, implies_true, forall_const, not_true_eq_false, not_false_eq_true, false_implies, true_implies, ↓reduceIte, Nat.reduceEqDiff, Int.reduceToNat, Int.reduceAdd, Int.reduceSub, Int.reduceLT, Int.reduceLE, Int.reduceEq, Int.add_zero, Int.neg_zero, Int.add_sub_cancel, Int.reduceNeg, Nat.reduceLeDiff, Nat.reduceSub, true_or, or_true, false_or, or_false, setI_d, setJ_d, setP_d, mI_row, mJ_row, mP_row, mI_row_ne, mJ_row_ne, mP_row_ne, rowI_rowI, rowJ_rowJ, rowI_sort, rowJ_sort, rowJ_rowI, rowP_rowI, rowP_rowJ, fu_app, fu_fu, mI_rowJ, mI_rowP, mJ_rowI, mJ_rowP, mP_rowI, mP_rowJ, mK_rowI, mN_rowI, mK_rowJ, mN_rowJ, mK_rowP, mN_rowP, oB_rowI, oB_rowJ, iA_rowI, iA_rowJ, iR_rowI, iR_rowJ, St_rowI, St_rowJ]
        rw [QTm_r gR]
        exact ⟨H', hT', h23.trans g23, hC'⟩
  · intro ls Mi ⟨x3, x4, x5, hl, c, T, gl', gH, gT, g23, gC, gR⟩
    have := gC.2.2.2.1.2.1
    have h9 : (bT (bkT q T)).length = T.length := rfl
    omega
end

/-! SCALE: tellPairs of the reference. -/
section
variable {G : GE} {d : Nat} {M M' M'' : Mem} {s : Sn} {k : Int} {w j l i Dg Jn : Nat}
/-- but for what is worked out all is as it was -/
def FU (M M' : Mem) : Prop := mK M' = mK M ∧ mN M' = mN M ∧ mP M' = mP M ∧ (∀ c, (c < 215 ∨ 217 < c) → mJ M' c = mJ M c) ∧ ∀ c, c ≠ 177 → c ≠ 178 → (c < 203 ∨ (212 < c ∧ c < 218) ∨ 220 < c) → mI M' c = mI M c
theorem FU_FJ (h : FJ M M') : FU M M' := ⟨h.1, h.2.1, h.2.2.1, fun c _ => by rw [h.2.2.2.1], fun c h1 h2 h3 => h.2.2.2.2 c h1 h2 (by omega)⟩
theorem FU_FQ (h : FU M M') (h' : FQ M' M'') : FU M M'' := by
  obtain ⟨a1, a2, a3, a4, a5⟩ := h
  obtain ⟨b1, b2, b3, b4, b5⟩ := h'
  exact ⟨b1.trans a1, b2.trans a2, b3.trans a3, fun c h => (b4 c h).trans (a4 c h), fun c h1 h2 h3 => (b5 c (by omega)).trans (a5 c h1 h2 h3)⟩
theorem JU_FQ {u : Nat} (h : FQ M M') (hJ : JU M s k u) : JU M' s k u := by
  have e := h.2.2.2.2
  unfold JU at *
  rw [e 203 (by omega), e 204 (by omega), e 205 (by omega), e 208 (by omega), e 209 (by omega)]
  exact hJ
theorem c92 (hst : (gl G).stackTraces = false) (hS : Static M) (hO : Sok s) (hM : MSn M s) (hDg : mI M 154 6 = iZ Dg) (g24 : Dg ≤ 24) (hJn : mI M 154 4 = iZ Jn) (j6 : Jn ≤ 6) (hd : ∀ u, u < nRn s → uDg s u < Dg) (hj : ∀ u, u < nRn s → uJd s u < Jn) (k1 : -2147483648 ≤ k) (k2 : k < 2147483648) : Ev G (d + 6) 92 [aR (some 154), aI (iZ k)] M 0 (rV fun M' => FU M M' ∧ XW M' (wS (tT s k) 24) ∧ XR M' (rS (tT s k) 24) ∧ XH M' (fun x => sN (wS (tT s k) 24 x) 6) ∧ ∃ g, XG M' g ∧ Gi (eS (tT s k) 24) g) nX := by
  have e0 := c72 (G := G) (d := d) (M := M) (s := s) (k := k) hst hS hO hM k1 k2
  refine Ev_wp 2000 hst (by decide) (Nat.le_of_ble_eq_true rfl) ?_; simp (disch := omega) only [en92, wcQ, wcX, wcG, wcL, wcS, w92_0, w92_1, w92_2, toI, toJ, toI64, inb_T, inb_iZ, Int.toNat_natCast, cl_0, cl_1, cl_2, cl_3, cl_4, cl_5, cl_6, cl_7, cl_8, cl_9, cl_10, cl_11, cl_12, cl_13, cl_14, cl_15, cl_16, cl_17, cl_18, cl_19, cl_20, cl_21, cl_22, cl_23, cl_24, cl_25, cl_26, cl_27, cl_28, cl_29, cl_30, cl_31, cl_32, cl_36, cl_40, cl_48, cl_60, cl_108, cl_120, cl_200, cl_201, cl_576, cl_600, cl_864, cl_900, cl_960, cl_5400, cl_8040, j2_0, iN_iZ, iN_lit0, iZ_add, iZ_sub, iZ_mul, iZ_neg, jZ_add, jZ_sub, jZ_mul, jZ_neg, isB0, isB1, isBZ, eq0, eq1, bZ0, vI_, vJ_, vA_, rI_, rJ_, rA_, rV_, nX_, tX_, true_and, and_true, false_and, and_false, and_self, implies_true, forall_const, not_true_eq_false, not_false_eq_true, false_implies, true_implies, ↓reduceIte, Nat.reduceEqDiff, Int.reduceToNat, Int.reduceAdd, Int.reduceSub, Int.reduceLT, Int.reduceLE, Int.reduceEq, Int.add_zero, Int.neg_zero, Int.add_sub_cancel, Int.reduceNeg, Nat.reduceLeDiff, Nat.reduceSub, true_or, or_true, false_or, or_false, setI_d, setJ_d, setP_d, mI_row, mJ_row, mP_row, mI_row_ne, mJ_row_ne, mP_row_ne, rowI_rowI, rowJ_rowJ, rowI_sort, rowJ_sort, rowJ_rowI, rowP_rowI, rowP_rowJ, fu_app, fu_fu, mI_rowJ, mI_rowP, mJ_rowI, mJ_rowP, mP_rowI, mP_rowJ, mK_rowI, mN_rowI, mK_rowJ, mN_rowJ, mK_rowP, mN_rowP, oB_rowI, oB_rowJ, iA_rowI, iA_rowJ, iR_rowI, iR_rowJ, St_rowI, St_rowJ, K154 hS, O154 hS, P154_0 hS, P154_1 hS, P154_7 hS, P154_8 hS, P154_9 hS, P154_10 hS, P154_11 hS, P154_25 hS, P154_26 hS, P154_27 hS, P154_28 hS, P154_29 hS, P154_30 hS, P154_31 hS, P154_32 hS, P154_33 hS, P154_34 hS, P154_35 hS, P154_36 hS, P154_37 hS, P154_38 hS, P154_39 hS, P154_40 hS, P154_41 hS, P154_46 hS, P154_47 hS, P154_48 hS, P154_49 hS, P154_50 hS, P154_51 hS, P154_52 hS, P154_53 hS, P154_54 hS, P154_55 hS, P154_56 hS, P154_57 hS, P154_58 hS, P154_59 hS, P154_60 hS, P154_61 hS, P154_62 hS, P154_63 hS, P154_64 hS, P154_65 hS, P154_68 hS, P154_69 hS, P154_70 hS, P154_71 hS, P154_72 hS, P154_73 hS, P154_74 hS, P154_75 hS, P154_76 hS, P154_77 hS, P154_78 hS, P154_79 hS, P154_80 hS, P154_81 hS, P154_82 hS, P154_83 hS, P154_84 hS, P154_85 hS, P154_86 hS, P154_87 hS, P154_88 hS, P154_89 hS]
  refine kV e0 (Nat.le_refl _) (fun M1 hq => ?_) (fun e M' h => False.elim h)
  obtain ⟨F1, J1⟩ := hq
  have S1 := FJ_S F1 hS
  have m1 := MSn_FJ F1 hM
  have gD : mI M1 154 6 = iZ Dg := by rw [F1.2.2.2.2 154 (by decide) (by decide) (by decide)]; exact hDg
  have gJ : mI M1 154 4 = iZ Jn := by rw [F1.2.2.2.2 154 (by decide) (by decide) (by decide)]; exact hJn
  obtain ⟨T, hTT⟩ : ∃ T, T = tT s k := ⟨_, rfl⟩
  rw [← hTT]
  have tD : ∀ w x, Dg ≤ w → T w x = -1 := fun w x hw => by
    rw [hTT]; exact tA_no _ (fun i hi z => by have := hd i hi; omega)
  have tJ : ∀ w x, Jn ≤ x → T w x = -1 := fun w x hw => by
    rw [hTT]; exact tA_no _ (fun i hi z => by have h1 := hj i hi; have h2 := z.2.1; exact absurd (h2 ▸ h1) (by omega))
  have tb : ∀ w x, -1 ≤ T w x ∧ T w x ≤ 2792 := fun w x => by rw [hTT]; exact tA_b hO _
  simp (disch := omega) only [wcQ, wcX, wcG, wcL, wcS, w92_5, w92_6, h92_7, w92_7, toI, toJ, toI64, inb_T, inb_iZ, Int.toNat_natCast, cl_0, cl_1, cl_2, cl_3, cl_4, cl_5, cl_6, cl_7, cl_8, cl_9, cl_10, cl_11, cl_12, cl_13, cl_14, cl_15, cl_16, cl_17, cl_18, cl_19, cl_20, cl_21, cl_22, cl_23, cl_24, cl_25, cl_26, cl_27, cl_28, cl_29, cl_30, cl_31, cl_32, cl_36, cl_40, cl_48, cl_60, cl_108, cl_120, cl_200, cl_201, cl_576, cl_600, cl_864, cl_900, cl_960, cl_5400, cl_8040, j2_0, iN_iZ, iN_lit0, iZ_add, iZ_sub, iZ_mul, iZ_neg, jZ_add, jZ_sub, jZ_mul, jZ_neg, isB0, isB1, isBZ, eq0, eq1, bZ0, vI_, vJ_, vA_, rI_, rJ_, rA_, rV_, nX_, tX_, true_and, and_true, false_and, and_false, and_self, implies_true, forall_const, not_true_eq_false, not_false_eq_true, false_implies, true_implies, ↓reduceIte, Nat.reduceEqDiff, Int.reduceToNat, Int.reduceAdd, Int.reduceSub, Int.reduceLT, Int.reduceLE, Int.reduceEq, Int.add_zero, Int.neg_zero, Int.add_sub_cancel, Int.reduceNeg, Nat.reduceLeDiff, Nat.reduceSub, true_or, or_true, false_or, or_false, setI_d, setJ_d, setP_d, mI_row, mJ_row, mP_row, mI_row_ne, mJ_row_ne, mP_row_ne, rowI_rowI, rowJ_rowJ, rowI_sort, rowJ_sort, rowJ_rowI, rowP_rowI, rowP_rowJ, fu_app, fu_fu, mI_rowJ, mI_rowP, mJ_rowI, mJ_rowP, mP_rowI, mP_rowJ, mK_rowI, mN_rowI, mK_rowJ, mN_rowJ, mK_rowP, mN_rowP, oB_rowI, oB_rowJ, iA_rowI, iA_rowJ, iR_rowI, iR_rowJ, St_rowI, St_rowJ]
  refine loopN 6 (fun i ls M' => (∃ x1 x2 x3 x4, ls = [aR (some 154), aI (iZ k), aI (iZ i), x1, x2, x3, x4]) ∧ FQ M1 M' ∧ (∀ x, x < i → mJ M' 216 x = jZ 0 ∧ mI M' 219 x = iZ 0 ∧ mI M' 218 x = iZ x) ∧ ∀ x, x < 6 * i → mJ M' 215 x = jZ 0) ⟨⟨_, _, _, _, rfl⟩, FQ_rfl, fun _ h => absurd h (by omega), fun _ h => absurd h (by omega)⟩ ?_ ?_
  · intro i hi ls Mi ⟨⟨x1, x2, x3, x4, hl⟩, iF, i1, i2⟩ K
    subst hl
    have Si := FQ_S iF S1
    have hi' : (i : Int) < 6 := by omega
    refine wp1_go (n := 2000) ?_
    simp (disch := omega) only [wcQ, wcX, wcG, wcL, wcS, h92_7, w92_7, w92_8, w92_10, w92_13, w92_14, w92_17, w92_18, w92_19, w92_20, w92_21, w92_24, w92_25, w92_26, w92_27, w92_28, w92_31, w92_32, w92_33, w92_34, w92_35, h92_36, w92_36, toI, toJ, toI64, inb_T, inb_iZ, Int.toNat_natCast, cl_0, cl_1, cl_2, cl_3, cl_4, cl_5, cl_6, cl_7, cl_8, cl_9, cl_10, cl_11, cl_12, cl_13, cl_14, cl_15, cl_16, cl_17, cl_18, cl_19, cl_20, cl_21, cl_22, cl_23, cl_24, cl_25, cl_26, cl_27, cl_28, cl_29, cl_30, cl_31, cl_32, cl_36, cl_40, cl_48, cl_60, cl_108, cl_120, cl_200, cl_201, cl_576, cl_600, cl_864, cl_900, cl_960, cl_5400, cl_8040, j2_0, iN_iZ, iN_lit0, iZ_add, iZ_sub, iZ_mul, iZ_neg, jZ_add, jZ_sub, jZ_mul, jZ_neg, isB0, isB1, isBZ, eq0, eq1, bZ0, vI_, vJ_, vA_, rI_, rJ_, rA_, rV_, nX_, tX_, true_and, and_true, false_and, and_false, and_self, implies_true, forall_const, not_true_eq_false, not_false_eq_true, false_implies, true_implies, ↓reduceIte, Nat.reduceEqDiff, Int.reduceToNat, Int.reduceAdd, Int.reduceSub, Int.reduceLT, Int.reduceLE, Int.reduceEq, Int.add_zero, Int.neg_zero, Int.add_sub_cancel, Int.reduceNeg, Nat.reduceLeDiff, Nat.reduceSub, true_or, or_true, false_or, or_false, setI_d, setJ_d, setP_d, mI_row, mJ_row, mP_row, mI_row_ne, mJ_row_ne, mP_row_ne, rowI_rowI, rowJ_rowJ, rowI_sort, rowJ_sort, rowJ_rowI, rowP_rowI, rowP_rowJ, fu_app, fu_fu, mI_rowJ, mI_rowP, mJ_rowI, mJ_rowP, mP_rowI, mP_rowJ, mK_rowI, mN_rowI, mK_rowJ, mN_rowJ, mK_rowP, mN_rowP, oB_rowI, oB_rowJ, iA_rowI, iA_rowJ, iR_rowI, iR_rowJ, St_rowI, St_rowJ, K154 Si, O154 Si, P154_84 Si, P154_85 Si, P154_87 Si, P154_88 Si, K216 Si, O216 Si, A216 Si, K218 Si, O218 Si, A218 Si, K219 Si, O219 Si, A219 Si, hi']
    obtain ⟨M2, hM2⟩ : ∃ M2, M2 = rowI (rowI (rowJ Mi 216 (fu (mJ Mi 216) i (jZ 0))) 218 (fu (mI Mi 218) i (iZ i))) 219 (fu (mI Mi 219) i (iZ 0)) := ⟨_, rfl⟩
    rw [← hM2]
    have F2 : FQ Mi M2 := by rw [hM2]; exact FQ_tr (FQ_tr (FQ_rowJ (by omega) (by omega)) (FQ_row (by omega) (by omega))) (FQ_row (by omega) (by omega))
    have S2 := FQ_S F2 Si
    have v2 : ∀ x, x < i + 1 → mJ M2 216 x = jZ 0 ∧ mI M2 219 x = iZ 0 ∧ mI M2 218 x = iZ x := fun x hx => by
      have a1 : mJ M2 216 = fu (mJ Mi 216) i (jZ 0) := by rw [hM2, mJ_rowI, mJ_rowI, mJ_row]
      have a2 : mI M2 219 = fu (mI Mi 219) i (iZ 0) := by rw [hM2, mI_row]
      have a3 : mI M2 218 = fu (mI Mi 218) i (iZ i) := by rw [hM2, mI_row_ne (by decide), mI_row]
      rw [a1, a2, a3]
      by_cases z : x = i
      · subst z; exact ⟨if_pos rfl, if_pos rfl, if_pos rfl⟩
      · obtain ⟨b1, b2, b3⟩ := i1 x (by omega)
        exact ⟨(if_neg z).trans b1, (if_neg z).trans b2, (if_neg z).trans b3⟩
    have w2 : ∀ x, x < 6 * i → mJ M2 215 x = jZ 0 := fun x hx => by
      rw [hM2, mJ_rowI, mJ_rowI, mJ_row_ne (by decide)]; exact i2 x hx
    clear hM2
    refine loopN 6 (fun j ls M' => ls = [aR (some 154), aI (iZ k), aI (iZ i), aI (iZ j), x2, x3, x4] ∧ ∃ f, M' = rowJ M2 215 f ∧ ∀ x, x < 6 * i + j → f x = jZ 0) ⟨rfl, mJ M2 215, rowJ_mJ.symm, w2⟩ ?_ ?_
    · intro j hj ls Mj ⟨hl, f, hM, hf⟩ Kj
      subst hl
      have Sj : Static Mj := by rw [hM]; exact S2
      have hj' : (j : Int) < 6 := by omega
      have ix : ((6 : Int) * i + j).toNat = 6 * i + j := by omega
      refine wp1_go (n := 2000) ?_
      simp (disch := omega) only [wcQ, wcX, wcG, wcL, wcS, h92_36, w92_36, w92_37, w92_39, w92_42, w92_43, w92_46, w92_48, w92_49, w92_50, w92_51, w92_52, w92_53, w92_54, w92_57, toI, toJ, toI64, inb_T, inb_iZ, Int.toNat_natCast, cl_0, cl_1, cl_2, cl_3, cl_4, cl_5, cl_6, cl_7, cl_8, cl_9, cl_10, cl_11, cl_12, cl_13, cl_14, cl_15, cl_16, cl_17, cl_18, cl_19, cl_20, cl_21, cl_22, cl_23, cl_24, cl_25, cl_26, cl_27, cl_28, cl_29, cl_30, cl_31, cl_32, cl_36, cl_40, cl_48, cl_60, cl_108, cl_120, cl_200, cl_201, cl_576, cl_600, cl_864, cl_900, cl_960, cl_5400, cl_8040, j2_0, iN_iZ, iN_lit0, iZ_add, iZ_sub, iZ_mul, iZ_neg, jZ_add, jZ_sub, jZ_mul, jZ_neg, isB0, isB1, isBZ, eq0, eq1, bZ0, vI_, vJ_, vA_, rI_, rJ_, rA_, rV_, nX_, tX_, true_and, and_true, false_and, and_false, and_self, implies_true, forall_const, not_true_eq_false, not_false_eq_true, false_implies, true_implies, ↓reduceIte, Nat.reduceEqDiff, Int.reduceToNat, Int.reduceAdd, Int.reduceSub, Int.reduceLT, Int.reduceLE, Int.reduceEq, Int.add_zero, Int.neg_zero, Int.add_sub_cancel, Int.reduceNeg, Nat.reduceLeDiff, Nat.reduceSub, true_or, or_true, false_or, or_false, setI_d, setJ_d, setP_d, mI_row, mJ_row, mP_row, mI_row_ne, mJ_row_ne, mP_row_ne, rowI_rowI, rowJ_rowJ, rowI_sort, rowJ_sort, rowJ_rowI, rowP_rowI, rowP_rowJ, fu_app, fu_fu, mI_rowJ, mI_rowP, mJ_rowI, mJ_rowP, mP_rowI, mP_rowJ, mK_rowI, mN_rowI, mK_rowJ, mN_rowJ, mK_rowP, mN_rowP, oB_rowI, oB_rowJ, iA_rowI, iA_rowJ, iR_rowI, iR_rowJ, St_rowI, St_rowJ, K154 Sj, O154 Sj, P154_84 Sj, K215 Sj, O215 Sj, A215 Sj, hj', ix]
      refine Kj _ _ ⟨rfl, fu f (6 * i + j) (jZ 0), by rw [hM, mJ_row, rowJ_rowJ], fun x hx => ?_⟩
      by_cases z : x = 6 * i + j
      · exact if_pos z
      · exact (if_neg z).trans (hf x (by omega))
    · intro ls Mj ⟨hl, f, hM, hf⟩
      subst hl
      refine wp1_go (n := 2000) ?_
      simp (disch := omega) only [wcQ, wcX, wcG, wcL, wcS, h92_7, w92_7, h92_36, w92_36, w92_37, w92_39, w92_60, w92_63, toI, toJ, toI64, inb_T, inb_iZ, Int.toNat_natCast, cl_0, cl_1, cl_2, cl_3, cl_4, cl_5, cl_6, cl_7, cl_8, cl_9, cl_10, cl_11, cl_12, cl_13, cl_14, cl_15, cl_16, cl_17, cl_18, cl_19, cl_20, cl_21, cl_22, cl_23, cl_24, cl_25, cl_26, cl_27, cl_28, cl_29, cl_30, cl_31, cl_32, cl_36, cl_40, cl_48, cl_60, cl_108, cl_120, cl_200, cl_201, cl_576, cl_600, cl_864, cl_900, cl_960, cl_5400, cl_8040, j2_0, iN_iZ, iN_lit0, iZ_add, iZ_sub, iZ_mul, iZ_neg, jZ_add, jZ_sub, jZ_mul, jZ_neg, isB0, isB1, isBZ, eq0, eq1, bZ0, vI_, vJ_, vA_, rI_, rJ_, rA_, rV_, nX_, tX_, true_and, and_true, false_and, and_false, and_self, implies_true, forall_const, not_true_eq_false, not_false_eq_true, false_implies, true_implies, ↓reduceIte, Nat.reduceEqDiff, Int.reduceToNat, Int.reduceAdd, Int.reduceSub, Int.reduceLT, Int.reduceLE, Int.reduceEq, Int.add_zero, Int.neg_zero, Int.add_sub_cancel, Int.reduceNeg, Nat.reduceLeDiff, Nat.reduceSub, true_or, or_true, false_or, or_false, setI_d, setJ_d, setP_d, mI_row, mJ_row, mP_row, mI_row_ne, mJ_row_ne, mP_row_ne, rowI_rowI, rowJ_rowJ, rowI_sort, rowJ_sort, rowJ_rowI, rowP_rowI, rowP_rowJ, fu_app, fu_fu, mI_rowJ, mI_rowP, mJ_rowI, mJ_rowP, mP_rowI, mP_rowJ, mK_rowI, mN_rowI, mK_rowJ, mN_rowJ, mK_rowP, mN_rowP, oB_rowI, oB_rowJ, iA_rowI, iA_rowJ, iR_rowI, iR_rowJ, St_rowI, St_rowJ]
      refine K _ _ ⟨⟨_, _, _, _, rfl⟩, FQ_tr iF (FQ_tr F2 (by rw [hM]; exact FQ_rowJ (by omega) (by omega))), fun x hx => ?_, fun x hx => ?_⟩
      · rw [hM, mJ_row_ne (by decide)]; exact v2 x hx
      · rw [hM, mJ_row]; exact hf x (by omega)
  · intro ls Mi ⟨⟨x1, x2, x3, x4, hl⟩, iF, i1, i2⟩
    subst hl
    have Si := FQ_S iF S1
    have X0 : XS Mi T 0 0 1 := by
      have h0 : ∀ x y, ¬ qP T 0 0 1 x y := fun x y z => by
        have := z.2.1
        have := z.1
        omega
      refine ⟨fun x y hx hy => ?_, fun x hx => ?_, fun x hx => ?_, fun x => x, fun x hx => (i1 x hx).2.2, Gi_iff Gi_0 (fun x y => ⟨fun z => False.elim z, fun z => ?_⟩)⟩
      · rw [i2 _ (by omega)]; unfold qW; rw [ind_f (h0 x y)]; rfl
      · rw [(i1 x hx).1]; unfold qR; rw [sN_0 6 (fun y _ => by rw [ind_f (h0 x y)]; omega)]; rfl
      · rw [(i1 x hx).2.1]
        show iZ 0 = iZ (sN (qW T 0 0 1 x) 6)
        rw [sN_0 6 (fun y _ => by unfold qW; rw [ind_f (h0 x y)]; rfl)]
      · rcases z with ⟨w2, hw, _⟩ | ⟨_, z⟩
        · exact absurd hw (by omega)
        · exact absurd z (h0 _ _)
    refine wp1_go (n := 2000) ?_
    simp (disch := omega) only [wcQ, wcX, wcG, wcL, wcS, h92_7, w92_7, w92_8, w92_10, w92_66, w92_67, h92_68, w92_68, toI, toJ, toI64, inb_T, inb_iZ, Int.toNat_natCast, cl_0, cl_1, cl_2, cl_3, cl_4, cl_5, cl_6, cl_7, cl_8, cl_9, cl_10, cl_11, cl_12, cl_13, cl_14, cl_15, cl_16, cl_17, cl_18, cl_19, cl_20, cl_21, cl_22, cl_23, cl_24, cl_25, cl_26, cl_27, cl_28, cl_29, cl_30, cl_31, cl_32, cl_36, cl_40, cl_48, cl_60, cl_108, cl_120, cl_200, cl_201, cl_576, cl_600, cl_864, cl_900, cl_960, cl_5400, cl_8040, j2_0, iN_iZ, iN_lit0, iZ_add, iZ_sub, iZ_mul, iZ_neg, jZ_add, jZ_sub, jZ_mul, jZ_neg, isB0, isB1, isBZ, eq0, eq1, bZ0, vI_, vJ_, vA_, rI_, rJ_, rA_, rV_, nX_, tX_, true_and, and_true, false_and, and_false, and_self, implies_true, forall_const, not_true_eq_false, not_false_eq_true, false_implies, true_implies, ↓reduceIte, Nat.reduceEqDiff, Int.reduceToNat, Int.reduceAdd, Int.reduceSub, Int.reduceLT, Int.reduceLE, Int.reduceEq, Int.add_zero, Int.neg_zero, Int.add_sub_cancel, Int.reduceNeg, Nat.reduceLeDiff, Nat.reduceSub, true_or, or_true, false_or, or_false, setI_d, setJ_d, setP_d, mI_row, mJ_row, mP_row, mI_row_ne, mJ_row_ne, mP_row_ne, rowI_rowI, rowJ_rowJ, rowI_sort, rowJ_sort, rowJ_rowI, rowP_rowI, rowP_rowJ, fu_app, fu_fu, mI_rowJ, mI_rowP, mJ_rowI, mJ_rowP, mP_rowI, mP_rowJ, mK_rowI, mN_rowI, mK_rowJ, mN_rowJ, mK_rowP, mN_rowP, oB_rowI, oB_rowJ, iA_rowI, iA_rowJ, iR_rowI, iR_rowJ, St_rowI, St_rowJ]
    refine loopN Dg (fun w ls M' => (∃ x1 x2 x3 x4, ls = [aR (some 154), aI (iZ k), aI (iZ w), x1, x2, x3, x4]) ∧ FQ M1 M' ∧ XS M' T w 0 1) ⟨⟨_, _, _, _, rfl⟩, iF, X0⟩ ?_ ?_
    · intro w hw ls Mw ⟨⟨x1, x2, x3, x4, hl⟩, wF, wX⟩ Kw
      subst hl
      have Sw := FQ_S wF S1
      have hw' : (w : Int) < Dg := by omega
      have gw : mI Mw 154 6 = iZ Dg := by rw [wF.2.2.2.2 154 (by omega)]; exact gD
      refine wp1_go (n := 2000) ?_
      simp (disch := omega) only [wcQ, wcX, wcG, wcL, wcS, h92_68, w92_68, w92_69, w92_70, w92_73, w92_76, w92_77, h92_78, w92_78, toI, toJ, toI64, inb_T, inb_iZ, Int.toNat_natCast, cl_0, cl_1, cl_2, cl_3, cl_4, cl_5, cl_6, cl_7, cl_8, cl_9, cl_10, cl_11, cl_12, cl_13, cl_14, cl_15, cl_16, cl_17, cl_18, cl_19, cl_20, cl_21, cl_22, cl_23, cl_24, cl_25, cl_26, cl_27, cl_28, cl_29, cl_30, cl_31, cl_32, cl_36, cl_40, cl_48, cl_60, cl_108, cl_120, cl_200, cl_201, cl_576, cl_600, cl_864, cl_900, cl_960, cl_5400, cl_8040, j2_0, iN_iZ, iN_lit0, iZ_add, iZ_sub, iZ_mul, iZ_neg, jZ_add, jZ_sub, jZ_mul, jZ_neg, isB0, isB1, isBZ, eq0, eq1, bZ0, vI_, vJ_, vA_, rI_, rJ_, rA_, rV_, nX_, tX_, true_and, and_true, false_and, and_false, and_self, implies_true, forall_const, not_true_eq_false, not_false_eq_true, false_implies, true_implies, ↓reduceIte, Nat.reduceEqDiff, Int.reduceToNat, Int.reduceAdd, Int.reduceSub, Int.reduceLT, Int.reduceLE, Int.reduceEq, Int.add_zero, Int.neg_zero, Int.add_sub_cancel, Int.reduceNeg, Nat.reduceLeDiff, Nat.reduceSub, true_or, or_true, false_or, or_false, setI_d, setJ_d, setP_d, mI_row, mJ_row, mP_row, mI_row_ne, mJ_row_ne, mP_row_ne, rowI_rowI, rowJ_rowJ, rowI_sort, rowJ_sort, rowJ_rowI, rowP_rowI, rowP_rowJ, fu_app, fu_fu, mI_rowJ, mI_rowP, mJ_rowI, mJ_rowP, mP_rowI, mP_rowJ, mK_rowI, mN_rowI, mK_rowJ, mN_rowJ, mK_rowP, mN_rowP, oB_rowI, oB_rowJ, iA_rowI, iA_rowJ, iR_rowI, iR_rowJ, St_rowI, St_rowJ, K154 Sw, O154 Sw, gw, hw']
      refine loopN Jn (fun j ls M' => (∃ x2 x3 x4, ls = [aR (some 154), aI (iZ k), aI (iZ w), aI (iZ j), x2, x3, x4]) ∧ FQ M1 M' ∧ XS M' T w j (j + 1)) ⟨⟨_, _, _, rfl⟩, wF, wX⟩ ?_ ?_
      · intro j hj ls Mj ⟨⟨x2, x3, x4, hl⟩, jF, jX⟩ Kj
        subst hl
        have Sj := FQ_S jF S1
        have hj' : (j : Int) < Jn := by omega
        have gj : mI Mj 154 4 = iZ Jn := by rw [jF.2.2.2.2 154 (by omega)]; exact gJ
        refine wp1_go (n := 2000) ?_
        simp (disch := omega) only [wcQ, wcX, wcG, wcL, wcS, h92_78, w92_78, w92_79, w92_80, w92_83, w92_86, w92_87, w92_88, w92_89, h92_91, w92_91, toI, toJ, toI64, inb_T, inb_iZ, Int.toNat_natCast, cl_0, cl_1, cl_2, cl_3, cl_4, cl_5, cl_6, cl_7, cl_8, cl_9, cl_10, cl_11, cl_12, cl_13, cl_14, cl_15, cl_16, cl_17, cl_18, cl_19, cl_20, cl_21, cl_22, cl_23, cl_24, cl_25, cl_26, cl_27, cl_28, cl_29, cl_30, cl_31, cl_32, cl_36, cl_40, cl_48, cl_60, cl_108, cl_120, cl_200, cl_201, cl_576, cl_600, cl_864, cl_900, cl_960, cl_5400, cl_8040, j2_0, iN_iZ, iN_lit0, iZ_add, iZ_sub, iZ_mul, iZ_neg, jZ_add, jZ_sub, jZ_mul, jZ_neg, isB0, isB1, isBZ, eq0, eq1, bZ0, vI_, vJ_, vA_, rI_, rJ_, rA_, rV_, nX_, tX_, true_and, and_true, false_and, and_false, and_self, implies_true, forall_const, not_true_eq_false, not_false_eq_true, false_implies, true_implies, ↓reduceIte, Nat.reduceEqDiff, Int.reduceToNat, Int.reduceAdd, Int.reduceSub, Int.reduceLT, Int.reduceLE, Int.reduceEq, Int.add_zero, Int.neg_zero, Int.add_sub_cancel, Int.reduceNeg, Nat.reduceLeDiff, Nat.reduceSub, true_or, or_true, false_or, or_false, setI_d, setJ_d, setP_d, mI_row, mJ_row, mP_row, mI_row_ne, mJ_row_ne, mP_row_ne, rowI_rowI, rowJ_rowJ, rowI_sort, rowJ_sort, rowJ_rowI, rowP_rowI, rowP_rowJ, fu_app, fu_fu, mI_rowJ, mI_rowP, mJ_rowI, mJ_rowP, mP_rowI, mP_rowJ, mK_rowI, mN_rowI, mK_rowJ, mN_rowJ, mK_rowP, mN_rowP, oB_rowI, oB_rowJ, iA_rowI, iA_rowJ, iR_rowI, iR_rowJ, St_rowI, St_rowJ, K154 Sj, O154 Sj, gj, hj']
        refine loopN (Jn - (j + 1)) (fun i ls M' => (∃ x3 x4, ls = [aR (some 154), aI (iZ k), aI (iZ w), aI (iZ j), aI (iZ ((j + 1 + i : Nat) : Int)), x3, x4]) ∧ FQ M1 M' ∧ XS M' T w j (j + 1 + i)) ⟨⟨_, _, rfl⟩, jF, jX⟩ ?_ ?_
        · intro i hi ls Ml ⟨⟨x3, x4, hl⟩, lF, lX⟩ Kl
          obtain ⟨l, hl2⟩ : ∃ l, l = j + 1 + i := ⟨_, rfl⟩
          rw [← hl2] at hl lX
          subst hl
          have Sl := FQ_S lF S1
          have hl' : (l : Int) < Jn := by omega
          have gl' : mI Ml 154 4 = iZ Jn := by rw [lF.2.2.2.2 154 (by omega)]; exact gJ
          have ml := MSn_GJ (FQ_GJ lF) m1
          have Jl : ∀ u, u < nRn s → JU Ml s k u := fun u hu => JU_FQ lF (J1 u hu)
          have f1 := c90 (G := G) (d := d + 4) (M := Ml) (s := s) (k := k) (w := w) (j := j) hst Sl hO ml Jl (by omega) (by omega)
          have f2 := c90 (G := G) (d := d + 4) (M := Ml) (s := s) (k := k) (w := w) (j := l) hst Sl hO ml Jl (by omega) (by omega)
          have el : ((l : Int) + 1) = ((j + 1 + (i + 1) : Nat) : Int) := by omega
          have el2 : j + 1 + (i + 1) = l + 1 := by omega
          -- what is told of a pair that has no total
          have no : ∀ x3 x4 : AV, ¬ eT (T w) j l → ∀ m : Nat, wp (WCo G (d + 5) 92 (rV fun M' => FU M M' ∧ XW M' (wS T 24) ∧ XR M' (rS T 24) ∧ XH M' (fun x => sN (wS T 24 x) 6) ∧ ∃ g, XG M' g ∧ Gi (eS T 24) g) nX) 92 (m + 300) 151 [aR (some 154), aI (iZ k), aI (iZ w), aI (iZ j), aI (iZ l), x3, x4] [] Ml 0 := fun x3 x4 hn m => by
            simp (disch := omega) only [wcQ, wcX, wcG, wcL, wcS, h92_91, w92_91, w92_151, w92_154, toI, toJ, toI64, inb_T, inb_iZ, Int.toNat_natCast, cl_0, cl_1, cl_2, cl_3, cl_4, cl_5, cl_6, cl_7, cl_8, cl_9, cl_10, cl_11, cl_12, cl_13, cl_14, cl_15, cl_16, cl_17, cl_18, cl_19, cl_20, cl_21, cl_22, cl_23, cl_24, cl_25, cl_26, cl_27, cl_28, cl_29, cl_30, cl_31, cl_32, cl_36, cl_40, cl_48, cl_60, cl_108, cl_120, cl_200, cl_201, cl_576, cl_600, cl_864, cl_900, cl_960, cl_5400, cl_8040, j2_0, iN_iZ, iN_lit0, iZ_add, iZ_sub, iZ_mul, iZ_neg, jZ_add, jZ_sub, jZ_mul, jZ_neg, isB0, isB1, isBZ, eq0, eq1, bZ0, vI_, vJ_, vA_, rI_, rJ_, rA_, rV_, nX_, tX_, true_and, and_true, false_and, and_false, and_self, implies_true, forall_const, not_true_eq_false, not_false_eq_true, false_implies, true_implies, ↓reduceIte, Nat.reduceEqDiff, Int.reduceToNat, Int.reduceAdd, Int.reduceSub, Int.reduceLT, Int.reduceLE, Int.reduceEq, Int.add_zero, Int.neg_zero, Int.add_sub_cancel, Int.reduceNeg, Nat.reduceLeDiff, Nat.reduceSub, true_or, or_true, false_or, or_false, setI_d, setJ_d, setP_d, mI_row, mJ_row, mP_row, mI_row_ne, mJ_row_ne, mP_row_ne, rowI_rowI, rowJ_rowJ, rowI_sort, rowJ_sort, rowJ_rowI, rowP_rowI, rowP_rowJ, fu_app, fu_fu, mI_rowJ, mI_rowP, mJ_rowI, mJ_rowP, mP_rowI, mP_rowJ, mK_rowI, mN_rowI, mK_rowJ, mN_rowJ, mK_rowP, mN_rowP, oB_rowI, oB_rowJ, iA_rowI, iA_rowJ, iR_rowI, iR_rowJ, St_rowI, St_rowJ]
            refine Kl _ _ ⟨⟨_, _, by rw [← el]⟩, lF, ?_⟩
            rw [el2]
            exact XS_ne hn (by omega) lX
          have tw : ∀ x i, i < nRn s → frQ s k w x i → (∀ i', i' < i → ¬ frQ s k w x i') → T w x = tot s i k ∧ mI Ml 204 i = iZ (tot s i k) ∧ 0 ≤ tot s i k ∧ tot s i k ≤ 2792 := fun x i hi hq hn => by
            rw [hTT]
            exact ⟨tA_yes hO hq hn _ hi, ((Jl i hi).2.2 hq.2.2.1).1, tot_b hO hq.2.2.1⟩
          have tn : ∀ x, (∀ i, i < nRn s → ¬ frQ s k w x i) → T w x = -1 := fun x hn => by rw [hTT]; exact tA_no _ hn
          refine wp1_go (n := 2000) ?_
          simp (disch := omega) only [wcQ, wcX, wcG, wcL, wcS, h92_91, w92_91, w92_93, w92_94, w92_97, w92_100, w92_101, w92_102, w92_103, toI, toJ, toI64, inb_T, inb_iZ, Int.toNat_natCast, cl_0, cl_1, cl_2, cl_3, cl_4, cl_5, cl_6, cl_7, cl_8, cl_9, cl_10, cl_11, cl_12, cl_13, cl_14, cl_15, cl_16, cl_17, cl_18, cl_19, cl_20, cl_21, cl_22, cl_23, cl_24, cl_25, cl_26, cl_27, cl_28, cl_29, cl_30, cl_31, cl_32, cl_36, cl_40, cl_48, cl_60, cl_108, cl_120, cl_200, cl_201, cl_576, cl_600, cl_864, cl_900, cl_960, cl_5400, cl_8040, j2_0, iN_iZ, iN_lit0, iZ_add, iZ_sub, iZ_mul, iZ_neg, jZ_add, jZ_sub, jZ_mul, jZ_neg, isB0, isB1, isBZ, eq0, eq1, bZ0, vI_, vJ_, vA_, rI_, rJ_, rA_, rV_, nX_, tX_, true_and, and_true, false_and, and_false, and_self, implies_true, forall_const, not_true_eq_false, not_false_eq_true, false_implies, true_implies, ↓reduceIte, Nat.reduceEqDiff, Int.reduceToNat, Int.reduceAdd, Int.reduceSub, Int.reduceLT, Int.reduceLE, Int.reduceEq, Int.add_zero, Int.neg_zero, Int.add_sub_cancel, Int.reduceNeg, Nat.reduceLeDiff, Nat.reduceSub, true_or, or_true, false_or, or_false, setI_d, setJ_d, setP_d, mI_row, mJ_row, mP_row, mI_row_ne, mJ_row_ne, mP_row_ne, rowI_rowI, rowJ_rowJ, rowI_sort, rowJ_sort, rowJ_rowI, rowP_rowI, rowP_rowJ, fu_app, fu_fu, mI_rowJ, mI_rowP, mJ_rowI, mJ_rowP, mP_rowI, mP_rowJ, mK_rowI, mN_rowI, mK_rowJ, mN_rowJ, mK_rowP, mN_rowP, oB_rowI, oB_rowJ, iA_rowI, iA_rowJ, iR_rowI, iR_rowJ, St_rowI, St_rowJ, K154 Sl, O154 Sl, gl', hl']
          refine kI f1 (Nat.le_refl _) (fun v M' hq => ?_) (fun e M' h => False.elim h)
          obtain ⟨hM', q1⟩ := hq
          have hM' := hM'.symm
          subst hM'
          simp (disch := omega) only [wcQ, wcX, wcG, wcL, wcS, w92_106, w92_108, w92_109, w92_110, w92_112, toI, toJ, toI64, inb_T, inb_iZ, Int.toNat_natCast, cl_0, cl_1, cl_2, cl_3, cl_4, cl_5, cl_6, cl_7, cl_8, cl_9, cl_10, cl_11, cl_12, cl_13, cl_14, cl_15, cl_16, cl_17, cl_18, cl_19, cl_20, cl_21, cl_22, cl_23, cl_24, cl_25, cl_26, cl_27, cl_28, cl_29, cl_30, cl_31, cl_32, cl_36, cl_40, cl_48, cl_60, cl_108, cl_120, cl_200, cl_201, cl_576, cl_600, cl_864, cl_900, cl_960, cl_5400, cl_8040, j2_0, iN_iZ, iN_lit0, iZ_add, iZ_sub, iZ_mul, iZ_neg, jZ_add, jZ_sub, jZ_mul, jZ_neg, isB0, isB1, isBZ, eq0, eq1, bZ0, vI_, vJ_, vA_, rI_, rJ_, rA_, rV_, nX_, tX_, true_and, and_true, false_and, and_false, and_self, implies_true, forall_const, not_true_eq_false, not_false_eq_true, false_implies, true_implies, ↓reduceIte, Nat.reduceEqDiff, Int.reduceToNat, Int.reduceAdd, Int.reduceSub, Int.reduceLT, Int.reduceLE, Int.reduceEq, Int.add_zero, Int.neg_zero, Int.add_sub_cancel, Int.reduceNeg, Nat.reduceLeDiff, Nat.reduceSub, true_or, or_true, false_or, or_false, setI_d, setJ_d, setP_d, mI_row, mJ_row, mP_row, mI_row_ne, mJ_row_ne, mP_row_ne, rowI_rowI, rowJ_rowJ, rowI_sort, rowJ_sort, rowJ_rowI, rowP_rowI, rowP_rowJ, fu_app, fu_fu, mI_rowJ, mI_rowP, mJ_rowI, mJ_rowP, mP_rowI, mP_rowJ, mK_rowI, mN_rowI, mK_rowJ, mN_rowJ, mK_rowP, mN_rowP, oB_rowI, oB_rowJ, iA_rowI, iA_rowJ, iR_rowI, iR_rowJ, St_rowI, St_rowJ, K154 Sl, O154 Sl]
          refine kI f2 (Nat.le_refl _) (fun v2 M' hq => ?_) (fun e M' h => False.elim h)
          obtain ⟨hM', q2⟩ := hq
          have hM' := hM'.symm
          subst hM'
          rcases q1 with ⟨rfl, q1⟩ | ⟨a, rfl, a1, a2, a3⟩
          · simp (disch := omega) only [wcQ, wcX, wcG, wcL, wcS, w92_115, w92_117, w92_119, w92_120, toI, toJ, toI64, inb_T, inb_iZ, Int.toNat_natCast, cl_0, cl_1, cl_2, cl_3, cl_4, cl_5, cl_6, cl_7, cl_8, cl_9, cl_10, cl_11, cl_12, cl_13, cl_14, cl_15, cl_16, cl_17, cl_18, cl_19, cl_20, cl_21, cl_22, cl_23, cl_24, cl_25, cl_26, cl_27, cl_28, cl_29, cl_30, cl_31, cl_32, cl_36, cl_40, cl_48, cl_60, cl_108, cl_120, cl_200, cl_201, cl_576, cl_600, cl_864, cl_900, cl_960, cl_5400, cl_8040, j2_0, iN_iZ, iN_lit0, iZ_add, iZ_sub, iZ_mul, iZ_neg, jZ_add, jZ_sub, jZ_mul, jZ_neg, isB0, isB1, isBZ, eq0, eq1, bZ0, vI_, vJ_, vA_, rI_, rJ_, rA_, rV_, nX_, tX_, true_and, and_true, false_and, and_false, and_self, implies_true, forall_const, not_true_eq_false, not_false_eq_true, false_implies, true_implies, ↓reduceIte, Nat.reduceEqDiff, Int.reduceToNat, Int.reduceAdd, Int.reduceSub, Int.reduceLT, Int.reduceLE, Int.reduceEq, Int.add_zero, Int.neg_zero, Int.add_sub_cancel, Int.reduceNeg, Nat.reduceLeDiff, Nat.reduceSub, true_or, or_true, false_or, or_false, setI_d, setJ_d, setP_d, mI_row, mJ_row, mP_row, mI_row_ne, mJ_row_ne, mP_row_ne, rowI_rowI, rowJ_rowJ, rowI_sort, rowJ_sort, rowJ_rowI, rowP_rowI, rowP_rowJ, fu_app, fu_fu, mI_rowJ, mI_rowP, mJ_rowI, mJ_rowP, mP_rowI, mP_rowJ, mK_rowI, mN_rowI, mK_rowJ, mN_rowJ, mK_rowP, mN_rowP, oB_rowI, oB_rowJ, iA_rowI, iA_rowJ, iR_rowI, iR_rowJ, St_rowI, St_rowJ]
            exact no _ _ (fun z => z.2.1 (tn j q1)) _
          · have ha0 : ¬ (a : Int) = -1 := by omega
            have n120 := hO.2.2.1.1
            rcases q2 with ⟨rfl, q2⟩ | ⟨b, rfl, b1, b2, b3⟩
            · simp (disch := omega) only [wcQ, wcX, wcG, wcL, wcS, w92_115, w92_117, w92_119, w92_120, w92_123, w92_125, w92_126, toI, toJ, toI64, inb_T, inb_iZ, Int.toNat_natCast, cl_0, cl_1, cl_2, cl_3, cl_4, cl_5, cl_6, cl_7, cl_8, cl_9, cl_10, cl_11, cl_12, cl_13, cl_14, cl_15, cl_16, cl_17, cl_18, cl_19, cl_20, cl_21, cl_22, cl_23, cl_24, cl_25, cl_26, cl_27, cl_28, cl_29, cl_30, cl_31, cl_32, cl_36, cl_40, cl_48, cl_60, cl_108, cl_120, cl_200, cl_201, cl_576, cl_600, cl_864, cl_900, cl_960, cl_5400, cl_8040, j2_0, iN_iZ, iN_lit0, iZ_add, iZ_sub, iZ_mul, iZ_neg, jZ_add, jZ_sub, jZ_mul, jZ_neg, isB0, isB1, isBZ, eq0, eq1, bZ0, vI_, vJ_, vA_, rI_, rJ_, rA_, rV_, nX_, tX_, true_and, and_true, false_and, and_false, and_self, implies_true, forall_const, not_true_eq_false, not_false_eq_true, false_implies, true_implies, ↓reduceIte, Nat.reduceEqDiff, Int.reduceToNat, Int.reduceAdd, Int.reduceSub, Int.reduceLT, Int.reduceLE, Int.reduceEq, Int.add_zero, Int.neg_zero, Int.add_sub_cancel, Int.reduceNeg, Nat.reduceLeDiff, Nat.reduceSub, true_or, or_true, false_or, or_false, setI_d, setJ_d, setP_d, mI_row, mJ_row, mP_row, mI_row_ne, mJ_row_ne, mP_row_ne, rowI_rowI, rowJ_rowJ, rowI_sort, rowJ_sort, rowJ_rowI, rowP_rowI, rowP_rowJ, fu_app, fu_fu, mI_rowJ, mI_rowP, mJ_rowI, mJ_rowP, mP_rowI, mP_rowJ, mK_rowI, mN_rowI, mK_rowJ, mN_rowJ, mK_rowP, mN_rowP, oB_rowI, oB_rowJ, iA_rowI, iA_rowJ, iR_rowI, iR_rowJ, St_rowI, St_rowJ, ha0]
              exact no _ _ (fun z => z.2.2 (tn l q2)) _
            · have hb0 : ¬ (b : Int) = -1 := by omega
              obtain ⟨t1, t2, t3, t4⟩ := tw j a a1 a2 a3
              obtain ⟨t5, t6, t7, t8⟩ := tw l b b1 b2 b3
              have he : eT (T w) j l := ⟨by omega, by omega, by omega⟩
              obtain ⟨hW, hR, hH, g, hG, hE⟩ := lX
              have f3 := c91 (G := G) (d := d + 3) (M := Ml) (a := j) (b := l) (z := T w j - T w l) hst Sl hW hR hG hH (fun x hx => by have := (hE.2.1 x).1; omega) (by omega) (by omega) (by omega) (by omega) (by omega)
              rw [← t1] at t2
              rw [← t5] at t6
              simp (disch := omega) only [wcQ, wcX, wcG, wcL, wcS, w92_115, w92_117, w92_119, w92_120, w92_123, w92_125, w92_126, w92_129, w92_130, w92_131, w92_133, w92_134, w92_137, w92_139, w92_140, w92_141, w92_144, w92_146, w92_147, w92_148, toI, toJ, toI64, inb_T, inb_iZ, Int.toNat_natCast, cl_0, cl_1, cl_2, cl_3, cl_4, cl_5, cl_6, cl_7, cl_8, cl_9, cl_10, cl_11, cl_12, cl_13, cl_14, cl_15, cl_16, cl_17, cl_18, cl_19, cl_20, cl_21, cl_22, cl_23, cl_24, cl_25, cl_26, cl_27, cl_28, cl_29, cl_30, cl_31, cl_32, cl_36, cl_40, cl_48, cl_60, cl_108, cl_120, cl_200, cl_201, cl_576, cl_600, cl_864, cl_900, cl_960, cl_5400, cl_8040, j2_0, iN_iZ, iN_lit0, iZ_add, iZ_sub, iZ_mul, iZ_neg, jZ_add, jZ_sub, jZ_mul, jZ_neg, isB0, isB1, isBZ, eq0, eq1, bZ0, vI_, vJ_, vA_, rI_, rJ_, rA_, rV_, nX_, tX_, true_and, and_true, false_and, and_false, and_self, implies_true, forall_const, not_true_eq_false, not_false_eq_true, false_implies, true_implies, ↓reduceIte, Nat.reduceEqDiff, Int.reduceToNat, Int.reduceAdd, Int.reduceSub, Int.reduceLT, Int.reduceLE, Int.reduceEq, Int.add_zero, Int.neg_zero, Int.add_sub_cancel, Int.reduceNeg, Nat.reduceLeDiff, Nat.reduceSub, true_or, or_true, false_or, or_false, setI_d, setJ_d, setP_d, mI_row, mJ_row, mP_row, mI_row_ne, mJ_row_ne, mP_row_ne, rowI_rowI, rowJ_rowJ, rowI_sort, rowJ_sort, rowJ_rowI, rowP_rowI, rowP_rowJ, fu_app, fu_fu, mI_rowJ, mI_rowP, mJ_rowI, mJ_rowP, mP_rowI, mP_rowJ, mK_rowI, mN_rowI, mK_rowJ, mN_rowJ, mK_rowP, mN_rowP, oB_rowI, oB_rowJ, iA_rowI, iA_rowJ, iR_rowI, iR_rowJ, St_rowI, St_rowJ, K154 Sl, O154 Sl, P154_73 Sl, K204 Sl, O204 Sl, A204 Sl, ha0, hb0, t2, t6]
              refine kV f3 (Nat.le_refl _) (fun M3 hq => ?_) (fun e M' h => False.elim h)
              obtain ⟨F3, W3, R3, G3, H3⟩ := hq
              simp (disch := omega) only [wcQ, wcX, wcG, wcL, wcS, h92_91, w92_91, w92_151, w92_154, toI, toJ, toI64, inb_T, inb_iZ, Int.toNat_natCast, cl_0, cl_1, cl_2, cl_3, cl_4, cl_5, cl_6, cl_7, cl_8, cl_9, cl_10, cl_11, cl_12, cl_13, cl_14, cl_15, cl_16, cl_17, cl_18, cl_19, cl_20, cl_21, cl_22, cl_23, cl_24, cl_25, cl_26, cl_27, cl_28, cl_29, cl_30, cl_31, cl_32, cl_36, cl_40, cl_48, cl_60, cl_108, cl_120, cl_200, cl_201, cl_576, cl_600, cl_864, cl_900, cl_960, cl_5400, cl_8040, j2_0, iN_iZ, iN_lit0, iZ_add, iZ_sub, iZ_mul, iZ_neg, jZ_add, jZ_sub, jZ_mul, jZ_neg, isB0, isB1, isBZ, eq0, eq1, bZ0, vI_, vJ_, vA_, rI_, rJ_, rA_, rV_, nX_, tX_, true_and, and_true, false_and, and_false, and_self, implies_true, forall_const, not_true_eq_false, not_false_eq_true, false_implies, true_implies, ↓reduceIte, Nat.reduceEqDiff, Int.reduceToNat, Int.reduceAdd, Int.reduceSub, Int.reduceLT, Int.reduceLE, Int.reduceEq, Int.add_zero, Int.neg_zero, Int.add_sub_cancel, Int.reduceNeg, Nat.reduceLeDiff, Nat.reduceSub, true_or, or_true, false_or, or_false, setI_d, setJ_d, setP_d, mI_row, mJ_row, mP_row, mI_row_ne, mJ_row_ne, mP_row_ne, rowI_rowI, rowJ_rowJ, rowI_sort, rowJ_sort, rowJ_rowI, rowP_rowI, rowP_rowJ, fu_app, fu_fu, mI_rowJ, mI_rowP, mJ_rowI, mJ_rowP, mP_rowI, mP_rowJ, mK_rowI, mN_rowI, mK_rowJ, mN_rowJ, mK_rowP, mN_rowP, oB_rowI, oB_rowJ, iA_rowI, iA_rowJ, iR_rowI, iR_rowJ, St_rowI, St_rowJ]
              refine Kl _ _ ⟨⟨_, _, by rw [← el]⟩, FQ_tr lF F3, ?_⟩
              rw [el2]
              exact XS_eT he (by omega) (by omega) W3 R3 G3 hE H3
        · intro ls Ml ⟨⟨x3, x4, hl⟩, lF, lX⟩
          subst hl
          have e : j + 1 + (Jn - (j + 1)) = Jn := by omega
          rw [e] at lX
          rw [e]
          have Sl := FQ_S lF S1
          have hl' : ¬ (Jn : Int) < Jn := by omega
          have gl' : mI Ml 154 4 = iZ Jn := by rw [lF.2.2.2.2 154 (by omega)]; exact gJ
          refine wp1_go (n := 2000) ?_
          simp (disch := omega) only [wcQ, wcX, wcG, wcL, wcS, h92_78, w92_78, h92_91, w92_91, w92_93, w92_94, w92_97, w92_157, w92_160, toI, toJ, toI64, inb_T, inb_iZ, Int.toNat_natCast, cl_0, cl_1, cl_2, cl_3, cl_4, cl_5, cl_6, cl_7, cl_8, cl_9, cl_10, cl_11, cl_12, cl_13, cl_14, cl_15, cl_16, cl_17, cl_18, cl_19, cl_20, cl_21, cl_22, cl_23, cl_24, cl_25, cl_26, cl_27, cl_28, cl_29, cl_30, cl_31, cl_32, cl_36, cl_40, cl_48, cl_60, cl_108, cl_120, cl_200, cl_201, cl_576, cl_600, cl_864, cl_900, cl_960, cl_5400, cl_8040, j2_0, iN_iZ, iN_lit0, iZ_add, iZ_sub, iZ_mul, iZ_neg, jZ_add, jZ_sub, jZ_mul, jZ_neg, isB0, isB1, isBZ, eq0, eq1, bZ0, vI_, vJ_, vA_, rI_, rJ_, rA_, rV_, nX_, tX_, true_and, and_true, false_and, and_false, and_self, implies_true, forall_const, not_true_eq_false, not_false_eq_true, false_implies, true_implies, ↓reduceIte, Nat.reduceEqDiff, Int.reduceToNat, Int.reduceAdd, Int.reduceSub, Int.reduceLT, Int.reduceLE, Int.reduceEq, Int.add_zero, Int.neg_zero, Int.add_sub_cancel, Int.reduceNeg, Nat.reduceLeDiff, Nat.reduceSub, true_or, or_true, false_or, or_false, setI_d, setJ_d, setP_d, mI_row, mJ_row, mP_row, mI_row_ne, mJ_row_ne, mP_row_ne, rowI_rowI, rowJ_rowJ, rowI_sort, rowJ_sort, rowJ_rowI, rowP_rowI, rowP_rowJ, fu_app, fu_fu, mI_rowJ, mI_rowP, mJ_rowI, mJ_rowP, mP_rowI, mP_rowJ, mK_rowI, mN_rowI, mK_rowJ, mN_rowJ, mK_rowP, mN_rowP, oB_rowI, oB_rowJ, iA_rowI, iA_rowJ, iR_rowI, iR_rowJ, St_rowI, St_rowJ, K154 Sl, O154 Sl, gl', hl']
          exact Kj _ _ ⟨⟨_, _, _, rfl⟩, lF, XS_j tJ lX⟩
      · intro ls Mj ⟨⟨x2, x3, x4, hl⟩, jF, jX⟩
        subst hl
        have Sj := FQ_S jF S1
        have hj' : ¬ (Jn : Int) < Jn := by omega
        have gj : mI Mj 154 4 = iZ Jn := by rw [jF.2.2.2.2 154 (by omega)]; exact gJ
        refine wp1_go (n := 2000) ?_
        simp (disch := omega) only [wcQ, wcX, wcG, wcL, wcS, h92_68, w92_68, h92_78, w92_78, w92_79, w92_80, w92_83, w92_163, w92_166, toI, toJ, toI64, inb_T, inb_iZ, Int.toNat_natCast, cl_0, cl_1, cl_2, cl_3, cl_4, cl_5, cl_6, cl_7, cl_8, cl_9, cl_10, cl_11, cl_12, cl_13, cl_14, cl_15, cl_16, cl_17, cl_18, cl_19, cl_20, cl_21, cl_22, cl_23, cl_24, cl_25, cl_26, cl_27, cl_28, cl_29, cl_30, cl_31, cl_32, cl_36, cl_40, cl_48, cl_60, cl_108, cl_120, cl_200, cl_201, cl_576, cl_600, cl_864, cl_900, cl_960, cl_5400, cl_8040, j2_0, iN_iZ, iN_lit0, iZ_add, iZ_sub, iZ_mul, iZ_neg, jZ_add, jZ_sub, jZ_mul, jZ_neg, isB0, isB1, isBZ, eq0, eq1, bZ0, vI_, vJ_, vA_, rI_, rJ_, rA_, rV_, nX_, tX_, true_and, and_true, false_and, and_false, and_self, implies_true, forall_const, not_true_eq_false, not_false_eq_true, false_implies, true_implies, ↓reduceIte, Nat.reduceEqDiff, Int.reduceToNat, Int.reduceAdd, Int.reduceSub, Int.reduceLT, Int.reduceLE, Int.reduceEq, Int.add_zero, Int.neg_zero, Int.add_sub_cancel, Int.reduceNeg, Nat.reduceLeDiff, Nat.reduceSub, true_or, or_true, false_or, or_false, setI_d, setJ_d, setP_d, mI_row, mJ_row, mP_row, mI_row_ne, mJ_row_ne, mP_row_ne, rowI_rowI, rowJ_rowJ, rowI_sort, rowJ_sort, rowJ_rowI, rowP_rowI, rowP_rowJ, fu_app, fu_fu, mI_rowJ, mI_rowP, mJ_rowI, mJ_rowP, mP_rowI, mP_rowJ, mK_rowI, mN_rowI, mK_rowJ, mN_rowJ, mK_rowP, mN_rowP, oB_rowI, oB_rowJ, iA_rowI, iA_rowJ, iR_rowI, iR_rowJ, St_rowI, St_rowJ, K154 Sj, O154 Sj, gj, hj']
        exact Kw _ _ ⟨⟨_, _, _, _, rfl⟩, jF, XS_w tJ jX⟩
    · intro ls Mw ⟨⟨x1, x2, x3, x4, hl⟩, wF, wX⟩
      subst hl
      have Sw := FQ_S wF S1
      have hw' : ¬ (Dg : Int) < Dg := by omega
      have gw : mI Mw 154 6 = iZ Dg := by rw [wF.2.2.2.2 154 (by omega)]; exact gD
      refine wp1_go (n := 2000) ?_
      simp (disch := omega) only [wcQ, wcX, wcG, wcL, wcS, h92_68, w92_68, w92_69, w92_70, w92_73, w92_169, toI, toJ, toI64, inb_T, inb_iZ, Int.toNat_natCast, cl_0, cl_1, cl_2, cl_3, cl_4, cl_5, cl_6, cl_7, cl_8, cl_9, cl_10, cl_11, cl_12, cl_13, cl_14, cl_15, cl_16, cl_17, cl_18, cl_19, cl_20, cl_21, cl_22, cl_23, cl_24, cl_25, cl_26, cl_27, cl_28, cl_29, cl_30, cl_31, cl_32, cl_36, cl_40, cl_48, cl_60, cl_108, cl_120, cl_200, cl_201, cl_576, cl_600, cl_864, cl_900, cl_960, cl_5400, cl_8040, j2_0, iN_iZ, iN_lit0, iZ_add, iZ_sub, iZ_mul, iZ_neg, jZ_add, jZ_sub, jZ_mul, jZ_neg, isB0, isB1, isBZ, eq0, eq1, bZ0, vI_, vJ_, vA_, rI_, rJ_, rA_, rV_, nX_, tX_, true_and, and_true, false_and, and_false, and_self, implies_true, forall_const, not_true_eq_false, not_false_eq_true, false_implies, true_implies, ↓reduceIte, Nat.reduceEqDiff, Int.reduceToNat, Int.reduceAdd, Int.reduceSub, Int.reduceLT, Int.reduceLE, Int.reduceEq, Int.add_zero, Int.neg_zero, Int.add_sub_cancel, Int.reduceNeg, Nat.reduceLeDiff, Nat.reduceSub, true_or, or_true, false_or, or_false, setI_d, setJ_d, setP_d, mI_row, mJ_row, mP_row, mI_row_ne, mJ_row_ne, mP_row_ne, rowI_rowI, rowJ_rowJ, rowI_sort, rowJ_sort, rowJ_rowI, rowP_rowI, rowP_rowJ, fu_app, fu_fu, mI_rowJ, mI_rowP, mJ_rowI, mJ_rowP, mP_rowI, mP_rowJ, mK_rowI, mN_rowI, mK_rowJ, mN_rowJ, mK_rowP, mN_rowP, oB_rowI, oB_rowJ, iA_rowI, iA_rowJ, iR_rowI, iR_rowJ, St_rowI, St_rowJ, K154 Sw, O154 Sw, gw, hw']
      exact ⟨FU_FQ (FU_FJ F1) wF, XS_end tD g24 wX⟩
end

/-! RULES: best, limit, a clause; the class's side. -/
section
variable {G : GE} {d : Nat} {M M' M'' : Mem} {B : Nat → Nat} {n b k s : Nat} {q : Bk}
def bkB (q : Bk) (v : Int) : Bk := (bP q, bF q, bO q, bT q, v, bL q, bC q)
theorem BC_B {v : Int} (h : BC M k s q) (hk : 222 ≤ k) (v1 : 1 ≤ v) (v2 : v ≤ 20) : BC (rowI M k (fu (mI M k) 7 (iZ v))) k s (bkB q v) := by
  obtain ⟨P, F, O, T, bb, ll, C⟩ := q
  obtain ⟨a, b', c, d, e1, e2, e3, e4⟩ := h
  have hk : ∀ i, i ≠ 7 → mI (rowI M k (fu (mI M k) 7 (iZ v))) k i = mI M k i := fun i hi => by rw [mI_row]; exact if_neg hi
  have hI : ∀ c, 0 < c → mI (rowI M k (fu (mI M k) 7 (iZ v))) (k + c) = mI M (k + c) := fun c hc => mI_row_ne (by omega)
  unfold BC CL at *
  simp only [mJ_rowI]
  rw [hk 0 (by decide), hk 10 (by decide), hk 3 (by decide), hk 5 (by decide), hk 11 (by decide), hk 8 (by decide), hI 1 (by decide), hI 2 (by decide), hI 3 (by decide), hI 4 (by decide), hI 7 (by decide), hI 10 (by decide)]
  have hj : mI (rowI M k (fu (mI M k) 7 (iZ v))) k 7 = iZ v := by rw [mI_row]; exact if_pos rfl
  exact ⟨a, b', c, d, ⟨hj, v1, v2⟩, e2, e3, e4⟩
theorem c157_3 (hst : (gl G).stackTraces = false) (hS : Static M) (hT : TC M B n b) (hB : BK M k n) (hC : BC M k s q) (hs : s ≤ b) {Q : QR} {x : AV} {m : Nat}
    (hQ : ∀ v M', QB M B n k (if tnE B n b 1 20 ≠ 0 then .inl (tnE B n b 1 20, b) else pSg B n 59 (nxT B n b) (bkB q (dv B b (tl B n b) : Int))) v M' → Q (some (aI v)) M') :
    wp (WCo G (d + 51) 157 Q nX) 157 (m + 500) 183 [aR (some k), aR (some 91), x] [] M 0 := by
  have n6 := hT.1.1
  obtain ⟨k1, k2, _⟩ := id hB
  have nb := nxT_b (B := B) (n := n) (b := b)
  have e1 := c137 (G := G) (d := d + 49) (lo := 1) (hi := 20) hst hS (by decide) (by decide) hT
  simp (disch := omega) only [wcQ, wcX, wcG, wcL, wcS, w157_183, w157_184, w157_185, w157_186, w157_188, toI, toJ, toI64, inb_T, inb_iZ, Int.toNat_natCast, cl_0, cl_1, cl_2, cl_3, cl_4, cl_5, cl_6, cl_7, cl_8, cl_9, cl_10, cl_11, cl_12, cl_13, cl_14, cl_15, cl_16, cl_17, cl_18, cl_19, cl_20, cl_21, cl_22, cl_23, cl_24, cl_25, cl_26, cl_27, cl_28, cl_29, cl_30, cl_31, cl_32, cl_36, cl_40, cl_48, cl_60, cl_108, cl_120, cl_200, cl_201, cl_576, cl_600, cl_864, cl_900, cl_960, cl_5400, cl_8040, j2_0, iN_iZ, iN_lit0, iZ_add, iZ_sub, iZ_mul, iZ_neg, jZ_add, jZ_sub, jZ_mul, jZ_neg, isB0, isB1, isBZ, eq0, eq1, bZ0, vI_, vJ_, vA_, rI_, rJ_, rA_, rV_, nX_, tX_, true_and, and_true, false_and, and_false, and_self, implies_true, forall_const, not_true_eq_false, not_false_eq_true, false_implies, true_implies, ↓reduceIte, Nat.reduceEqDiff, Int.reduceToNat, Int.reduceAdd, Int.reduceSub, Int.reduceLT, Int.reduceLE, Int.reduceEq, Int.add_zero, Int.neg_zero, Int.add_sub_cancel, Int.reduceNeg, Nat.reduceLeDiff, Nat.reduceSub, true_or, or_true, false_or, or_false, setI_d, setJ_d, setP_d, mI_row, mJ_row, mP_row, mI_row_ne, mJ_row_ne, mP_row_ne, rowI_rowI, rowJ_rowJ, rowI_sort, rowJ_sort, rowJ_rowI, rowP_rowI, rowP_rowJ, fu_app, fu_fu, mI_rowJ, mI_rowP, mJ_rowI, mJ_rowP, mP_rowI, mP_rowJ, mK_rowI, mN_rowI, mK_rowJ, mN_rowJ, mK_rowP, mN_rowP, oB_rowI, oB_rowJ, iA_rowI, iA_rowJ, iR_rowI, iR_rowJ, St_rowI, St_rowJ, bk_o hB, O91 hS]
  refine kI e1 (Nat.le_refl _) (fun v M2 hq => ?_) (fun e M' h => False.elim h)
  rcases hq with ⟨e, he, rfl, rfl⟩ | ⟨he, rfl, rfl⟩
  · rw [he, if_pos (by omega)] at hQ
    have B2 : BK (rfM M (e + 1) b) k n := Fm_BK Fm_rf hB
    simp (disch := omega) only [wcQ, wcX, wcG, wcL, wcS, w157_191, w157_194, w157_195, w157_198, w157_199, w157_215, w157_216, toI, toJ, toI64, inb_T, inb_iZ, Int.toNat_natCast, cl_0, cl_1, cl_2, cl_3, cl_4, cl_5, cl_6, cl_7, cl_8, cl_9, cl_10, cl_11, cl_12, cl_13, cl_14, cl_15, cl_16, cl_17, cl_18, cl_19, cl_20, cl_21, cl_22, cl_23, cl_24, cl_25, cl_26, cl_27, cl_28, cl_29, cl_30, cl_31, cl_32, cl_36, cl_40, cl_48, cl_60, cl_108, cl_120, cl_200, cl_201, cl_576, cl_600, cl_864, cl_900, cl_960, cl_5400, cl_8040, j2_0, iN_iZ, iN_lit0, iZ_add, iZ_sub, iZ_mul, iZ_neg, jZ_add, jZ_sub, jZ_mul, jZ_neg, isB0, isB1, isBZ, eq0, eq1, bZ0, vI_, vJ_, vA_, rI_, rJ_, rA_, rV_, nX_, tX_, true_and, and_true, false_and, and_false, and_self, implies_true, forall_const, not_true_eq_false, not_false_eq_true, false_implies, true_implies, ↓reduceIte, Nat.reduceEqDiff, Int.reduceToNat, Int.reduceAdd, Int.reduceSub, Int.reduceLT, Int.reduceLE, Int.reduceEq, Int.add_zero, Int.neg_zero, Int.add_sub_cancel, Int.reduceNeg, Nat.reduceLeDiff, Nat.reduceSub, true_or, or_true, false_or, or_false, setI_d, setJ_d, setP_d, mI_row, mJ_row, mP_row, mI_row_ne, mJ_row_ne, mP_row_ne, rowI_rowI, rowJ_rowJ, rowI_sort, rowJ_sort, rowJ_rowI, rowP_rowI, rowP_rowJ, fu_app, fu_fu, mI_rowJ, mI_rowP, mJ_rowI, mJ_rowP, mP_rowI, mP_rowJ, mK_rowI, mN_rowI, mK_rowJ, mN_rowJ, mK_rowP, mN_rowP, oB_rowI, oB_rowJ, iA_rowI, iA_rowJ, iR_rowI, iR_rowJ, St_rowI, St_rowJ, bk_o B2]
    apply hQ
    rw [QB_i rfl]
    refine ⟨Fm_tr Fm_rf (Fm_I (by omega) (by omega) k1), rfl, ?_, ?_⟩
    · rw [mI_row_ne (by omega)]; exact rf_2
    · rw [mI_row_ne (by omega)]; exact rf_3
  · rw [he, if_neg (by omega)] at hQ
    obtain ⟨t1, t2, t3⟩ := tn_0 he
    have F1 : Fm M (stM M B n (nxT B n b)) k := Fm_st
    have T1 : TC (stM M B n (nxT B n b)) B n (nxT B n b) := TC_st hT.1 (nb.2.1 hT.2.1)
    have C1 : BC (stM M B n (nxT B n b)) k s q := BC_91 k1 hC
    generalize hM1 : stM M B n (nxT B n b) = M1 at *
    generalize hb1 : nxT B n b = b1 at *
    generalize hv : dv B b (tl B n b) = v at *
    have B1 := Fm_BK F1 hB
    have F2 : Fm M1 (rowI M1 k (fu (mI M1 k) 7 (iZ v))) k := Fm_I (by omega) (by omega) k1
    have T2 : TC (rowI M1 k (fu (mI M1 k) 7 (iZ v))) B n b1 := TC_row (by omega) (by omega) (by omega) T1
    have C2 := BC_B (v := (v : Int)) C1 k1 (by omega) (by omega)
    have F3 := Fm_tr F1 F2
    have S3 := Fm_Static F3 hS
    have hne : ¬ (v : Int) = -1 := by omega
    have e4 := c139 (G := G) (d := d + 49) (c := 59) hst S3 (by decide) T2
    have nb4 := nxT_b (B := B) (n := n) (b := b1)
    simp (disch := omega) only [wcQ, wcX, wcG, wcL, wcS, w157_191, w157_194, w157_195, w157_198, w157_199, w157_202, w157_203, w157_205, toI, toJ, toI64, inb_T, inb_iZ, Int.toNat_natCast, cl_0, cl_1, cl_2, cl_3, cl_4, cl_5, cl_6, cl_7, cl_8, cl_9, cl_10, cl_11, cl_12, cl_13, cl_14, cl_15, cl_16, cl_17, cl_18, cl_19, cl_20, cl_21, cl_22, cl_23, cl_24, cl_25, cl_26, cl_27, cl_28, cl_29, cl_30, cl_31, cl_32, cl_36, cl_40, cl_48, cl_60, cl_108, cl_120, cl_200, cl_201, cl_576, cl_600, cl_864, cl_900, cl_960, cl_5400, cl_8040, j2_0, iN_iZ, iN_lit0, iZ_add, iZ_sub, iZ_mul, iZ_neg, jZ_add, jZ_sub, jZ_mul, jZ_neg, isB0, isB1, isBZ, eq0, eq1, bZ0, vI_, vJ_, vA_, rI_, rJ_, rA_, rV_, nX_, tX_, true_and, and_true, false_and, and_false, and_self, implies_true, forall_const, not_true_eq_false, not_false_eq_true, false_implies, true_implies, ↓reduceIte, Nat.reduceEqDiff, Int.reduceToNat, Int.reduceAdd, Int.reduceSub, Int.reduceLT, Int.reduceLE, Int.reduceEq, Int.add_zero, Int.neg_zero, Int.add_sub_cancel, Int.reduceNeg, Nat.reduceLeDiff, Nat.reduceSub, true_or, or_true, false_or, or_false, setI_d, setJ_d, setP_d, mI_row, mJ_row, mP_row, mI_row_ne, mJ_row_ne, mP_row_ne, rowI_rowI, rowJ_rowJ, rowI_sort, rowJ_sort, rowJ_rowI, rowP_rowI, rowP_rowJ, fu_app, fu_fu, mI_rowJ, mI_rowP, mJ_rowI, mJ_rowP, mP_rowI, mP_rowJ, mK_rowI, mN_rowI, mK_rowJ, mN_rowJ, mK_rowP, mN_rowP, oB_rowI, oB_rowJ, iA_rowI, iA_rowJ, iR_rowI, iR_rowJ, St_rowI, St_rowJ, bk_o B1, hne, O91 S3, O91 (Fm_Static F1 hS)]
    refine kI e4 (Nat.le_refl _) (fun v Mx hq => ?_) (fun e M' h => False.elim h)
    rcases hq with ⟨hs5, rfl, rfl⟩ | ⟨hs5, rfl, rfl⟩
    · simp (disch := omega) only [wcQ, wcX, wcG, wcL, wcS, w157_208, w157_211, w157_212, w157_215, w157_216, toI, toJ, toI64, inb_T, inb_iZ, Int.toNat_natCast, cl_0, cl_1, cl_2, cl_3, cl_4, cl_5, cl_6, cl_7, cl_8, cl_9, cl_10, cl_11, cl_12, cl_13, cl_14, cl_15, cl_16, cl_17, cl_18, cl_19, cl_20, cl_21, cl_22, cl_23, cl_24, cl_25, cl_26, cl_27, cl_28, cl_29, cl_30, cl_31, cl_32, cl_36, cl_40, cl_48, cl_60, cl_108, cl_120, cl_200, cl_201, cl_576, cl_600, cl_864, cl_900, cl_960, cl_5400, cl_8040, j2_0, iN_iZ, iN_lit0, iZ_add, iZ_sub, iZ_mul, iZ_neg, jZ_add, jZ_sub, jZ_mul, jZ_neg, isB0, isB1, isBZ, eq0, eq1, bZ0, vI_, vJ_, vA_, rI_, rJ_, rA_, rV_, nX_, tX_, true_and, and_true, false_and, and_false, and_self, implies_true, forall_const, not_true_eq_false, not_false_eq_true, false_implies, true_implies, ↓reduceIte, Nat.reduceEqDiff, Int.reduceToNat, Int.reduceAdd, Int.reduceSub, Int.reduceLT, Int.reduceLE, Int.reduceEq, Int.add_zero, Int.neg_zero, Int.add_sub_cancel, Int.reduceNeg, Nat.reduceLeDiff, Nat.reduceSub, true_or, or_true, false_or, or_false, setI_d, setJ_d, setP_d, mI_row, mJ_row, mP_row, mI_row_ne, mJ_row_ne, mP_row_ne, rowI_rowI, rowJ_rowJ, rowI_sort, rowJ_sort, rowJ_rowI, rowP_rowI, rowP_rowJ, fu_app, fu_fu, mI_rowJ, mI_rowP, mJ_rowI, mJ_rowP, mP_rowI, mP_rowJ, mK_rowI, mN_rowI, mK_rowJ, mN_rowJ, mK_rowP, mN_rowP, oB_rowI, oB_rowJ, iA_rowI, iA_rowJ, iR_rowI, iR_rowJ, St_rowI, St_rowJ]
      apply hQ
      have hpe : pSg B n 59 b1 (bkB q v) = .inr (nxT B n b1, bkB q v) := by unfold pSg; exact if_pos hs5
      rw [QB_r hpe]
      exact ⟨Fm_tr F3 Fm_st, rfl, TC_st T2.1 (nb4.2.1 T2.2.1), s, by omega, BC_91 k1 C2⟩
    · simp (disch := omega) only [wcQ, wcX, wcG, wcL, wcS, w157_208, w157_211, w157_212, w157_215, w157_216, toI, toJ, toI64, inb_T, inb_iZ, Int.toNat_natCast, cl_0, cl_1, cl_2, cl_3, cl_4, cl_5, cl_6, cl_7, cl_8, cl_9, cl_10, cl_11, cl_12, cl_13, cl_14, cl_15, cl_16, cl_17, cl_18, cl_19, cl_20, cl_21, cl_22, cl_23, cl_24, cl_25, cl_26, cl_27, cl_28, cl_29, cl_30, cl_31, cl_32, cl_36, cl_40, cl_48, cl_60, cl_108, cl_120, cl_200, cl_201, cl_576, cl_600, cl_864, cl_900, cl_960, cl_5400, cl_8040, j2_0, iN_iZ, iN_lit0, iZ_add, iZ_sub, iZ_mul, iZ_neg, jZ_add, jZ_sub, jZ_mul, jZ_neg, isB0, isB1, isBZ, eq0, eq1, bZ0, vI_, vJ_, vA_, rI_, rJ_, rA_, rV_, nX_, tX_, true_and, and_true, false_and, and_false, and_self, implies_true, forall_const, not_true_eq_false, not_false_eq_true, false_implies, true_implies, ↓reduceIte, Nat.reduceEqDiff, Int.reduceToNat, Int.reduceAdd, Int.reduceSub, Int.reduceLT, Int.reduceLE, Int.reduceEq, Int.add_zero, Int.neg_zero, Int.add_sub_cancel, Int.reduceNeg, Nat.reduceLeDiff, Nat.reduceSub, true_or, or_true, false_or, or_false, setI_d, setJ_d, setP_d, mI_row, mJ_row, mP_row, mI_row_ne, mJ_row_ne, mP_row_ne, rowI_rowI, rowJ_rowJ, rowI_sort, rowJ_sort, rowJ_rowI, rowP_rowI, rowP_rowJ, fu_app, fu_fu, mI_rowJ, mI_rowP, mJ_rowI, mJ_rowP, mP_rowI, mP_rowJ, mK_rowI, mN_rowI, mK_rowJ, mN_rowJ, mK_rowP, mN_rowP, oB_rowI, oB_rowJ, iA_rowI, iA_rowJ, iR_rowI, iR_rowJ, St_rowI, St_rowJ]
      apply hQ
      have hpe : pSg B n 59 b1 (bkB q v) = .inl (1, b1) := by unfold pSg; exact if_neg hs5
      rw [QB_i hpe]
      exact ⟨Fm_tr F3 Fm_rf, rfl, rf_2, rf_3⟩
def bkL (q : Bk) (v : Int) : Bk := (bP q, bF q, bO q, bT q, bB q, v, bC q)
theorem BC_L {v : Int} (h : BC M k s q) (hk : 222 ≤ k) (v1 : 1 ≤ v) (v2 : v ≤ 9999) : BC (rowI M k (fu (mI M k) 8 (iZ v))) k s (bkL q v) := by
  obtain ⟨P, F, O, T, bb, ll, C⟩ := q
  obtain ⟨a, b', c, d, e1, e2, e3, e4⟩ := h
  have hk : ∀ i, i ≠ 8 → mI (rowI M k (fu (mI M k) 8 (iZ v))) k i = mI M k i := fun i hi => by rw [mI_row]; exact if_neg hi
  have hI : ∀ c, 0 < c → mI (rowI M k (fu (mI M k) 8 (iZ v))) (k + c) = mI M (k + c) := fun c hc => mI_row_ne (by omega)
  unfold BC CL at *
  simp only [mJ_rowI]
  rw [hk 0 (by decide), hk 10 (by decide), hk 3 (by decide), hk 5 (by decide), hk 11 (by decide), hk 7 (by decide), hI 1 (by decide), hI 2 (by decide), hI 3 (by decide), hI 4 (by decide), hI 7 (by decide), hI 10 (by decide)]
  have hj : mI (rowI M k (fu (mI M k) 8 (iZ v))) k 8 = iZ v := by rw [mI_row]; exact if_pos rfl
  exact ⟨a, b', c, d, e1, ⟨hj, by show (-1 : Int) ≤ v; omega, v2⟩, e3, e4⟩
theorem c157_4 (hst : (gl G).stackTraces = false) (hS : Static M) (hT : TC M B n b) (hB : BK M k n) (hC : BC M k s q) (hs : s ≤ b) {Q : QR} {x : AV} {m : Nat}
    (hQ : ∀ v M', QB M B n k (if tnE B n b 1 9999 ≠ 0 then .inl (tnE B n b 1 9999, b) else pSg B n 59 (nxT B n b) (bkL q (dv B b (tl B n b) : Int))) v M' → Q (some (aI v)) M') :
    wp (WCo G (d + 51) 157 Q nX) 157 (m + 500) 217 [aR (some k), aR (some 91), x] [] M 0 := by
  have n6 := hT.1.1
  obtain ⟨k1, k2, _⟩ := id hB
  have nb := nxT_b (B := B) (n := n) (b := b)
  have e1 := c137 (G := G) (d := d + 49) (lo := 1) (hi := 9999) hst hS (by decide) (by decide) hT
  simp (disch := omega) only [wcQ, wcX, wcG, wcL, wcS, w157_217, w157_218, w157_219, w157_220, w157_223, toI, toJ, toI64, inb_T, inb_iZ, Int.toNat_natCast, cl_0, cl_1, cl_2, cl_3, cl_4, cl_5, cl_6, cl_7, cl_8, cl_9, cl_10, cl_11, cl_12, cl_13, cl_14, cl_15, cl_16, cl_17, cl_18, cl_19, cl_20, cl_21, cl_22, cl_23, cl_24, cl_25, cl_26, cl_27, cl_28, cl_29, cl_30, cl_31, cl_32, cl_36, cl_40, cl_48, cl_60, cl_108, cl_120, cl_200, cl_201, cl_576, cl_600, cl_864, cl_900, cl_960, cl_5400, cl_8040, j2_0, iN_iZ, iN_lit0, iZ_add, iZ_sub, iZ_mul, iZ_neg, jZ_add, jZ_sub, jZ_mul, jZ_neg, isB0, isB1, isBZ, eq0, eq1, bZ0, vI_, vJ_, vA_, rI_, rJ_, rA_, rV_, nX_, tX_, true_and, and_true, false_and, and_false, and_self, implies_true, forall_const, not_true_eq_false, not_false_eq_true, false_implies, true_implies, ↓reduceIte, Nat.reduceEqDiff, Int.reduceToNat, Int.reduceAdd, Int.reduceSub, Int.reduceLT, Int.reduceLE, Int.reduceEq, Int.add_zero, Int.neg_zero, Int.add_sub_cancel, Int.reduceNeg, Nat.reduceLeDiff, Nat.reduceSub, true_or, or_true, false_or, or_false, setI_d, setJ_d, setP_d, mI_row, mJ_row, mP_row, mI_row_ne, mJ_row_ne, mP_row_ne, rowI_rowI, rowJ_rowJ, rowI_sort, rowJ_sort, rowJ_rowI, rowP_rowI, rowP_rowJ, fu_app, fu_fu, mI_rowJ, mI_rowP, mJ_rowI, mJ_rowP, mP_rowI, mP_rowJ, mK_rowI, mN_rowI, mK_rowJ, mN_rowJ, mK_rowP, mN_rowP, oB_rowI, oB_rowJ, iA_rowI, iA_rowJ, iR_rowI, iR_rowJ, St_rowI, St_rowJ, bk_o hB, O91 hS]
  refine kI e1 (Nat.le_refl _) (fun v M2 hq => ?_) (fun e M' h => False.elim h)
  rcases hq with ⟨e, he, rfl, rfl⟩ | ⟨he, rfl, rfl⟩
  · rw [he, if_pos (by omega)] at hQ
    have B2 : BK (rfM M (e + 1) b) k n := Fm_BK Fm_rf hB
    simp (disch := omega) only [wcQ, wcX, wcG, wcL, wcS, w157_226, w157_229, w157_230, w157_233, w157_234, w157_250, w157_251, toI, toJ, toI64, inb_T, inb_iZ, Int.toNat_natCast, cl_0, cl_1, cl_2, cl_3, cl_4, cl_5, cl_6, cl_7, cl_8, cl_9, cl_10, cl_11, cl_12, cl_13, cl_14, cl_15, cl_16, cl_17, cl_18, cl_19, cl_20, cl_21, cl_22, cl_23, cl_24, cl_25, cl_26, cl_27, cl_28, cl_29, cl_30, cl_31, cl_32, cl_36, cl_40, cl_48, cl_60, cl_108, cl_120, cl_200, cl_201, cl_576, cl_600, cl_864, cl_900, cl_960, cl_5400, cl_8040, j2_0, iN_iZ, iN_lit0, iZ_add, iZ_sub, iZ_mul, iZ_neg, jZ_add, jZ_sub, jZ_mul, jZ_neg, isB0, isB1, isBZ, eq0, eq1, bZ0, vI_, vJ_, vA_, rI_, rJ_, rA_, rV_, nX_, tX_, true_and, and_true, false_and, and_false, and_self, implies_true, forall_const, not_true_eq_false, not_false_eq_true, false_implies, true_implies, ↓reduceIte, Nat.reduceEqDiff, Int.reduceToNat, Int.reduceAdd, Int.reduceSub, Int.reduceLT, Int.reduceLE, Int.reduceEq, Int.add_zero, Int.neg_zero, Int.add_sub_cancel, Int.reduceNeg, Nat.reduceLeDiff, Nat.reduceSub, true_or, or_true, false_or, or_false, setI_d, setJ_d, setP_d, mI_row, mJ_row, mP_row, mI_row_ne, mJ_row_ne, mP_row_ne, rowI_rowI, rowJ_rowJ, rowI_sort, rowJ_sort, rowJ_rowI, rowP_rowI, rowP_rowJ, fu_app, fu_fu, mI_rowJ, mI_rowP, mJ_rowI, mJ_rowP, mP_rowI, mP_rowJ, mK_rowI, mN_rowI, mK_rowJ, mN_rowJ, mK_rowP, mN_rowP, oB_rowI, oB_rowJ, iA_rowI, iA_rowJ, iR_rowI, iR_rowJ, St_rowI, St_rowJ, bk_o B2]
    apply hQ
    rw [QB_i rfl]
    refine ⟨Fm_tr Fm_rf (Fm_I (by omega) (by omega) k1), rfl, ?_, ?_⟩
    · rw [mI_row_ne (by omega)]; exact rf_2
    · rw [mI_row_ne (by omega)]; exact rf_3
  · rw [he, if_neg (by omega)] at hQ
    obtain ⟨t1, t2, t3⟩ := tn_0 he
    have F1 : Fm M (stM M B n (nxT B n b)) k := Fm_st
    have T1 : TC (stM M B n (nxT B n b)) B n (nxT B n b) := TC_st hT.1 (nb.2.1 hT.2.1)
    have C1 : BC (stM M B n (nxT B n b)) k s q := BC_91 k1 hC
    generalize hM1 : stM M B n (nxT B n b) = M1 at *
    generalize hb1 : nxT B n b = b1 at *
    generalize hv : dv B b (tl B n b) = v at *
    have B1 := Fm_BK F1 hB
    have F2 : Fm M1 (rowI M1 k (fu (mI M1 k) 8 (iZ v))) k := Fm_I (by omega) (by omega) k1
    have T2 : TC (rowI M1 k (fu (mI M1 k) 8 (iZ v))) B n b1 := TC_row (by omega) (by omega) (by omega) T1
    have C2 := BC_L (v := (v : Int)) C1 k1 (by omega) (by omega)
    have F3 := Fm_tr F1 F2
    have S3 := Fm_Static F3 hS
    have hne : ¬ (v : Int) = -1 := by omega
    have e4 := c139 (G := G) (d := d + 49) (c := 59) hst S3 (by decide) T2
    have nb4 := nxT_b (B := B) (n := n) (b := b1)
    simp (disch := omega) only [wcQ, wcX, wcG, wcL, wcS, w157_226, w157_229, w157_230, w157_233, w157_234, w157_237, w157_238, w157_240, toI, toJ, toI64, inb_T, inb_iZ, Int.toNat_natCast, cl_0, cl_1, cl_2, cl_3, cl_4, cl_5, cl_6, cl_7, cl_8, cl_9, cl_10, cl_11, cl_12, cl_13, cl_14, cl_15, cl_16, cl_17, cl_18, cl_19, cl_20, cl_21, cl_22, cl_23, cl_24, cl_25, cl_26, cl_27, cl_28, cl_29, cl_30, cl_31, cl_32, cl_36, cl_40, cl_48, cl_60, cl_108, cl_120, cl_200, cl_201, cl_576, cl_600, cl_864, cl_900, cl_960, cl_5400, cl_8040, j2_0, iN_iZ, iN_lit0, iZ_add, iZ_sub, iZ_mul, iZ_neg, jZ_add, jZ_sub, jZ_mul, jZ_neg, isB0, isB1, isBZ, eq0, eq1, bZ0, vI_, vJ_, vA_, rI_, rJ_, rA_, rV_, nX_, tX_, true_and, and_true, false_and, and_false, and_self, implies_true, forall_const, not_true_eq_false, not_false_eq_true, false_implies, true_implies, ↓reduceIte, Nat.reduceEqDiff, Int.reduceToNat, Int.reduceAdd, Int.reduceSub, Int.reduceLT, Int.reduceLE, Int.reduceEq, Int.add_zero, Int.neg_zero, Int.add_sub_cancel, Int.reduceNeg, Nat.reduceLeDiff, Nat.reduceSub, true_or, or_true, false_or, or_false, setI_d, setJ_d, setP_d, mI_row, mJ_row, mP_row, mI_row_ne, mJ_row_ne, mP_row_ne, rowI_rowI, rowJ_rowJ, rowI_sort, rowJ_sort, rowJ_rowI, rowP_rowI, rowP_rowJ, fu_app, fu_fu, mI_rowJ, mI_rowP, mJ_rowI, mJ_rowP, mP_rowI, mP_rowJ, mK_rowI, mN_rowI, mK_rowJ, mN_rowJ, mK_rowP, mN_rowP, oB_rowI, oB_rowJ, iA_rowI, iA_rowJ, iR_rowI, iR_rowJ, St_rowI, St_rowJ, bk_o B1, hne, O91 S3, O91 (Fm_Static F1 hS)]
    refine kI e4 (Nat.le_refl _) (fun v Mx hq => ?_) (fun e M' h => False.elim h)
    rcases hq with ⟨hs5, rfl, rfl⟩ | ⟨hs5, rfl, rfl⟩
    · simp (disch := omega) only [wcQ, wcX, wcG, wcL, wcS, w157_243, w157_246, w157_247, w157_250, w157_251, toI, toJ, toI64, inb_T, inb_iZ, Int.toNat_natCast, cl_0, cl_1, cl_2, cl_3, cl_4, cl_5, cl_6, cl_7, cl_8, cl_9, cl_10, cl_11, cl_12, cl_13, cl_14, cl_15, cl_16, cl_17, cl_18, cl_19, cl_20, cl_21, cl_22, cl_23, cl_24, cl_25, cl_26, cl_27, cl_28, cl_29, cl_30, cl_31, cl_32, cl_36, cl_40, cl_48, cl_60, cl_108, cl_120, cl_200, cl_201, cl_576, cl_600, cl_864, cl_900, cl_960, cl_5400, cl_8040, j2_0, iN_iZ, iN_lit0, iZ_add, iZ_sub, iZ_mul, iZ_neg, jZ_add, jZ_sub, jZ_mul, jZ_neg, isB0, isB1, isBZ, eq0, eq1, bZ0, vI_, vJ_, vA_, rI_, rJ_, rA_, rV_, nX_, tX_, true_and, and_true, false_and, and_false, and_self, implies_true, forall_const, not_true_eq_false, not_false_eq_true, false_implies, true_implies, ↓reduceIte, Nat.reduceEqDiff, Int.reduceToNat, Int.reduceAdd, Int.reduceSub, Int.reduceLT, Int.reduceLE, Int.reduceEq, Int.add_zero, Int.neg_zero, Int.add_sub_cancel, Int.reduceNeg, Nat.reduceLeDiff, Nat.reduceSub, true_or, or_true, false_or, or_false, setI_d, setJ_d, setP_d, mI_row, mJ_row, mP_row, mI_row_ne, mJ_row_ne, mP_row_ne, rowI_rowI, rowJ_rowJ, rowI_sort, rowJ_sort, rowJ_rowI, rowP_rowI, rowP_rowJ, fu_app, fu_fu, mI_rowJ, mI_rowP, mJ_rowI, mJ_rowP, mP_rowI, mP_rowJ, mK_rowI, mN_rowI, mK_rowJ, mN_rowJ, mK_rowP, mN_rowP, oB_rowI, oB_rowJ, iA_rowI, iA_rowJ, iR_rowI, iR_rowJ, St_rowI, St_rowJ]
      apply hQ
      have hpe : pSg B n 59 b1 (bkL q v) = .inr (nxT B n b1, bkL q v) := by unfold pSg; exact if_pos hs5
      rw [QB_r hpe]
      exact ⟨Fm_tr F3 Fm_st, rfl, TC_st T2.1 (nb4.2.1 T2.2.1), s, by omega, BC_91 k1 C2⟩
    · simp (disch := omega) only [wcQ, wcX, wcG, wcL, wcS, w157_243, w157_246, w157_247, w157_250, w157_251, toI, toJ, toI64, inb_T, inb_iZ, Int.toNat_natCast, cl_0, cl_1, cl_2, cl_3, cl_4, cl_5, cl_6, cl_7, cl_8, cl_9, cl_10, cl_11, cl_12, cl_13, cl_14, cl_15, cl_16, cl_17, cl_18, cl_19, cl_20, cl_21, cl_22, cl_23, cl_24, cl_25, cl_26, cl_27, cl_28, cl_29, cl_30, cl_31, cl_32, cl_36, cl_40, cl_48, cl_60, cl_108, cl_120, cl_200, cl_201, cl_576, cl_600, cl_864, cl_900, cl_960, cl_5400, cl_8040, j2_0, iN_iZ, iN_lit0, iZ_add, iZ_sub, iZ_mul, iZ_neg, jZ_add, jZ_sub, jZ_mul, jZ_neg, isB0, isB1, isBZ, eq0, eq1, bZ0, vI_, vJ_, vA_, rI_, rJ_, rA_, rV_, nX_, tX_, true_and, and_true, false_and, and_false, and_self, implies_true, forall_const, not_true_eq_false, not_false_eq_true, false_implies, true_implies, ↓reduceIte, Nat.reduceEqDiff, Int.reduceToNat, Int.reduceAdd, Int.reduceSub, Int.reduceLT, Int.reduceLE, Int.reduceEq, Int.add_zero, Int.neg_zero, Int.add_sub_cancel, Int.reduceNeg, Nat.reduceLeDiff, Nat.reduceSub, true_or, or_true, false_or, or_false, setI_d, setJ_d, setP_d, mI_row, mJ_row, mP_row, mI_row_ne, mJ_row_ne, mP_row_ne, rowI_rowI, rowJ_rowJ, rowI_sort, rowJ_sort, rowJ_rowI, rowP_rowI, rowP_rowJ, fu_app, fu_fu, mI_rowJ, mI_rowP, mJ_rowI, mJ_rowP, mP_rowI, mP_rowJ, mK_rowI, mN_rowI, mK_rowJ, mN_rowJ, mK_rowP, mN_rowP, oB_rowI, oB_rowJ, iA_rowI, iA_rowJ, iR_rowI, iR_rowJ, St_rowI, St_rowJ]
      apply hQ
      have hpe : pSg B n 59 b1 (bkL q v) = .inl (1, b1) := by unfold pSg; exact if_neg hs5
      rw [QB_i hpe]
      exact ⟨Fm_tr F3 Fm_rf, rfl, rf_2, rf_3⟩
end

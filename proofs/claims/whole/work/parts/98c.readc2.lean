/-! CARDS: the whole reader, from its head; the class's side. -/
section
variable {G : GE} {d : Nat} {M M' M'' : Mem} {B : Nat → Nat} {n b k s N a c w cnt p : Nat} {q : Bk} {hr wd x lf tot tim : Int} {tm : Nat → Nat}
/-- from the rows on -/
theorem c182s (hst : (gl G).stackTraces = false) {M0 : Mem} (hS : Static M) (hE : CE M k N s a c q hr wd) (hF : FF M0 M k c) (h7 : mP M c 7 = none) (hV : VS M k hr wd) (z0 : ∀ j, mI M c j = iZ 0) (z2 : ∀ j, mI M (c + 2) j = iZ 0) (hT : TC M B n (bl B n 0)) {x1 x2 x3 : Option Nat} : ∀ m, wp (WCo G (d + 11) 182 (rA fun v M' => QC M0 k c q hr wd (kCard B n q) v M') nX) 182 (m + 500) 40 [aR (some 95), aR x1, aR x2, aR x3, aI (iZ 0)] [] M 0 := by
  intro m
  have k1 := ce_k hE
  obtain ⟨c1, ck⟩ := ce_c hE
  have e0 := c179 (G := G) (d := d + 1) hst hS hE hT hV (z0 2) (z0 4) (fun j _ => z2 j)
  generalize hRR : kCard B n q = RR
  have hR : RR = match kRows B n q 9 (-1) 0 (bl B n 0) [] with
    | .inl e => .inl e
    | .inr (b, rows) => match kTm B n b with
      | .inl e => .inl e
      | .inr (c, t) => match kRe B n c with
        | .inl e => .inl e
        | .inr (c', x) => if tkd B n c' = 0 then .inr (rows, t, x) else .inl (1, c') := by rw [← hRR]; rfl
  simp (disch := omega) only [wcQ, wcX, wcG, wcL, wcS, w182_40, w182_41, toI, toJ, toI64, inb_T, inb_iZ, Int.toNat_natCast, cl_0, cl_1, cl_2, cl_3, cl_4, cl_5, cl_6, cl_7, cl_8, cl_9, cl_10, cl_11, cl_12, cl_13, cl_14, cl_15, cl_16, cl_17, cl_18, cl_19, cl_20, cl_21, cl_22, cl_23, cl_24, cl_25, cl_26, cl_27, cl_28, cl_29, cl_30, cl_31, cl_32, cl_36, cl_40, cl_48, cl_60, cl_108, cl_120, cl_200, cl_201, cl_576, cl_600, cl_864, cl_900, cl_960, cl_5400, cl_8040, j2_0, iN_iZ, iN_lit0, iZ_add, iZ_sub, iZ_mul, iZ_neg, jZ_add, jZ_sub, jZ_mul, jZ_neg, isB0, isB1, isBZ, eq0, eq1, bZ0, vI_, vJ_, vA_, rI_, rJ_, rA_, rV_, nX_, tX_, true_and, and_true, false_and, and_false, and_self, implies_true, forall_const, not_true_eq_false, not_false_eq_true, false_implies, true_implies, ↓reduceIte, Nat.reduceEqDiff, Int.reduceToNat, Int.reduceAdd, Int.reduceSub, Int.reduceLT, Int.reduceLE, Int.reduceEq, Int.add_zero, Int.neg_zero, Int.add_sub_cancel, Int.reduceNeg, Nat.reduceLeDiff, Nat.reduceSub, true_or, or_true, false_or, or_false, setI_d, setJ_d, setP_d, mI_row, mJ_row, mP_row, mI_row_ne, mJ_row_ne, mP_row_ne, rowI_rowI, rowJ_rowJ, rowI_sort, rowJ_sort, rowJ_rowI, rowP_rowI, rowP_rowJ, fu_app, fu_fu, mI_rowJ, mI_rowP, mJ_rowI, mJ_rowP, mP_rowI, mP_rowJ, mK_rowI, mN_rowI, mK_rowJ, mN_rowJ, mK_rowP, mN_rowP, oB_rowI, oB_rowJ, iA_rowI, iA_rowJ, iR_rowI, iR_rowJ, St_rowI, St_rowJ, K95 hS, O95 hS, P95_5 hS]
  refine kI e0 (Nat.le_refl _) (fun v Mi hq => ?_) (fun e M' h => False.elim h)
  match hp : kRows B n q 9 (-1) 0 (bl B n 0) [] with
  | .inl (e, f) =>
    rw [QRs_i hp] at hq
    obtain ⟨rfl, F1, g2, g3⟩ := hq
    rw [hp] at hR
    simp (disch := omega) only [wcQ, wcX, wcG, wcL, wcS, w182_44, w182_47, w182_48, toI, toJ, toI64, inb_T, inb_iZ, Int.toNat_natCast, cl_0, cl_1, cl_2, cl_3, cl_4, cl_5, cl_6, cl_7, cl_8, cl_9, cl_10, cl_11, cl_12, cl_13, cl_14, cl_15, cl_16, cl_17, cl_18, cl_19, cl_20, cl_21, cl_22, cl_23, cl_24, cl_25, cl_26, cl_27, cl_28, cl_29, cl_30, cl_31, cl_32, cl_36, cl_40, cl_48, cl_60, cl_108, cl_120, cl_200, cl_201, cl_576, cl_600, cl_864, cl_900, cl_960, cl_5400, cl_8040, j2_0, iN_iZ, iN_lit0, iZ_add, iZ_sub, iZ_mul, iZ_neg, jZ_add, jZ_sub, jZ_mul, jZ_neg, isB0, isB1, isBZ, eq0, eq1, bZ0, vI_, vJ_, vA_, rI_, rJ_, rA_, rV_, nX_, tX_, true_and, and_true, false_and, and_false, and_self, implies_true, forall_const, not_true_eq_false, not_false_eq_true, false_implies, true_implies, ↓reduceIte, Nat.reduceEqDiff, Int.reduceToNat, Int.reduceAdd, Int.reduceSub, Int.reduceLT, Int.reduceLE, Int.reduceEq, Int.add_zero, Int.neg_zero, Int.add_sub_cancel, Int.reduceNeg, Nat.reduceLeDiff, Nat.reduceSub, true_or, or_true, false_or, or_false, setI_d, setJ_d, setP_d, mI_row, mJ_row, mP_row, mI_row_ne, mJ_row_ne, mP_row_ne, rowI_rowI, rowJ_rowJ, rowI_sort, rowJ_sort, rowJ_rowI, rowP_rowI, rowP_rowJ, fu_app, fu_fu, mI_rowJ, mI_rowP, mJ_rowI, mJ_rowP, mP_rowI, mP_rowJ, mK_rowI, mN_rowI, mK_rowJ, mN_rowJ, mK_rowP, mN_rowP, oB_rowI, oB_rowJ, iA_rowI, iA_rowJ, iR_rowI, iR_rowJ, St_rowI, St_rowJ]
    rw [QC_i hR]
    exact ⟨FF_Fc hF F1, rfl, g2, g3⟩
  | .inr (b, rows) =>
    rw [QRs_r hp] at hq
    obtain ⟨rfl, T1, W⟩ := hq
    rw [hp] at hR
    have hR : RR = match kTm B n b with
      | .inl e => .inl e
      | .inr (c, t) => match kRe B n c with
        | .inl e => .inl e
        | .inr (c', x) => if tkd B n c' = 0 then .inr (rows, t, x) else .inl (1, c') := hR
    obtain ⟨w1, w2, w3, w4, w5, w6, w7⟩ := W
    have Si := Fc_S w1 hS
    have Ei := Fc_CE w1 hE
    have C1 : CT M Mi k c q hr wd rows 0 := ⟨w1, by rw [w7 1 (by decide) (by decide)]; exact z0 1, w3, w4, w5, w6⟩
    have h10 : (10 : Nat) < 30 := by decide
    have ea := c129 (G := G) (d := d + 5) (a := 10) (k := 19) hst Si (by decide) (by decide) (by decide) str_ok.2.2.2.2.2.2.2.2.2.1 T1
    unfold kTm at hR
    simp (disch := omega) only [wcQ, wcX, wcG, wcL, wcS, w182_44, w182_49, w182_50, w182_53, w182_55, toI, toJ, toI64, inb_T, inb_iZ, Int.toNat_natCast, cl_0, cl_1, cl_2, cl_3, cl_4, cl_5, cl_6, cl_7, cl_8, cl_9, cl_10, cl_11, cl_12, cl_13, cl_14, cl_15, cl_16, cl_17, cl_18, cl_19, cl_20, cl_21, cl_22, cl_23, cl_24, cl_25, cl_26, cl_27, cl_28, cl_29, cl_30, cl_31, cl_32, cl_36, cl_40, cl_48, cl_60, cl_108, cl_120, cl_200, cl_201, cl_576, cl_600, cl_864, cl_900, cl_960, cl_5400, cl_8040, j2_0, iN_iZ, iN_lit0, iZ_add, iZ_sub, iZ_mul, iZ_neg, jZ_add, jZ_sub, jZ_mul, jZ_neg, isB0, isB1, isBZ, eq0, eq1, bZ0, vI_, vJ_, vA_, rI_, rJ_, rA_, rV_, nX_, tX_, true_and, and_true, false_and, and_false, and_self, implies_true, forall_const, not_true_eq_false, not_false_eq_true, false_implies, true_implies, ↓reduceIte, Nat.reduceEqDiff, Int.reduceToNat, Int.reduceAdd, Int.reduceSub, Int.reduceLT, Int.reduceLE, Int.reduceEq, Int.add_zero, Int.neg_zero, Int.add_sub_cancel, Int.reduceNeg, Nat.reduceLeDiff, Nat.reduceSub, true_or, or_true, false_or, or_false, setI_d, setJ_d, setP_d, mI_row, mJ_row, mP_row, mI_row_ne, mJ_row_ne, mP_row_ne, rowI_rowI, rowJ_rowJ, rowI_sort, rowJ_sort, rowJ_rowI, rowP_rowI, rowP_rowJ, fu_app, fu_fu, mI_rowJ, mI_rowP, mJ_rowI, mJ_rowP, mP_rowI, mP_rowJ, mK_rowI, mN_rowI, mK_rowJ, mN_rowJ, mK_rowP, mN_rowP, oB_rowI, oB_rowJ, iA_rowI, iA_rowJ, iR_rowI, iR_rowJ, St_rowI, St_rowJ, K91 Si, O91 Si, K95 Si, O95 Si, ce_p0 Ei, h10]
    refine kI0 ea ?_
    by_cases w : twd B n b 19
    · rw [if_pos w] at hR
      have w' := eq_true w
      have hbn : b < n := tk_lt (B := B) (by have := w.1; omega)
      have nb := nxT_b (B := B) (n := n) (b := b)
      have n6 := T1.1.1
      have eb := c124t (G := G) (d := d + 10) hst Si T1
      simp (disch := omega) only [wcQ, wcX, wcG, wcL, wcS, w182_58, w182_61, w182_62, w182_65, toI, toJ, toI64, inb_T, inb_iZ, Int.toNat_natCast, cl_0, cl_1, cl_2, cl_3, cl_4, cl_5, cl_6, cl_7, cl_8, cl_9, cl_10, cl_11, cl_12, cl_13, cl_14, cl_15, cl_16, cl_17, cl_18, cl_19, cl_20, cl_21, cl_22, cl_23, cl_24, cl_25, cl_26, cl_27, cl_28, cl_29, cl_30, cl_31, cl_32, cl_36, cl_40, cl_48, cl_60, cl_108, cl_120, cl_200, cl_201, cl_576, cl_600, cl_864, cl_900, cl_960, cl_5400, cl_8040, j2_0, iN_iZ, iN_lit0, iZ_add, iZ_sub, iZ_mul, iZ_neg, jZ_add, jZ_sub, jZ_mul, jZ_neg, isB0, isB1, isBZ, eq0, eq1, bZ0, vI_, vJ_, vA_, rI_, rJ_, rA_, rV_, nX_, tX_, true_and, and_true, false_and, and_false, and_self, implies_true, forall_const, not_true_eq_false, not_false_eq_true, false_implies, true_implies, ↓reduceIte, Nat.reduceEqDiff, Int.reduceToNat, Int.reduceAdd, Int.reduceSub, Int.reduceLT, Int.reduceLE, Int.reduceEq, Int.add_zero, Int.neg_zero, Int.add_sub_cancel, Int.reduceNeg, Nat.reduceLeDiff, Nat.reduceSub, true_or, or_true, false_or, or_false, setI_d, setJ_d, setP_d, mI_row, mJ_row, mP_row, mI_row_ne, mJ_row_ne, mP_row_ne, rowI_rowI, rowJ_rowJ, rowI_sort, rowJ_sort, rowJ_rowI, rowP_rowI, rowP_rowJ, fu_app, fu_fu, mI_rowJ, mI_rowP, mJ_rowI, mJ_rowP, mP_rowI, mP_rowJ, mK_rowI, mN_rowI, mK_rowJ, mN_rowJ, mK_rowP, mN_rowP, oB_rowI, oB_rowJ, iA_rowI, iA_rowJ, iR_rowI, iR_rowJ, St_rowI, St_rowJ, w', O91 Si, K95 Si, O95 Si, ce_p0 Ei]
      refine kV eb (Nat.le_refl _) (fun M2 hq => ?_) (fun e M' h => False.elim h)
      have F2 : Fc Mi M2 k c := by rw [hq]; exact Fc_st
      have T2 : TC M2 B n (nxT B n b) := by rw [hq]; exact TC_st T1.1 (nb.2.1 (by omega))
      have C2 : CT M M2 k c q hr wd rows 0 := CT_fr C1 F2 (fun y hy => by rw [hq]; unfold stM; rw [mI_row_ne (by omega)])
      clear hq
      have S2 := Fc_S F2 Si
      have E2 := Fc_CE F2 Ei
      generalize hb1 : nxT B n b = b1 at *
      have nb1 := nxT_b (B := B) (n := n) (b := b1)
      have ec := c137 (G := G) (d := d + 9) (lo := 0) (hi := 99999) hst S2 (by decide) (by decide) T2
      simp (disch := omega) only [wcQ, wcX, wcG, wcL, wcS, w182_68, w182_69, w182_72, w182_73, w182_76, w182_77, w182_79, toI, toJ, toI64, inb_T, inb_iZ, Int.toNat_natCast, cl_0, cl_1, cl_2, cl_3, cl_4, cl_5, cl_6, cl_7, cl_8, cl_9, cl_10, cl_11, cl_12, cl_13, cl_14, cl_15, cl_16, cl_17, cl_18, cl_19, cl_20, cl_21, cl_22, cl_23, cl_24, cl_25, cl_26, cl_27, cl_28, cl_29, cl_30, cl_31, cl_32, cl_36, cl_40, cl_48, cl_60, cl_108, cl_120, cl_200, cl_201, cl_576, cl_600, cl_864, cl_900, cl_960, cl_5400, cl_8040, j2_0, iN_iZ, iN_lit0, iZ_add, iZ_sub, iZ_mul, iZ_neg, jZ_add, jZ_sub, jZ_mul, jZ_neg, isB0, isB1, isBZ, eq0, eq1, bZ0, vI_, vJ_, vA_, rI_, rJ_, rA_, rV_, nX_, tX_, true_and, and_true, false_and, and_false, and_self, implies_true, forall_const, not_true_eq_false, not_false_eq_true, false_implies, true_implies, ↓reduceIte, Nat.reduceEqDiff, Int.reduceToNat, Int.reduceAdd, Int.reduceSub, Int.reduceLT, Int.reduceLE, Int.reduceEq, Int.add_zero, Int.neg_zero, Int.add_sub_cancel, Int.reduceNeg, Nat.reduceLeDiff, Nat.reduceSub, true_or, or_true, false_or, or_false, setI_d, setJ_d, setP_d, mI_row, mJ_row, mP_row, mI_row_ne, mJ_row_ne, mP_row_ne, rowI_rowI, rowJ_rowJ, rowI_sort, rowJ_sort, rowJ_rowI, rowP_rowI, rowP_rowJ, fu_app, fu_fu, mI_rowJ, mI_rowP, mJ_rowI, mJ_rowP, mP_rowI, mP_rowJ, mK_rowI, mN_rowI, mK_rowJ, mN_rowJ, mK_rowP, mN_rowP, oB_rowI, oB_rowJ, iA_rowI, iA_rowJ, iR_rowI, iR_rowJ, St_rowI, St_rowJ, O91 S2, K95 S2, O95 S2, ce_p0 E2, ce_p3 E2, ce_oc E2]
      refine kI ec (Nat.le_refl _) (fun v M3 hq => ?_) (fun e M' h => False.elim h)
      rcases hq with ⟨e, he, rfl, rfl⟩ | ⟨he, rfl, hq⟩
      · rw [he, if_pos (by omega)] at hR
        have F3 : Fc M2 (rfM M2 (e + 1) b1) k c := Fc_rf
        have S3 := Fc_S F3 S2
        have E3 := Fc_CE F3 E2
        simp (disch := omega) only [wcQ, wcX, wcG, wcL, wcS, w182_82, w182_85, w182_86, w182_89, w182_92, w182_93, w182_108, w182_109, toI, toJ, toI64, inb_T, inb_iZ, Int.toNat_natCast, cl_0, cl_1, cl_2, cl_3, cl_4, cl_5, cl_6, cl_7, cl_8, cl_9, cl_10, cl_11, cl_12, cl_13, cl_14, cl_15, cl_16, cl_17, cl_18, cl_19, cl_20, cl_21, cl_22, cl_23, cl_24, cl_25, cl_26, cl_27, cl_28, cl_29, cl_30, cl_31, cl_32, cl_36, cl_40, cl_48, cl_60, cl_108, cl_120, cl_200, cl_201, cl_576, cl_600, cl_864, cl_900, cl_960, cl_5400, cl_8040, j2_0, iN_iZ, iN_lit0, iZ_add, iZ_sub, iZ_mul, iZ_neg, jZ_add, jZ_sub, jZ_mul, jZ_neg, isB0, isB1, isBZ, eq0, eq1, bZ0, vI_, vJ_, vA_, rI_, rJ_, rA_, rV_, nX_, tX_, true_and, and_true, false_and, and_false, and_self, implies_true, forall_const, not_true_eq_false, not_false_eq_true, false_implies, true_implies, ↓reduceIte, Nat.reduceEqDiff, Int.reduceToNat, Int.reduceAdd, Int.reduceSub, Int.reduceLT, Int.reduceLE, Int.reduceEq, Int.add_zero, Int.neg_zero, Int.add_sub_cancel, Int.reduceNeg, Nat.reduceLeDiff, Nat.reduceSub, true_or, or_true, false_or, or_false, setI_d, setJ_d, setP_d, mI_row, mJ_row, mP_row, mI_row_ne, mJ_row_ne, mP_row_ne, rowI_rowI, rowJ_rowJ, rowI_sort, rowJ_sort, rowJ_rowI, rowP_rowI, rowP_rowJ, fu_app, fu_fu, mI_rowJ, mI_rowP, mJ_rowI, mJ_rowP, mP_rowI, mP_rowJ, mK_rowI, mN_rowI, mK_rowJ, mN_rowJ, mK_rowP, mN_rowP, oB_rowI, oB_rowJ, iA_rowI, iA_rowJ, iR_rowI, iR_rowJ, St_rowI, St_rowJ, K95 S3, O95 S3, ce_p3 E3, ce_oc E3]
        rw [QC_i hR]
        refine ⟨FF_Fc hF (Fc_tr C2.1 (Fc_tr F3 (Fc_row (by omega) k1 c1))), rfl, ?_, ?_⟩
        · rw [mI_row_ne (by omega)]; exact rf_2
        · rw [mI_row_ne (by omega)]; exact rf_3
      · rw [he, if_neg (by omega)] at hR
        obtain ⟨u1, u2, u3⟩ := tn_0 he
        have b1n := tk_lt (B := B) (n := n) (b := b1) (by omega)
        have F3 : Fc M2 M3 k c := by rw [hq]; exact Fc_st
        have T3 : TC M3 B n (nxT B n b1) := by rw [hq]; exact TC_st T2.1 (nb1.2.1 (by omega))
        have C3 : CT M M3 k c q hr wd rows 0 := CT_fr C2 F3 (fun y hy => by rw [hq]; unfold stM; rw [mI_row_ne (by omega)])
        clear hq
        have S3 := Fc_S F3 S2
        have E3 := Fc_CE F3 E2
        generalize ht : dv B b1 (tl B n b1) = t at *
        obtain ⟨M4, hM4⟩ : ∃ M4, M4 = rowI M3 c (fu (mI M3 c) 1 (iZ t)) := ⟨_, rfl⟩
        have F4 : Fc M3 M4 k c := by rw [hM4]; exact Fc_row (by omega) k1 c1
        have T4 : TC M4 B n (nxT B n b1) := by rw [hM4]; exact TC_row (by omega) (by omega) (by omega) T3
        have C4 : CT M M4 k c q hr wd rows t := by
          obtain ⟨v1, v2, v3, v4, v5, v6⟩ := C3
          have q0 : ∀ j, j ≠ 1 → mI M4 c j = mI M3 c j := fun j hj => by rw [hM4, mI_row]; exact if_neg hj
          refine ⟨Fc_tr v1 F4, ?_, ?_, ?_, ?_, ?_⟩
          · rw [hM4, mI_row]; exact if_pos rfl
          · rw [q0 2 (by decide)]; exact v3
          · rw [q0 4 (by decide)]; exact v4
          · rw [hM4, mI_row_ne (by omega)]; exact v5
          · rw [hM4, mI_row_ne (by omega)]; exact v6
        have S4 := Fc_S F4 S3
        have E4 := Fc_CE F4 E3
        have hne : ¬ ((t : Nat) : Int) = -1 := by omega
        have ed := c139 (G := G) (d := d + 9) (c := 59) hst S4 (by decide) T4
        simp (disch := omega) only [wcQ, wcX, wcG, wcL, wcS, w182_82, w182_85, w182_86, w182_89, w182_92, w182_93, w182_96, w182_97, w182_100, w182_102, toI, toJ, toI64, inb_T, inb_iZ, Int.toNat_natCast, cl_0, cl_1, cl_2, cl_3, cl_4, cl_5, cl_6, cl_7, cl_8, cl_9, cl_10, cl_11, cl_12, cl_13, cl_14, cl_15, cl_16, cl_17, cl_18, cl_19, cl_20, cl_21, cl_22, cl_23, cl_24, cl_25, cl_26, cl_27, cl_28, cl_29, cl_30, cl_31, cl_32, cl_36, cl_40, cl_48, cl_60, cl_108, cl_120, cl_200, cl_201, cl_576, cl_600, cl_864, cl_900, cl_960, cl_5400, cl_8040, j2_0, iN_iZ, iN_lit0, iZ_add, iZ_sub, iZ_mul, iZ_neg, jZ_add, jZ_sub, jZ_mul, jZ_neg, isB0, isB1, isBZ, eq0, eq1, bZ0, vI_, vJ_, vA_, rI_, rJ_, rA_, rV_, nX_, tX_, true_and, and_true, false_and, and_false, and_self, implies_true, forall_const, not_true_eq_false, not_false_eq_true, false_implies, true_implies, ↓reduceIte, Nat.reduceEqDiff, Int.reduceToNat, Int.reduceAdd, Int.reduceSub, Int.reduceLT, Int.reduceLE, Int.reduceEq, Int.add_zero, Int.neg_zero, Int.add_sub_cancel, Int.reduceNeg, Nat.reduceLeDiff, Nat.reduceSub, true_or, or_true, false_or, or_false, setI_d, setJ_d, setP_d, mI_row, mJ_row, mP_row, mI_row_ne, mJ_row_ne, mP_row_ne, rowI_rowI, rowJ_rowJ, rowI_sort, rowJ_sort, rowJ_rowI, rowP_rowI, rowP_rowJ, fu_app, fu_fu, mI_rowJ, mI_rowP, mJ_rowI, mJ_rowP, mP_rowI, mP_rowJ, mK_rowI, mN_rowI, mK_rowJ, mN_rowJ, mK_rowP, mN_rowP, oB_rowI, oB_rowJ, iA_rowI, iA_rowJ, iR_rowI, iR_rowJ, St_rowI, St_rowJ, K95 S3, O95 S3, O91 S3, ce_p0 E3, ce_p3 E3, ce_oc E3, hne]
        rw [← hM4]
        refine kI ed (Nat.le_refl _) (fun v M5 hq => ?_) (fun e M' h => False.elim h)
        generalize hb2 : nxT B n b1 = b2 at *
        have nb2 := nxT_b (B := B) (n := n) (b := b2)
        rcases hq with ⟨hs, rfl, hq⟩ | ⟨hs, rfl, rfl⟩
        · rw [if_pos hs] at hR
          have hbn2 : b2 < n := tk_lt (B := B) (by have := hs.1; omega)
          have T5 : TC M5 B n (nxT B n b2) := by rw [hq]; exact TC_st T4.1 (nb2.2.1 (by omega))
          have C5 : CT M M5 k c q hr wd rows t := CT_fr C4 (by rw [hq]; exact Fc_st) (fun y hy => by rw [hq]; unfold stM; rw [mI_row_ne (by omega)])
          simp (disch := omega) only [wcQ, wcX, wcG, wcL, wcS, w182_105, toI, toJ, toI64, inb_T, inb_iZ, Int.toNat_natCast, cl_0, cl_1, cl_2, cl_3, cl_4, cl_5, cl_6, cl_7, cl_8, cl_9, cl_10, cl_11, cl_12, cl_13, cl_14, cl_15, cl_16, cl_17, cl_18, cl_19, cl_20, cl_21, cl_22, cl_23, cl_24, cl_25, cl_26, cl_27, cl_28, cl_29, cl_30, cl_31, cl_32, cl_36, cl_40, cl_48, cl_60, cl_108, cl_120, cl_200, cl_201, cl_576, cl_600, cl_864, cl_900, cl_960, cl_5400, cl_8040, j2_0, iN_iZ, iN_lit0, iZ_add, iZ_sub, iZ_mul, iZ_neg, jZ_add, jZ_sub, jZ_mul, jZ_neg, isB0, isB1, isBZ, eq0, eq1, bZ0, vI_, vJ_, vA_, rI_, rJ_, rA_, rV_, nX_, tX_, true_and, and_true, false_and, and_false, and_self, implies_true, forall_const, not_true_eq_false, not_false_eq_true, false_implies, true_implies, ↓reduceIte, Nat.reduceEqDiff, Int.reduceToNat, Int.reduceAdd, Int.reduceSub, Int.reduceLT, Int.reduceLE, Int.reduceEq, Int.add_zero, Int.neg_zero, Int.add_sub_cancel, Int.reduceNeg, Nat.reduceLeDiff, Nat.reduceSub, true_or, or_true, false_or, or_false, setI_d, setJ_d, setP_d, mI_row, mJ_row, mP_row, mI_row_ne, mJ_row_ne, mP_row_ne, rowI_rowI, rowJ_rowJ, rowI_sort, rowJ_sort, rowJ_rowI, rowP_rowI, rowP_rowJ, fu_app, fu_fu, mI_rowJ, mI_rowP, mJ_rowI, mJ_rowP, mP_rowI, mP_rowJ, mK_rowI, mN_rowI, mK_rowJ, mN_rowJ, mK_rowP, mN_rowP, oB_rowI, oB_rowJ, iA_rowI, iA_rowJ, iR_rowI, iR_rowJ, St_rowI, St_rowJ]
          exact c182t hst hS hE hF h7 T5 C5 (by omega) (by omega) hR _
        · rw [if_neg hs] at hR
          simp (disch := omega) only [wcQ, wcX, wcG, wcL, wcS, w182_105, w182_108, w182_109, toI, toJ, toI64, inb_T, inb_iZ, Int.toNat_natCast, cl_0, cl_1, cl_2, cl_3, cl_4, cl_5, cl_6, cl_7, cl_8, cl_9, cl_10, cl_11, cl_12, cl_13, cl_14, cl_15, cl_16, cl_17, cl_18, cl_19, cl_20, cl_21, cl_22, cl_23, cl_24, cl_25, cl_26, cl_27, cl_28, cl_29, cl_30, cl_31, cl_32, cl_36, cl_40, cl_48, cl_60, cl_108, cl_120, cl_200, cl_201, cl_576, cl_600, cl_864, cl_900, cl_960, cl_5400, cl_8040, j2_0, iN_iZ, iN_lit0, iZ_add, iZ_sub, iZ_mul, iZ_neg, jZ_add, jZ_sub, jZ_mul, jZ_neg, isB0, isB1, isBZ, eq0, eq1, bZ0, vI_, vJ_, vA_, rI_, rJ_, rA_, rV_, nX_, tX_, true_and, and_true, false_and, and_false, and_self, implies_true, forall_const, not_true_eq_false, not_false_eq_true, false_implies, true_implies, ↓reduceIte, Nat.reduceEqDiff, Int.reduceToNat, Int.reduceAdd, Int.reduceSub, Int.reduceLT, Int.reduceLE, Int.reduceEq, Int.add_zero, Int.neg_zero, Int.add_sub_cancel, Int.reduceNeg, Nat.reduceLeDiff, Nat.reduceSub, true_or, or_true, false_or, or_false, setI_d, setJ_d, setP_d, mI_row, mJ_row, mP_row, mI_row_ne, mJ_row_ne, mP_row_ne, rowI_rowI, rowJ_rowJ, rowI_sort, rowJ_sort, rowJ_rowI, rowP_rowI, rowP_rowJ, fu_app, fu_fu, mI_rowJ, mI_rowP, mJ_rowI, mJ_rowP, mP_rowI, mP_rowJ, mK_rowI, mN_rowI, mK_rowJ, mN_rowJ, mK_rowP, mN_rowP, oB_rowI, oB_rowJ, iA_rowI, iA_rowJ, iR_rowI, iR_rowJ, St_rowI, St_rowJ]
          rw [QC_i hR]
          exact ⟨FF_Fc hF (Fc_tr C4.1 Fc_rf), rfl, rf_2, rf_3⟩
    · rw [if_neg w] at hR
      have w' := eq_false w
      simp (disch := omega) only [wcQ, wcX, wcG, wcL, wcS, w182_58, toI, toJ, toI64, inb_T, inb_iZ, Int.toNat_natCast, cl_0, cl_1, cl_2, cl_3, cl_4, cl_5, cl_6, cl_7, cl_8, cl_9, cl_10, cl_11, cl_12, cl_13, cl_14, cl_15, cl_16, cl_17, cl_18, cl_19, cl_20, cl_21, cl_22, cl_23, cl_24, cl_25, cl_26, cl_27, cl_28, cl_29, cl_30, cl_31, cl_32, cl_36, cl_40, cl_48, cl_60, cl_108, cl_120, cl_200, cl_201, cl_576, cl_600, cl_864, cl_900, cl_960, cl_5400, cl_8040, j2_0, iN_iZ, iN_lit0, iZ_add, iZ_sub, iZ_mul, iZ_neg, jZ_add, jZ_sub, jZ_mul, jZ_neg, isB0, isB1, isBZ, eq0, eq1, bZ0, vI_, vJ_, vA_, rI_, rJ_, rA_, rV_, nX_, tX_, true_and, and_true, false_and, and_false, and_self, implies_true, forall_const, not_true_eq_false, not_false_eq_true, false_implies, true_implies, ↓reduceIte, Nat.reduceEqDiff, Int.reduceToNat, Int.reduceAdd, Int.reduceSub, Int.reduceLT, Int.reduceLE, Int.reduceEq, Int.add_zero, Int.neg_zero, Int.add_sub_cancel, Int.reduceNeg, Nat.reduceLeDiff, Nat.reduceSub, true_or, or_true, false_or, or_false, setI_d, setJ_d, setP_d, mI_row, mJ_row, mP_row, mI_row_ne, mJ_row_ne, mP_row_ne, rowI_rowI, rowJ_rowJ, rowI_sort, rowJ_sort, rowJ_rowI, rowP_rowI, rowP_rowJ, fu_app, fu_fu, mI_rowJ, mI_rowP, mJ_rowI, mJ_rowP, mP_rowI, mP_rowJ, mK_rowI, mN_rowI, mK_rowJ, mN_rowJ, mK_rowP, mN_rowP, oB_rowI, oB_rowJ, iA_rowI, iA_rowJ, iR_rowI, iR_rowJ, St_rowI, St_rowJ, w']
      exact c182t hst hS hE hF h7 T1 C1 (by decide) (by decide) hR _
theorem c182 (hst : (gl G).stackTraces = false) (hS : Static M) (hB : BK M k N) (hC : BC M k s q) (hsN : s ≤ N) (hN : N ≤ 600) (ha : 222 ≤ a ∧ oB M a 7 ∧ mI M a 2 = iZ hr ∧ mI M a 3 = iZ wd) (hak : a < k ∨ k + 11 ≤ a) (hW : WEs q) (hb : 0 ≤ hr ∧ hr < 24 ∧ 0 ≤ wd ∧ wd < 10) (hT : TC M B n (bl B n 0)) : Ev G (d + 12) 182 [aR (some 95), aR (some 91), aR (some k), aR (some a)] M 59 (rA fun v M' => QC M k (mN M) q hr wd (kCard B n q) v M') nX := by
  have o91 : oB M 91 10 = True := O91 hS
  have ok := bk_o hB
  have oa : oB M a 7 = True := eq_true ha.2.1
  obtain ⟨c, hc⟩ : ∃ c, mN M = c := ⟨_, rfl⟩
  have hS9 := hS.1
  have kN := hB.2.1
  have kk1 := hB.1
  have aN := ha.2.1.2.1
  refine Ev_wp 2000 hst (by decide) (Nat.le_of_ble_eq_true rfl) ?_; simp (disch := omega) only [en182, wcQ, wcX, wcG, wcL, wcS, w182_0, w182_1, w182_2, w182_5, w182_6, w182_7, w182_10, w182_11, w182_12, w182_15, w182_16, w182_19, w182_20, toI, toJ, toI64, inb_T, inb_iZ, Int.toNat_natCast, cl_0, cl_1, cl_2, cl_3, cl_4, cl_5, cl_6, cl_7, cl_8, cl_9, cl_10, cl_11, cl_12, cl_13, cl_14, cl_15, cl_16, cl_17, cl_18, cl_19, cl_20, cl_21, cl_22, cl_23, cl_24, cl_25, cl_26, cl_27, cl_28, cl_29, cl_30, cl_31, cl_32, cl_36, cl_40, cl_48, cl_60, cl_108, cl_120, cl_200, cl_201, cl_576, cl_600, cl_864, cl_900, cl_960, cl_5400, cl_8040, j2_0, iN_iZ, iN_lit0, iZ_add, iZ_sub, iZ_mul, iZ_neg, jZ_add, jZ_sub, jZ_mul, jZ_neg, isB0, isB1, isBZ, eq0, eq1, bZ0, vI_, vJ_, vA_, rI_, rJ_, rA_, rV_, nX_, tX_, true_and, and_true, false_and, and_false, and_self, implies_true, forall_const, not_true_eq_false, not_false_eq_true, false_implies, true_implies, ↓reduceIte, Nat.reduceEqDiff, Int.reduceToNat, Int.reduceAdd, Int.reduceSub, Int.reduceLT, Int.reduceLE, Int.reduceEq, Int.add_zero, Int.neg_zero, Int.add_sub_cancel, Int.reduceNeg, Nat.reduceLeDiff, Nat.reduceSub, true_or, or_true, false_or, or_false, setI_d, setJ_d, setP_d, mI_row, mJ_row, mP_row, mI_row_ne, mJ_row_ne, mP_row_ne, rowI_rowI, rowJ_rowJ, rowI_sort, rowJ_sort, rowJ_rowI, rowP_rowI, rowP_rowJ, fu_app, fu_fu, mI_rowJ, mI_rowP, mJ_rowI, mJ_rowP, mP_rowI, mP_rowJ, mK_rowI, mN_rowI, mK_rowJ, mN_rowJ, mK_rowP, mN_rowP, oB_rowI, oB_rowJ, iA_rowI, iA_rowJ, iR_rowI, iR_rowJ, St_rowI, St_rowJ, K91 hS, O91 hS, P91_4 hS, P91_5 hS, K95 hS, O95 hS, P95_5 hS, ok, oa, oB_rowP, rowP_rowP]
  rw [hc]
  have hsp := fun i (hi : i < 4) => sp95 hi
  obtain ⟨M1, hM1⟩ : ∃ M1, M1 = rowP M 95 (fu (fu (fu (mP M 95) 0 (some 91)) 1 (some k)) 2 (some a)) := ⟨_, rfl⟩
  have S1 : Static M1 := by
    have e1 := St_set (hsp 0 (by decide)) (v := some 91) hS
    have e2 := St_set (hsp 1 (by decide)) (v := some k) e1
    have e3 := St_set (hsp 2 (by decide)) (v := some a) e2
    simp only [mP_row, rowP_rowP] at e3
    rw [hM1]; exact e3
  have N1 : mN M1 = c := by rw [hM1]; exact hc
  obtain ⟨M2, hM2⟩ : ∃ M2, M2 = newC M1 0 8 := ⟨_, rfl⟩
  have S2 : Static M2 := by rw [hM2]; exact St_new S1
  have N2 : mN M2 = c + 1 := by rw [hM2, mN_new, N1]
  have o2 : oB M2 c 0 := by rw [hM2, ← N1]; exact oB_new_self (by omega)
  have e0 := c169 (G := G) (d := d + 10) hst o2 N2
  rw [← hM1, ← hM2]
  refine kV e0 (Nat.le_refl _) (fun M3 hq => ?_) (fun e M' h => False.elim h)
  have old := fun y (hy : y < c) => crM_old (c := c) N2 hy
  have new := crM_new (c := c) N2
  rw [← hq] at old new
  obtain ⟨n1, n2, n3, n4, n5, n6, n7, n8, n9, n10⟩ := new
  have I2 : ∀ y, y < c → mI M2 y = mI M y ∧ mJ M2 y = mJ M y ∧ mK M2 y = mK M y ∧ mP M2 y = mP M1 y := fun y hy => by
    rw [hM2, mI_new_ne (by omega), mJ_new_ne (by omega), mK_new_ne (by omega), mP_new_ne (by omega), hM1]
    exact ⟨rfl, rfl, rfl, rfl⟩
  have S3 : Static M3 := by
    rw [hq]
    unfold crM
    exact St_P (by omega) (St_new (St_P (by omega) (St_new S2)))
  have k2c : mK M2 c = (0, 8) := by rw [hM2, ← N1, mK_newC]
  have i2c : mI M2 c = fun _ => 0 := by rw [hM2, ← N1, mI_newC]
  have p2c : mP M2 c = fun _ => none := by rw [hM2, ← N1, mP_newC]
  have o3 : oB M3 c 0 = True := eq_true ⟨by omega, by omega, by rw [n2, k2c]⟩
  obtain ⟨M4, hM4⟩ : ∃ M4, M4 = rowP M3 95 (fu (mP M3 95) 3 (some c)) := ⟨_, rfl⟩
  have S4 : Static M4 := by rw [hM4]; exact St_set (hsp 3 (by decide)) S3
  have P95 : mP M4 95 = fu (fu (fu (fu (mP M 95) 0 (some 91)) 1 (some k)) 2 (some a)) 3 (some c) := by
    rw [hM4, mP_row, (old 95 (by omega)).2.2.1, (I2 95 (by omega)).2.2.2, hM1, mP_row]
  have P4 : ∀ y, y ≠ 95 → y < c → mP M4 y = mP M y := fun y h1 h2 => by
    rw [hM4, mP_row_ne h1, (old y h2).2.2.1, (I2 y h2).2.2.2, hM1, mP_row_ne h1]
  have I4 : ∀ y, y < c → mI M4 y = mI M y ∧ mJ M4 y = mJ M y ∧ mK M4 y = mK M y := fun y h2 => by
    rw [hM4]
    exact ⟨((old y h2).1).trans (I2 y h2).1, ((old y h2).2.1).trans (I2 y h2).2.1, ((old y h2).2.2.2).trans (I2 y h2).2.2.1⟩
  have E4 : CE M4 k N s a c q hr wd := by
    refine ⟨BK_fr hB (by rw [hM4]; show _ ≤ mN M3; omega) (fun y h1 h2 => ⟨(I4 y (by omega)).2.2, P4 y (by omega) (by omega)⟩), BC_fr hC (fun y h1 h2 => ⟨(I4 y (by omega)).1, (I4 y (by omega)).2.1⟩), hsN, hN, ⟨by omega, ?_, ?_, ?_, ?_, ?_, ?_⟩, ⟨ha.1, ?_, ?_, ?_⟩, ⟨?_, ?_, ?_, ?_⟩, ⟨by omega, by omega, hak⟩, hW, hb⟩
    · rw [hM4]; show _ ≤ mN M3; omega
    · rw [hM4]; show (mK M3 c).1 = 0; rw [n2, k2c]
    · rw [hM4]; exact n3
    · rw [hM4]; exact n4
    · rw [hM4, mP_row_ne (by omega)]; exact n5
    · rw [hM4, mP_row_ne (by omega)]; exact n6
    · refine ⟨ha.2.1.1, by rw [hM4]; show a < mN M3; omega, ?_⟩
      rw [(I4 a (by omega)).2.2]; exact ha.2.1.2.2
    · rw [(I4 a (by omega)).1]; exact ha.2.2.1
    · rw [(I4 a (by omega)).1]; exact ha.2.2.2
    · rw [P95]; rfl
    · rw [P95]; rfl
    · rw [P95]; rfl
    · rw [P95]; rfl
  have T4 : TC M4 B n (bl B n 0) := TC_91 (I4 91 (by omega)).1 (I4 92 (by omega)).1 (I4 93 (by omega)).1 hT
  have hF4 : FF M M4 k c := ⟨S4, by rw [hM4]; exact n1, by rw [(I4 91 (by omega)).1], fun y hy => ⟨(I4 y hy).2.2, (I4 y hy).2.1, fun h => P4 y h hy, fun _ _ _ _ _ => (I4 y hy).1⟩⟩
  have z0 : ∀ j, mI M4 c j = iZ 0 := fun j => by rw [hM4]; show mI M3 c j = _; rw [n8, i2c]; rfl
  have z2 : ∀ j, mI M4 (c + 2) j = iZ 0 := fun j => by rw [hM4]; show mI M3 (c + 2) j = _; rw [n10]; rfl
  have h7 : mP M4 c 7 = none := by rw [hM4, mP_row_ne (by omega), n7, p2c]
  clear hq
  have e5 := c171 (G := G) (d := d + 8) hst S4 E4
  have ok4 := bk_o7 E4.1
  have ob := bk_o E4.1
  have q1 : mP M4 95 1 = some k := by rw [P95]; rfl
  have p9 := bk_p9 E4.1
  simp (disch := omega) only [wcQ, wcX, wcG, wcL, wcS, w182_23, toI, toJ, toI64, inb_T, inb_iZ, Int.toNat_natCast, cl_0, cl_1, cl_2, cl_3, cl_4, cl_5, cl_6, cl_7, cl_8, cl_9, cl_10, cl_11, cl_12, cl_13, cl_14, cl_15, cl_16, cl_17, cl_18, cl_19, cl_20, cl_21, cl_22, cl_23, cl_24, cl_25, cl_26, cl_27, cl_28, cl_29, cl_30, cl_31, cl_32, cl_36, cl_40, cl_48, cl_60, cl_108, cl_120, cl_200, cl_201, cl_576, cl_600, cl_864, cl_900, cl_960, cl_5400, cl_8040, j2_0, iN_iZ, iN_lit0, iZ_add, iZ_sub, iZ_mul, iZ_neg, jZ_add, jZ_sub, jZ_mul, jZ_neg, isB0, isB1, isBZ, eq0, eq1, bZ0, vI_, vJ_, vA_, rI_, rJ_, rA_, rV_, nX_, tX_, true_and, and_true, false_and, and_false, and_self, implies_true, forall_const, not_true_eq_false, not_false_eq_true, false_implies, true_implies, ↓reduceIte, Nat.reduceEqDiff, Int.reduceToNat, Int.reduceAdd, Int.reduceSub, Int.reduceLT, Int.reduceLE, Int.reduceEq, Int.add_zero, Int.neg_zero, Int.add_sub_cancel, Int.reduceNeg, Nat.reduceLeDiff, Nat.reduceSub, true_or, or_true, false_or, or_false, setI_d, setJ_d, setP_d, mI_row, mJ_row, mP_row, mI_row_ne, mJ_row_ne, mP_row_ne, rowI_rowI, rowJ_rowJ, rowI_sort, rowJ_sort, rowJ_rowI, rowP_rowI, rowP_rowJ, fu_app, fu_fu, mI_rowJ, mI_rowP, mJ_rowI, mJ_rowP, mP_rowI, mP_rowJ, mK_rowI, mN_rowI, mK_rowJ, mN_rowJ, mK_rowP, mN_rowP, oB_rowI, oB_rowJ, iA_rowI, iA_rowJ, iR_rowI, iR_rowJ, St_rowI, St_rowJ, K95 S3, O95 S3, o3]
  rw [← hM4]
  simp (disch := omega) only [wcQ, wcX, wcG, wcL, wcS, w182_26, w182_27, w182_28, w182_31, w182_34, toI, toJ, toI64, inb_T, inb_iZ, Int.toNat_natCast, cl_0, cl_1, cl_2, cl_3, cl_4, cl_5, cl_6, cl_7, cl_8, cl_9, cl_10, cl_11, cl_12, cl_13, cl_14, cl_15, cl_16, cl_17, cl_18, cl_19, cl_20, cl_21, cl_22, cl_23, cl_24, cl_25, cl_26, cl_27, cl_28, cl_29, cl_30, cl_31, cl_32, cl_36, cl_40, cl_48, cl_60, cl_108, cl_120, cl_200, cl_201, cl_576, cl_600, cl_864, cl_900, cl_960, cl_5400, cl_8040, j2_0, iN_iZ, iN_lit0, iZ_add, iZ_sub, iZ_mul, iZ_neg, jZ_add, jZ_sub, jZ_mul, jZ_neg, isB0, isB1, isBZ, eq0, eq1, bZ0, vI_, vJ_, vA_, rI_, rJ_, rA_, rV_, nX_, tX_, true_and, and_true, false_and, and_false, and_self, implies_true, forall_const, not_true_eq_false, not_false_eq_true, false_implies, true_implies, ↓reduceIte, Nat.reduceEqDiff, Int.reduceToNat, Int.reduceAdd, Int.reduceSub, Int.reduceLT, Int.reduceLE, Int.reduceEq, Int.add_zero, Int.neg_zero, Int.add_sub_cancel, Int.reduceNeg, Nat.reduceLeDiff, Nat.reduceSub, true_or, or_true, false_or, or_false, setI_d, setJ_d, setP_d, mI_row, mJ_row, mP_row, mI_row_ne, mJ_row_ne, mP_row_ne, rowI_rowI, rowJ_rowJ, rowI_sort, rowJ_sort, rowJ_rowI, rowP_rowI, rowP_rowJ, fu_app, fu_fu, mI_rowJ, mI_rowP, mJ_rowI, mJ_rowP, mP_rowI, mP_rowJ, mK_rowI, mN_rowI, mK_rowJ, mN_rowJ, mK_rowP, mN_rowP, oB_rowI, oB_rowJ, iA_rowI, iA_rowJ, iR_rowI, iR_rowJ, St_rowI, St_rowJ, K95 S4, O95 S4, q1, ob, p9, ok4]
  refine kV e5 (by omega) (fun M5 hq => ?_) (fun e M' h => False.elim h)
  have F5 : Fc M4 M5 k c := by rw [hq]; exact Fc_row (by omega) (by omega) (by omega)
  have V5 : VS M5 k hr wd := by
    unfold VS
    rw [hq, mI_row, tv_ (by decide), tv_ (by decide), tv_ (by decide), tv_ (by decide)]
    exact ⟨rfl, rfl, rfl, rfl⟩
  have T5 : TC M5 B n (bl B n 0) := by rw [hq]; exact TC_row (by omega) (by omega) (by omega) T4
  have z5 : ∀ j, mI M5 c j = iZ 0 := fun j => by rw [hq, mI_row_ne (by omega)]; exact z0 j
  have y5 : ∀ j, mI M5 (c + 2) j = iZ 0 := fun j => by rw [hq, mI_row_ne (by omega)]; exact z2 j
  have h75 : mP M5 c 7 = none := by rw [F5.2.2.1]; exact h7
  clear hq
  simp (disch := omega) only [wcQ, wcX, wcG, wcL, wcS, w182_37, w182_38, toI, toJ, toI64, inb_T, inb_iZ, Int.toNat_natCast, cl_0, cl_1, cl_2, cl_3, cl_4, cl_5, cl_6, cl_7, cl_8, cl_9, cl_10, cl_11, cl_12, cl_13, cl_14, cl_15, cl_16, cl_17, cl_18, cl_19, cl_20, cl_21, cl_22, cl_23, cl_24, cl_25, cl_26, cl_27, cl_28, cl_29, cl_30, cl_31, cl_32, cl_36, cl_40, cl_48, cl_60, cl_108, cl_120, cl_200, cl_201, cl_576, cl_600, cl_864, cl_900, cl_960, cl_5400, cl_8040, j2_0, iN_iZ, iN_lit0, iZ_add, iZ_sub, iZ_mul, iZ_neg, jZ_add, jZ_sub, jZ_mul, jZ_neg, isB0, isB1, isBZ, eq0, eq1, bZ0, vI_, vJ_, vA_, rI_, rJ_, rA_, rV_, nX_, tX_, true_and, and_true, false_and, and_false, and_self, implies_true, forall_const, not_true_eq_false, not_false_eq_true, false_implies, true_implies, ↓reduceIte, Nat.reduceEqDiff, Int.reduceToNat, Int.reduceAdd, Int.reduceSub, Int.reduceLT, Int.reduceLE, Int.reduceEq, Int.add_zero, Int.neg_zero, Int.add_sub_cancel, Int.reduceNeg, Nat.reduceLeDiff, Nat.reduceSub, true_or, or_true, false_or, or_false, setI_d, setJ_d, setP_d, mI_row, mJ_row, mP_row, mI_row_ne, mJ_row_ne, mP_row_ne, rowI_rowI, rowJ_rowJ, rowI_sort, rowJ_sort, rowJ_rowI, rowP_rowI, rowP_rowJ, fu_app, fu_fu, mI_rowJ, mI_rowP, mJ_rowI, mJ_rowP, mP_rowI, mP_rowJ, mK_rowI, mN_rowI, mK_rowJ, mN_rowJ, mK_rowP, mN_rowP, oB_rowI, oB_rowJ, iA_rowI, iA_rowJ, iR_rowI, iR_rowJ, St_rowI, St_rowJ]
  exact c182s hst (Fc_S F5 S4) (Fc_CE F5 E4) (FF_Fc hF4 F5) h75 V5 z5 y5 T5 _
end

/-! SCALE: the class's side, clear and join. -/
section
variable {G : GE} {d : Nat} {M M' M'' : Mem} {T : Nat → Nat → Int} {W : Nat → Nat → Int} {r : Nat → Int} {g : Nat → Nat} {a b : Nat}
/-- but for the cells of SCALES all is as it was -/
def FZ (M M' : Mem) : Prop := mK M' = mK M ∧ mN M' = mN M ∧ mP M' = mP M ∧ mJ M' = mJ M ∧ ∀ c, (c < 110 ∨ 145 < c) → mI M' c = mI M c
theorem FZ_rfl : FZ M M := ⟨rfl, rfl, rfl, rfl, fun _ _ => rfl⟩
theorem FZ_tr (h : FZ M M') (h' : FZ M' M'') : FZ M M'' := by
  obtain ⟨a1, a2, a3, a4, a5⟩ := h
  obtain ⟨b1, b2, b3, b4, b5⟩ := h'
  exact ⟨b1.trans a1, b2.trans a2, b3.trans a3, b4.trans a4, fun c h1 => (b5 c h1).trans (a5 c h1)⟩
theorem FZ_row {c : Nat} {f : Nat → Int32} (h : 110 ≤ c) (h2 : c ≤ 145) : FZ M (rowI M c f) := ⟨rfl, rfl, rfl, rfl, fun y h1 => mI_row_ne (by omega)⟩
theorem FZ_S (h : FZ M M') (hS : Static M) : Static M' := by
  obtain ⟨a1, a2, a3, _⟩ := h
  unfold Static at *
  rw [a1, a2, a3]
  exact hS
/-- how the class keeps them -/
def ZT (M : Mem) (T : Nat → Nat → Int) : Prop := ∀ i j, i < 24 → j < 6 → mI M (113 + i) j = iZ (T i j)
def ZW (M : Mem) (W : Nat → Nat → Int) : Prop := ∀ i j, i < 6 → j < 6 → mI M (138 + i) j = iZ (W i j)
def ZR (M : Mem) (r : Nat → Int) : Prop := ∀ j, j < 6 → mI M 144 j = iZ (r j)
def ZG (M : Mem) (g : Nat → Nat) : Prop := ∀ j, j < 6 → mI M 111 j = iZ (g j)
theorem ZT_ne {c : Nat} {f : Nat → Int32} (h : c < 113 ∨ 136 < c) (hz : ZT M T) : ZT (rowI M c f) T := fun i j hi hj => by rw [mI_row_ne (by omega)]; exact hz i j hi hj
theorem ZW_ne {c : Nat} {f : Nat → Int32} (h : c < 138 ∨ 143 < c) (hz : ZW M W) : ZW (rowI M c f) W := fun i j hi hj => by rw [mI_row_ne (by omega)]; exact hz i j hi hj
theorem ZR_ne {c : Nat} {f : Nat → Int32} (h : c ≠ 144) (hz : ZR M r) : ZR (rowI M c f) r := fun j hj => by rw [mI_row_ne (by omega)]; exact hz j hj
theorem ZG_ne {c : Nat} {f : Nat → Int32} (h : c ≠ 111) (hz : ZG M g) : ZG (rowI M c f) g := fun j hj => by rw [mI_row_ne (by omega)]; exact hz j hj
theorem upto_a {L : Nat} {f h : Nat → Int32} {i : Nat} (hi : i < L) : upto L f h i = f i := if_pos hi
theorem c221 (hst : (gl G).stackTraces = false) (hS : Static M) : Ev G (d + 2) 221 [aR (some 110)] M 0 (rV fun M' => FZ M M' ∧ ZT M' (fun _ _ => -1) ∧ ZW M' (fun _ _ => 0) ∧ ZR M' (fun _ => 0) ∧ ZG M' (fun j => j)) nX := by
  refine Ev_wp 2000 hst (by decide) (Nat.le_of_ble_eq_true rfl) ?_; simp (disch := omega) only [en221, wcQ, wcX, wcG, wcL, wcS, w221_0, w221_1, h221_2, w221_2, toI, toJ, toI64, inb_T, inb_iZ, Int.toNat_natCast, cl_0, cl_1, cl_2, cl_3, cl_4, cl_5, cl_6, cl_7, cl_8, cl_9, cl_10, cl_11, cl_12, cl_13, cl_14, cl_15, cl_16, cl_17, cl_18, cl_19, cl_20, cl_21, cl_22, cl_23, cl_24, cl_25, cl_26, cl_27, cl_28, cl_29, cl_30, cl_31, cl_32, cl_36, cl_40, cl_48, cl_60, cl_108, cl_120, cl_200, cl_201, cl_576, cl_600, cl_864, cl_900, cl_960, cl_5400, cl_8040, j2_0, iN_iZ, iN_lit0, iZ_add, iZ_sub, iZ_mul, iZ_neg, jZ_add, jZ_sub, jZ_mul, jZ_neg, isB0, isB1, isBZ, eq0, eq1, bZ0, vI_, vJ_, vA_, rI_, rJ_, rA_, rV_, nX_, tX_, true_and, and_true, false_and, and_false, and_self, implies_true, forall_const, not_true_eq_false, not_false_eq_true, false_implies, true_implies, ↓reduceIte, Nat.reduceEqDiff, Int.reduceToNat, Int.reduceAdd, Int.reduceSub, Int.reduceLT, Int.reduceLE, Int.reduceEq, Int.add_zero, Int.neg_zero, Int.add_sub_cancel, Int.reduceNeg, Nat.reduceLeDiff, Nat.reduceSub, true_or, or_true, false_or, or_false, setI_d, setJ_d, setP_d, mI_row, mJ_row, mP_row, mI_row_ne, mJ_row_ne, mP_row_ne, rowI_rowI, rowJ_rowJ, rowI_sort, rowJ_sort, rowJ_rowI, rowP_rowI, rowP_rowJ, fu_app, fu_fu, mI_rowJ, mI_rowP, mJ_rowI, mJ_rowP, mP_rowI, mP_rowJ, mK_rowI, mN_rowI, mK_rowJ, mN_rowJ, mK_rowP, mN_rowP, oB_rowI, oB_rowJ, iA_rowI, iA_rowJ, iR_rowI, iR_rowJ, St_rowI, St_rowJ]
  refine loopN 24 (fun i ls M' => ls = [aR (some 110), aI (iZ i)] ∧ FZ M M' ∧ ∀ i', i' < i → ∀ j, j < 6 → mI M' (113 + i') j = iZ (-1)) ⟨rfl, FZ_rfl, fun _ h => absurd h (by omega)⟩ ?_ ?_
  · intro i hi ls Mi ⟨hl, hF, hT⟩ K
    subst hl
    have Si := FZ_S hF hS
    have hi' : (i : Int) < 24 := by omega
    have eN := Si.1
    have e := c14 (G := G) (d := d) (M := Mi) (a := 113 + i) (L := 6) (v := iZ (-1)) hst (by omega) (by omega) (KK113 Si hi) (by decide)
    refine wp1_go (n := 2000) ?_
    simp (disch := omega) only [wcQ, wcX, wcG, wcL, wcS, h221_2, w221_2, w221_3, w221_5, w221_8, w221_9, w221_12, w221_13, w221_14, w221_15, toI, toJ, toI64, inb_T, inb_iZ, Int.toNat_natCast, cl_0, cl_1, cl_2, cl_3, cl_4, cl_5, cl_6, cl_7, cl_8, cl_9, cl_10, cl_11, cl_12, cl_13, cl_14, cl_15, cl_16, cl_17, cl_18, cl_19, cl_20, cl_21, cl_22, cl_23, cl_24, cl_25, cl_26, cl_27, cl_28, cl_29, cl_30, cl_31, cl_32, cl_36, cl_40, cl_48, cl_60, cl_108, cl_120, cl_200, cl_201, cl_576, cl_600, cl_864, cl_900, cl_960, cl_5400, cl_8040, j2_0, iN_iZ, iN_lit0, iZ_add, iZ_sub, iZ_mul, iZ_neg, jZ_add, jZ_sub, jZ_mul, jZ_neg, isB0, isB1, isBZ, eq0, eq1, bZ0, vI_, vJ_, vA_, rI_, rJ_, rA_, rV_, nX_, tX_, true_and, and_true, false_and, and_false, and_self, implies_true, forall_const, not_true_eq_false, not_false_eq_true, false_implies, true_implies, ↓reduceIte, Nat.reduceEqDiff, Int.reduceToNat, Int.reduceAdd, Int.reduceSub, Int.reduceLT, Int.reduceLE, Int.reduceEq, Int.add_zero, Int.neg_zero, Int.add_sub_cancel, Int.reduceNeg, Nat.reduceLeDiff, Nat.reduceSub, true_or, or_true, false_or, or_false, setI_d, setJ_d, setP_d, mI_row, mJ_row, mP_row, mI_row_ne, mJ_row_ne, mP_row_ne, rowI_rowI, rowJ_rowJ, rowI_sort, rowJ_sort, rowJ_rowI, rowP_rowI, rowP_rowJ, fu_app, fu_fu, mI_rowJ, mI_rowP, mJ_rowI, mJ_rowP, mP_rowI, mP_rowJ, mK_rowI, mN_rowI, mK_rowJ, mN_rowJ, mK_rowP, mN_rowP, oB_rowI, oB_rowJ, iA_rowI, iA_rowJ, iR_rowI, iR_rowJ, St_rowI, St_rowJ, O110 Si, P110_1 Si, O112 Si, K112 Si, A112 Si, R112 Si, PP112 Si hi, hi']
    refine kV e (Nat.zero_le _) (fun M' hq => ?_) (fun e M' h => False.elim h)
    simp (disch := omega) only [wcQ, wcX, wcG, wcL, wcS, h221_2, w221_2, w221_18, w221_21, toI, toJ, toI64, inb_T, inb_iZ, Int.toNat_natCast, cl_0, cl_1, cl_2, cl_3, cl_4, cl_5, cl_6, cl_7, cl_8, cl_9, cl_10, cl_11, cl_12, cl_13, cl_14, cl_15, cl_16, cl_17, cl_18, cl_19, cl_20, cl_21, cl_22, cl_23, cl_24, cl_25, cl_26, cl_27, cl_28, cl_29, cl_30, cl_31, cl_32, cl_36, cl_40, cl_48, cl_60, cl_108, cl_120, cl_200, cl_201, cl_576, cl_600, cl_864, cl_900, cl_960, cl_5400, cl_8040, j2_0, iN_iZ, iN_lit0, iZ_add, iZ_sub, iZ_mul, iZ_neg, jZ_add, jZ_sub, jZ_mul, jZ_neg, isB0, isB1, isBZ, eq0, eq1, bZ0, vI_, vJ_, vA_, rI_, rJ_, rA_, rV_, nX_, tX_, true_and, and_true, false_and, and_false, and_self, implies_true, forall_const, not_true_eq_false, not_false_eq_true, false_implies, true_implies, ↓reduceIte, Nat.reduceEqDiff, Int.reduceToNat, Int.reduceAdd, Int.reduceSub, Int.reduceLT, Int.reduceLE, Int.reduceEq, Int.add_zero, Int.neg_zero, Int.add_sub_cancel, Int.reduceNeg, Nat.reduceLeDiff, Nat.reduceSub, true_or, or_true, false_or, or_false, setI_d, setJ_d, setP_d, mI_row, mJ_row, mP_row, mI_row_ne, mJ_row_ne, mP_row_ne, rowI_rowI, rowJ_rowJ, rowI_sort, rowJ_sort, rowJ_rowI, rowP_rowI, rowP_rowJ, fu_app, fu_fu, mI_rowJ, mI_rowP, mJ_rowI, mJ_rowP, mP_rowI, mP_rowJ, mK_rowI, mN_rowI, mK_rowJ, mN_rowJ, mK_rowP, mN_rowP, oB_rowI, oB_rowJ, iA_rowI, iA_rowJ, iR_rowI, iR_rowJ, St_rowI, St_rowJ]
    refine K _ _ ⟨rfl, FZ_tr hF (by rw [hq]; exact FZ_row (by omega) (by omega)), fun i' h j hj => ?_⟩
    rw [hq]
    by_cases w : i' = i
    · subst w; rw [mI_row]; exact upto_a hj
    · rw [mI_row_ne (by omega)]; exact hT i' (by omega) j hj
  · intro ls Mi ⟨hl, hF, hT⟩
    subst hl
    refine wp1_go (n := 2000) ?_
    simp (disch := omega) only [wcQ, wcX, wcG, wcL, wcS, h221_2, w221_2, w221_3, w221_5, w221_24, w221_25, h221_26, w221_26, toI, toJ, toI64, inb_T, inb_iZ, Int.toNat_natCast, cl_0, cl_1, cl_2, cl_3, cl_4, cl_5, cl_6, cl_7, cl_8, cl_9, cl_10, cl_11, cl_12, cl_13, cl_14, cl_15, cl_16, cl_17, cl_18, cl_19, cl_20, cl_21, cl_22, cl_23, cl_24, cl_25, cl_26, cl_27, cl_28, cl_29, cl_30, cl_31, cl_32, cl_36, cl_40, cl_48, cl_60, cl_108, cl_120, cl_200, cl_201, cl_576, cl_600, cl_864, cl_900, cl_960, cl_5400, cl_8040, j2_0, iN_iZ, iN_lit0, iZ_add, iZ_sub, iZ_mul, iZ_neg, jZ_add, jZ_sub, jZ_mul, jZ_neg, isB0, isB1, isBZ, eq0, eq1, bZ0, vI_, vJ_, vA_, rI_, rJ_, rA_, rV_, nX_, tX_, true_and, and_true, false_and, and_false, and_self, implies_true, forall_const, not_true_eq_false, not_false_eq_true, false_implies, true_implies, ↓reduceIte, Nat.reduceEqDiff, Int.reduceToNat, Int.reduceAdd, Int.reduceSub, Int.reduceLT, Int.reduceLE, Int.reduceEq, Int.add_zero, Int.neg_zero, Int.add_sub_cancel, Int.reduceNeg, Nat.reduceLeDiff, Nat.reduceSub, true_or, or_true, false_or, or_false, setI_d, setJ_d, setP_d, mI_row, mJ_row, mP_row, mI_row_ne, mJ_row_ne, mP_row_ne, rowI_rowI, rowJ_rowJ, rowI_sort, rowJ_sort, rowJ_rowI, rowP_rowI, rowP_rowJ, fu_app, fu_fu, mI_rowJ, mI_rowP, mJ_rowI, mJ_rowP, mP_rowI, mP_rowJ, mK_rowI, mN_rowI, mK_rowJ, mN_rowJ, mK_rowP, mN_rowP, oB_rowI, oB_rowJ, iA_rowI, iA_rowJ, iR_rowI, iR_rowJ, St_rowI, St_rowJ]
    refine loopN 6 (fun i ls M' => ls = [aR (some 110), aI (iZ i)] ∧ FZ M M' ∧ ZT M' (fun _ _ => -1) ∧ ∀ i', i' < i → (∀ j, j < 6 → mI M' (138 + i') j = iZ 0) ∧ mI M' 144 i' = iZ 0 ∧ mI M' 111 i' = iZ i') ⟨rfl, hF, fun i j hi hj => hT i hi j hj, fun _ h => absurd h (by omega)⟩ ?_ ?_
    · intro i hi ls Mj ⟨hl, hF, hT, hW⟩ K
      subst hl
      have Si := FZ_S hF hS
      have hi' : (i : Int) < 6 := by omega
      have eN := Si.1
      have e := c14 (G := G) (d := d) (M := Mj) (a := 138 + i) (L := 6) (v := iZ 0) hst (by omega) (by omega) (KK138 Si hi) (by decide)
      refine wp1_go (n := 2000) ?_
      simp (disch := omega) only [wcQ, wcX, wcG, wcL, wcS, h221_26, w221_26, w221_27, w221_29, w221_32, w221_33, w221_36, w221_37, w221_38, w221_39, toI, toJ, toI64, inb_T, inb_iZ, Int.toNat_natCast, cl_0, cl_1, cl_2, cl_3, cl_4, cl_5, cl_6, cl_7, cl_8, cl_9, cl_10, cl_11, cl_12, cl_13, cl_14, cl_15, cl_16, cl_17, cl_18, cl_19, cl_20, cl_21, cl_22, cl_23, cl_24, cl_25, cl_26, cl_27, cl_28, cl_29, cl_30, cl_31, cl_32, cl_36, cl_40, cl_48, cl_60, cl_108, cl_120, cl_200, cl_201, cl_576, cl_600, cl_864, cl_900, cl_960, cl_5400, cl_8040, j2_0, iN_iZ, iN_lit0, iZ_add, iZ_sub, iZ_mul, iZ_neg, jZ_add, jZ_sub, jZ_mul, jZ_neg, isB0, isB1, isBZ, eq0, eq1, bZ0, vI_, vJ_, vA_, rI_, rJ_, rA_, rV_, nX_, tX_, true_and, and_true, false_and, and_false, and_self, implies_true, forall_const, not_true_eq_false, not_false_eq_true, false_implies, true_implies, ↓reduceIte, Nat.reduceEqDiff, Int.reduceToNat, Int.reduceAdd, Int.reduceSub, Int.reduceLT, Int.reduceLE, Int.reduceEq, Int.add_zero, Int.neg_zero, Int.add_sub_cancel, Int.reduceNeg, Nat.reduceLeDiff, Nat.reduceSub, true_or, or_true, false_or, or_false, setI_d, setJ_d, setP_d, mI_row, mJ_row, mP_row, mI_row_ne, mJ_row_ne, mP_row_ne, rowI_rowI, rowJ_rowJ, rowI_sort, rowJ_sort, rowJ_rowI, rowP_rowI, rowP_rowJ, fu_app, fu_fu, mI_rowJ, mI_rowP, mJ_rowI, mJ_rowP, mP_rowI, mP_rowJ, mK_rowI, mN_rowI, mK_rowJ, mN_rowJ, mK_rowP, mN_rowP, oB_rowI, oB_rowJ, iA_rowI, iA_rowJ, iR_rowI, iR_rowJ, St_rowI, St_rowJ, O110 Si, P110_2 Si, O137 Si, K137 Si, A137 Si, R137 Si, PP137 Si hi, hi']
      refine kV e (Nat.zero_le _) (fun M1 hq => ?_) (fun e M' h => False.elim h)
      have F1 : FZ Mj M1 := by rw [hq]; exact FZ_row (by omega) (by omega)
      have S1 := FZ_S F1 Si
      simp (disch := omega) only [wcQ, wcX, wcG, wcL, wcS, h221_26, w221_26, w221_42, w221_43, w221_46, w221_47, w221_48, w221_49, w221_50, w221_53, w221_54, w221_55, w221_56, w221_59, toI, toJ, toI64, inb_T, inb_iZ, Int.toNat_natCast, cl_0, cl_1, cl_2, cl_3, cl_4, cl_5, cl_6, cl_7, cl_8, cl_9, cl_10, cl_11, cl_12, cl_13, cl_14, cl_15, cl_16, cl_17, cl_18, cl_19, cl_20, cl_21, cl_22, cl_23, cl_24, cl_25, cl_26, cl_27, cl_28, cl_29, cl_30, cl_31, cl_32, cl_36, cl_40, cl_48, cl_60, cl_108, cl_120, cl_200, cl_201, cl_576, cl_600, cl_864, cl_900, cl_960, cl_5400, cl_8040, j2_0, iN_iZ, iN_lit0, iZ_add, iZ_sub, iZ_mul, iZ_neg, jZ_add, jZ_sub, jZ_mul, jZ_neg, isB0, isB1, isBZ, eq0, eq1, bZ0, vI_, vJ_, vA_, rI_, rJ_, rA_, rV_, nX_, tX_, true_and, and_true, false_and, and_false, and_self, implies_true, forall_const, not_true_eq_false, not_false_eq_true, false_implies, true_implies, ↓reduceIte, Nat.reduceEqDiff, Int.reduceToNat, Int.reduceAdd, Int.reduceSub, Int.reduceLT, Int.reduceLE, Int.reduceEq, Int.add_zero, Int.neg_zero, Int.add_sub_cancel, Int.reduceNeg, Nat.reduceLeDiff, Nat.reduceSub, true_or, or_true, false_or, or_false, setI_d, setJ_d, setP_d, mI_row, mJ_row, mP_row, mI_row_ne, mJ_row_ne, mP_row_ne, rowI_rowI, rowJ_rowJ, rowI_sort, rowJ_sort, rowJ_rowI, rowP_rowI, rowP_rowJ, fu_app, fu_fu, mI_rowJ, mI_rowP, mJ_rowI, mJ_rowP, mP_rowI, mP_rowJ, mK_rowI, mN_rowI, mK_rowJ, mN_rowJ, mK_rowP, mN_rowP, oB_rowI, oB_rowJ, iA_rowI, iA_rowJ, iR_rowI, iR_rowJ, St_rowI, St_rowJ, O110 S1, P110_3 S1, P110_0 S1, K144 S1, O144 S1, A144 S1, K111 S1, O111 S1, A111 S1, hi']
      refine K _ _ ⟨rfl, FZ_tr hF (FZ_tr F1 ?_), ?_, fun i' h => ?_⟩
      · exact FZ_tr (FZ_row (by omega) (by omega)) (FZ_row (by omega) (by omega))
      · exact ZT_ne (by omega) (ZT_ne (by omega) (by rw [hq]; exact ZT_ne (by omega) hT))
      · have e144 : mI M1 144 = mI Mj 144 := by rw [hq, mI_row_ne (by omega)]
        have e111 : mI M1 111 = mI Mj 111 := by rw [hq, mI_row_ne (by omega)]
        refine ⟨fun j hj => ?_, ?_, ?_⟩
        · rw [mI_row_ne (by omega), mI_row_ne (by omega), hq]
          by_cases w : i' = i
          · subst w; rw [mI_row]; exact upto_a hj
          · rw [mI_row_ne (by omega)]; exact (hW i' (by omega)).1 j hj
        · first | rw [mI_row] | rw [mI_row_ne (by omega), mI_row]
          by_cases w : i' = i
          · subst w; exact if_pos rfl
          · refine (if_neg w).trans ?_
            first | (rw [e144]; exact (hW i' (by omega)).2.1) | (rw [mI_row_ne (by omega), e144]; exact (hW i' (by omega)).2.1)
        · first | rw [mI_row] | rw [mI_row_ne (by omega), mI_row]
          by_cases w : i' = i
          · subst w; exact if_pos rfl
          · refine (if_neg w).trans ?_
            first | (rw [e111]; exact (hW i' (by omega)).2.2) | (rw [mI_row_ne (by omega), e111]; exact (hW i' (by omega)).2.2)
    · intro ls Mj ⟨hl, hF, hT, hW⟩
      subst hl
      refine wp1_go (n := 2000) ?_
      simp (disch := omega) only [wcQ, wcX, wcG, wcL, wcS, h221_26, w221_26, w221_27, w221_29, w221_62, toI, toJ, toI64, inb_T, inb_iZ, Int.toNat_natCast, cl_0, cl_1, cl_2, cl_3, cl_4, cl_5, cl_6, cl_7, cl_8, cl_9, cl_10, cl_11, cl_12, cl_13, cl_14, cl_15, cl_16, cl_17, cl_18, cl_19, cl_20, cl_21, cl_22, cl_23, cl_24, cl_25, cl_26, cl_27, cl_28, cl_29, cl_30, cl_31, cl_32, cl_36, cl_40, cl_48, cl_60, cl_108, cl_120, cl_200, cl_201, cl_576, cl_600, cl_864, cl_900, cl_960, cl_5400, cl_8040, j2_0, iN_iZ, iN_lit0, iZ_add, iZ_sub, iZ_mul, iZ_neg, jZ_add, jZ_sub, jZ_mul, jZ_neg, isB0, isB1, isBZ, eq0, eq1, bZ0, vI_, vJ_, vA_, rI_, rJ_, rA_, rV_, nX_, tX_, true_and, and_true, false_and, and_false, and_self, implies_true, forall_const, not_true_eq_false, not_false_eq_true, false_implies, true_implies, ↓reduceIte, Nat.reduceEqDiff, Int.reduceToNat, Int.reduceAdd, Int.reduceSub, Int.reduceLT, Int.reduceLE, Int.reduceEq, Int.add_zero, Int.neg_zero, Int.add_sub_cancel, Int.reduceNeg, Nat.reduceLeDiff, Nat.reduceSub, true_or, or_true, false_or, or_false, setI_d, setJ_d, setP_d, mI_row, mJ_row, mP_row, mI_row_ne, mJ_row_ne, mP_row_ne, rowI_rowI, rowJ_rowJ, rowI_sort, rowJ_sort, rowJ_rowI, rowP_rowI, rowP_rowJ, fu_app, fu_fu, mI_rowJ, mI_rowP, mJ_rowI, mJ_rowP, mP_rowI, mP_rowJ, mK_rowI, mN_rowI, mK_rowJ, mN_rowJ, mK_rowP, mN_rowP, oB_rowI, oB_rowJ, iA_rowI, iA_rowJ, iR_rowI, iR_rowJ, St_rowI, St_rowJ]
      exact ⟨hF, hT, fun i j hi hj => (hW i hi).1 j hj, fun j hj => (hW j hj).2.1, fun j hj => (hW j hj).2.2⟩
/-- two groups become one -/
def mgG (g : Nat → Nat) (a b : Nat) (x : Nat) : Nat := if g x = max (g a) (g b) then min (g a) (g b) else g x
theorem c222 (hst : (gl G).stackTraces = false) (hS : Static M) (hG : ZG M g) (hg : ∀ j, j < 6 → g j < 6) (ha : a < 6) (hb : b < 6) : Ev G (d + 2) 222 [aR (some 110), aI (iZ (g a)), aI (iZ (g b))] M 0 (rV fun M' => ∃ f, M' = rowI M 111 f ∧ ZG M' (mgG g a b)) nX := by
  have a6 := hg a ha
  have b6 := hg b hb
  have e5 := jd5 (G := G) (d := d) (M := M) (x := g a) (y := g b) hst (by omega) (by omega) (by omega) (by omega)
  have e4 := jd4 (G := G) (d := d) (M := M) (x := g a) (y := g b) hst (by omega) (by omega) (by omega) (by omega)
  have h5 : (if (g b : Int) < g a then (g b : Int) else g a) = (min (g a) (g b) : Nat) := by split <;> omega
  have h4 : (if (g a : Int) < g b then (g b : Int) else g a) = (max (g a) (g b) : Nat) := by split <;> omega
  rw [h5] at e5
  rw [h4] at e4
  obtain ⟨lo, hlo⟩ : ∃ lo, lo = min (g a) (g b) := ⟨_, rfl⟩
  obtain ⟨hi, hhi⟩ : ∃ hi, hi = max (g a) (g b) := ⟨_, rfl⟩
  rw [← hlo] at e5
  rw [← hhi] at e4
  have hm : ∀ x, mgG g a b x = if g x = hi then lo else g x := fun x => by unfold mgG; rw [← hhi, ← hlo]
  have hi6 : hi < 6 := by omega
  have lo6 : lo < 6 := by omega
  refine Ev_wp 2000 hst (by decide) (Nat.le_of_ble_eq_true rfl) ?_; simp (disch := omega) only [en222, wcQ, wcX, wcG, wcL, wcS, w222_0, w222_1, w222_2, toI, toJ, toI64, inb_T, inb_iZ, Int.toNat_natCast, cl_0, cl_1, cl_2, cl_3, cl_4, cl_5, cl_6, cl_7, cl_8, cl_9, cl_10, cl_11, cl_12, cl_13, cl_14, cl_15, cl_16, cl_17, cl_18, cl_19, cl_20, cl_21, cl_22, cl_23, cl_24, cl_25, cl_26, cl_27, cl_28, cl_29, cl_30, cl_31, cl_32, cl_36, cl_40, cl_48, cl_60, cl_108, cl_120, cl_200, cl_201, cl_576, cl_600, cl_864, cl_900, cl_960, cl_5400, cl_8040, j2_0, iN_iZ, iN_lit0, iZ_add, iZ_sub, iZ_mul, iZ_neg, jZ_add, jZ_sub, jZ_mul, jZ_neg, isB0, isB1, isBZ, eq0, eq1, bZ0, vI_, vJ_, vA_, rI_, rJ_, rA_, rV_, nX_, tX_, true_and, and_true, false_and, and_false, and_self, implies_true, forall_const, not_true_eq_false, not_false_eq_true, false_implies, true_implies, ↓reduceIte, Nat.reduceEqDiff, Int.reduceToNat, Int.reduceAdd, Int.reduceSub, Int.reduceLT, Int.reduceLE, Int.reduceEq, Int.add_zero, Int.neg_zero, Int.add_sub_cancel, Int.reduceNeg, Nat.reduceLeDiff, Nat.reduceSub, true_or, or_true, false_or, or_false, setI_d, setJ_d, setP_d, mI_row, mJ_row, mP_row, mI_row_ne, mJ_row_ne, mP_row_ne, rowI_rowI, rowJ_rowJ, rowI_sort, rowJ_sort, rowJ_rowI, rowP_rowI, rowP_rowJ, fu_app, fu_fu, mI_rowJ, mI_rowP, mJ_rowI, mJ_rowP, mP_rowI, mP_rowJ, mK_rowI, mN_rowI, mK_rowJ, mN_rowJ, mK_rowP, mN_rowP, oB_rowI, oB_rowJ, iA_rowI, iA_rowJ, iR_rowI, iR_rowJ, St_rowI, St_rowJ]
  refine kI0 e5 ?_
  simp (disch := omega) only [wcQ, wcX, wcG, wcL, wcS, w222_5, w222_6, w222_7, w222_8, toI, toJ, toI64, inb_T, inb_iZ, Int.toNat_natCast, cl_0, cl_1, cl_2, cl_3, cl_4, cl_5, cl_6, cl_7, cl_8, cl_9, cl_10, cl_11, cl_12, cl_13, cl_14, cl_15, cl_16, cl_17, cl_18, cl_19, cl_20, cl_21, cl_22, cl_23, cl_24, cl_25, cl_26, cl_27, cl_28, cl_29, cl_30, cl_31, cl_32, cl_36, cl_40, cl_48, cl_60, cl_108, cl_120, cl_200, cl_201, cl_576, cl_600, cl_864, cl_900, cl_960, cl_5400, cl_8040, j2_0, iN_iZ, iN_lit0, iZ_add, iZ_sub, iZ_mul, iZ_neg, jZ_add, jZ_sub, jZ_mul, jZ_neg, isB0, isB1, isBZ, eq0, eq1, bZ0, vI_, vJ_, vA_, rI_, rJ_, rA_, rV_, nX_, tX_, true_and, and_true, false_and, and_false, and_self, implies_true, forall_const, not_true_eq_false, not_false_eq_true, false_implies, true_implies, ↓reduceIte, Nat.reduceEqDiff, Int.reduceToNat, Int.reduceAdd, Int.reduceSub, Int.reduceLT, Int.reduceLE, Int.reduceEq, Int.add_zero, Int.neg_zero, Int.add_sub_cancel, Int.reduceNeg, Nat.reduceLeDiff, Nat.reduceSub, true_or, or_true, false_or, or_false, setI_d, setJ_d, setP_d, mI_row, mJ_row, mP_row, mI_row_ne, mJ_row_ne, mP_row_ne, rowI_rowI, rowJ_rowJ, rowI_sort, rowJ_sort, rowJ_rowI, rowP_rowI, rowP_rowJ, fu_app, fu_fu, mI_rowJ, mI_rowP, mJ_rowI, mJ_rowP, mP_rowI, mP_rowJ, mK_rowI, mN_rowI, mK_rowJ, mN_rowJ, mK_rowP, mN_rowP, oB_rowI, oB_rowJ, iA_rowI, iA_rowJ, iR_rowI, iR_rowJ, St_rowI, St_rowJ]
  refine kI0 e4 ?_
  simp (disch := omega) only [wcQ, wcX, wcG, wcL, wcS, w222_11, w222_13, w222_14, h222_16, w222_16, toI, toJ, toI64, inb_T, inb_iZ, Int.toNat_natCast, cl_0, cl_1, cl_2, cl_3, cl_4, cl_5, cl_6, cl_7, cl_8, cl_9, cl_10, cl_11, cl_12, cl_13, cl_14, cl_15, cl_16, cl_17, cl_18, cl_19, cl_20, cl_21, cl_22, cl_23, cl_24, cl_25, cl_26, cl_27, cl_28, cl_29, cl_30, cl_31, cl_32, cl_36, cl_40, cl_48, cl_60, cl_108, cl_120, cl_200, cl_201, cl_576, cl_600, cl_864, cl_900, cl_960, cl_5400, cl_8040, j2_0, iN_iZ, iN_lit0, iZ_add, iZ_sub, iZ_mul, iZ_neg, jZ_add, jZ_sub, jZ_mul, jZ_neg, isB0, isB1, isBZ, eq0, eq1, bZ0, vI_, vJ_, vA_, rI_, rJ_, rA_, rV_, nX_, tX_, true_and, and_true, false_and, and_false, and_self, implies_true, forall_const, not_true_eq_false, not_false_eq_true, false_implies, true_implies, ↓reduceIte, Nat.reduceEqDiff, Int.reduceToNat, Int.reduceAdd, Int.reduceSub, Int.reduceLT, Int.reduceLE, Int.reduceEq, Int.add_zero, Int.neg_zero, Int.add_sub_cancel, Int.reduceNeg, Nat.reduceLeDiff, Nat.reduceSub, true_or, or_true, false_or, or_false, setI_d, setJ_d, setP_d, mI_row, mJ_row, mP_row, mI_row_ne, mJ_row_ne, mP_row_ne, rowI_rowI, rowJ_rowJ, rowI_sort, rowJ_sort, rowJ_rowI, rowP_rowI, rowP_rowJ, fu_app, fu_fu, mI_rowJ, mI_rowP, mJ_rowI, mJ_rowP, mP_rowI, mP_rowJ, mK_rowI, mN_rowI, mK_rowJ, mN_rowJ, mK_rowP, mN_rowP, oB_rowI, oB_rowJ, iA_rowI, iA_rowJ, iR_rowI, iR_rowJ, St_rowI, St_rowJ]
  refine loopN 6 (fun i ls M' => ls = [aR (some 110), aI (iZ (g a)), aI (iZ (g b)), aI (iZ lo), aI (iZ hi), aI (iZ i)] ∧ ∃ f, M' = rowI M 111 f ∧ ∀ j, j < 6 → f j = iZ (if j < i then mgG g a b j else g j)) ⟨rfl, mI M 111, rowI_mI.symm, fun j hj => by rw [if_neg (by omega)]; exact hG j hj⟩ ?_ ?_
  · intro i hi' ls Mi ⟨hl, f, hM, hf⟩ K
    subst hl
    have Si : Static Mi := by rw [hM]; exact hS
    have hi2 : (i : Int) < 6 := by omega
    have fi : mI Mi 111 i = iZ (g i) := by rw [hM, mI_row, hf i hi', if_neg (by omega)]
    have gi := hg i hi'
    refine wp1_go (n := 2000) ?_
    by_cases w : g i = hi
    · have w' : (g i : Int) = (hi : Int) := by omega
      simp (disch := omega) only [wcQ, wcX, wcG, wcL, wcS, h222_16, w222_16, w222_18, w222_20, w222_23, w222_24, w222_27, w222_29, w222_30, w222_32, w222_35, w222_36, w222_39, w222_41, w222_42, w222_43, w222_46, toI, toJ, toI64, inb_T, inb_iZ, Int.toNat_natCast, cl_0, cl_1, cl_2, cl_3, cl_4, cl_5, cl_6, cl_7, cl_8, cl_9, cl_10, cl_11, cl_12, cl_13, cl_14, cl_15, cl_16, cl_17, cl_18, cl_19, cl_20, cl_21, cl_22, cl_23, cl_24, cl_25, cl_26, cl_27, cl_28, cl_29, cl_30, cl_31, cl_32, cl_36, cl_40, cl_48, cl_60, cl_108, cl_120, cl_200, cl_201, cl_576, cl_600, cl_864, cl_900, cl_960, cl_5400, cl_8040, j2_0, iN_iZ, iN_lit0, iZ_add, iZ_sub, iZ_mul, iZ_neg, jZ_add, jZ_sub, jZ_mul, jZ_neg, isB0, isB1, isBZ, eq0, eq1, bZ0, vI_, vJ_, vA_, rI_, rJ_, rA_, rV_, nX_, tX_, true_and, and_true, false_and, and_false, and_self, implies_true, forall_const, not_true_eq_false, not_false_eq_true, false_implies, true_implies, ↓reduceIte, Nat.reduceEqDiff, Int.reduceToNat, Int.reduceAdd, Int.reduceSub, Int.reduceLT, Int.reduceLE, Int.reduceEq, Int.add_zero, Int.neg_zero, Int.add_sub_cancel, Int.reduceNeg, Nat.reduceLeDiff, Nat.reduceSub, true_or, or_true, false_or, or_false, setI_d, setJ_d, setP_d, mI_row, mJ_row, mP_row, mI_row_ne, mJ_row_ne, mP_row_ne, rowI_rowI, rowJ_rowJ, rowI_sort, rowJ_sort, rowJ_rowI, rowP_rowI, rowP_rowJ, fu_app, fu_fu, mI_rowJ, mI_rowP, mJ_rowI, mJ_rowP, mP_rowI, mP_rowJ, mK_rowI, mN_rowI, mK_rowJ, mN_rowJ, mK_rowP, mN_rowP, oB_rowI, oB_rowJ, iA_rowI, iA_rowJ, iR_rowI, iR_rowJ, St_rowI, St_rowJ, O110 Si, P110_0 Si, K111 Si, O111 Si, A111 Si, hi2, fi, eq_true w']
      refine K _ _ ⟨rfl, fu f i (iZ lo), by rw [hM, mI_row, rowI_rowI], fun j hj => ?_⟩
      by_cases z : j = i
      · subst z
        rw [if_pos (by omega), hm, if_pos w]; exact if_pos rfl
      · refine (if_neg z).trans ((hf j hj).trans ?_)
        by_cases y : j < i
        · rw [if_pos y, if_pos (by omega)]
        · rw [if_neg y, if_neg (by omega)]
    · have w' : ¬ (g i : Int) = (hi : Int) := by omega
      simp (disch := omega) only [wcQ, wcX, wcG, wcL, wcS, h222_16, w222_16, w222_18, w222_20, w222_23, w222_24, w222_27, w222_29, w222_30, w222_32, w222_43, w222_46, toI, toJ, toI64, inb_T, inb_iZ, Int.toNat_natCast, cl_0, cl_1, cl_2, cl_3, cl_4, cl_5, cl_6, cl_7, cl_8, cl_9, cl_10, cl_11, cl_12, cl_13, cl_14, cl_15, cl_16, cl_17, cl_18, cl_19, cl_20, cl_21, cl_22, cl_23, cl_24, cl_25, cl_26, cl_27, cl_28, cl_29, cl_30, cl_31, cl_32, cl_36, cl_40, cl_48, cl_60, cl_108, cl_120, cl_200, cl_201, cl_576, cl_600, cl_864, cl_900, cl_960, cl_5400, cl_8040, j2_0, iN_iZ, iN_lit0, iZ_add, iZ_sub, iZ_mul, iZ_neg, jZ_add, jZ_sub, jZ_mul, jZ_neg, isB0, isB1, isBZ, eq0, eq1, bZ0, vI_, vJ_, vA_, rI_, rJ_, rA_, rV_, nX_, tX_, true_and, and_true, false_and, and_false, and_self, implies_true, forall_const, not_true_eq_false, not_false_eq_true, false_implies, true_implies, ↓reduceIte, Nat.reduceEqDiff, Int.reduceToNat, Int.reduceAdd, Int.reduceSub, Int.reduceLT, Int.reduceLE, Int.reduceEq, Int.add_zero, Int.neg_zero, Int.add_sub_cancel, Int.reduceNeg, Nat.reduceLeDiff, Nat.reduceSub, true_or, or_true, false_or, or_false, setI_d, setJ_d, setP_d, mI_row, mJ_row, mP_row, mI_row_ne, mJ_row_ne, mP_row_ne, rowI_rowI, rowJ_rowJ, rowI_sort, rowJ_sort, rowJ_rowI, rowP_rowI, rowP_rowJ, fu_app, fu_fu, mI_rowJ, mI_rowP, mJ_rowI, mJ_rowP, mP_rowI, mP_rowJ, mK_rowI, mN_rowI, mK_rowJ, mN_rowJ, mK_rowP, mN_rowP, oB_rowI, oB_rowJ, iA_rowI, iA_rowJ, iR_rowI, iR_rowJ, St_rowI, St_rowJ, O110 Si, P110_0 Si, K111 Si, O111 Si, A111 Si, hi2, fi, w']
      refine K _ _ ⟨rfl, f, hM, fun j hj => ?_⟩
      rw [hf j hj]
      by_cases z : j = i
      · subst z
        rw [if_neg (by omega), if_pos (by omega), hm, if_neg w]
      · by_cases y : j < i
        · rw [if_pos y, if_pos (by omega)]
        · rw [if_neg y, if_neg (by omega)]
  · intro ls Mi ⟨hl, f, hM, hf⟩
    subst hl
    refine wp1_go (n := 2000) ?_
    simp (disch := omega) only [wcQ, wcX, wcG, wcL, wcS, h222_16, w222_16, w222_18, w222_20, w222_49, toI, toJ, toI64, inb_T, inb_iZ, Int.toNat_natCast, cl_0, cl_1, cl_2, cl_3, cl_4, cl_5, cl_6, cl_7, cl_8, cl_9, cl_10, cl_11, cl_12, cl_13, cl_14, cl_15, cl_16, cl_17, cl_18, cl_19, cl_20, cl_21, cl_22, cl_23, cl_24, cl_25, cl_26, cl_27, cl_28, cl_29, cl_30, cl_31, cl_32, cl_36, cl_40, cl_48, cl_60, cl_108, cl_120, cl_200, cl_201, cl_576, cl_600, cl_864, cl_900, cl_960, cl_5400, cl_8040, j2_0, iN_iZ, iN_lit0, iZ_add, iZ_sub, iZ_mul, iZ_neg, jZ_add, jZ_sub, jZ_mul, jZ_neg, isB0, isB1, isBZ, eq0, eq1, bZ0, vI_, vJ_, vA_, rI_, rJ_, rA_, rV_, nX_, tX_, true_and, and_true, false_and, and_false, and_self, implies_true, forall_const, not_true_eq_false, not_false_eq_true, false_implies, true_implies, ↓reduceIte, Nat.reduceEqDiff, Int.reduceToNat, Int.reduceAdd, Int.reduceSub, Int.reduceLT, Int.reduceLE, Int.reduceEq, Int.add_zero, Int.neg_zero, Int.add_sub_cancel, Int.reduceNeg, Nat.reduceLeDiff, Nat.reduceSub, true_or, or_true, false_or, or_false, setI_d, setJ_d, setP_d, mI_row, mJ_row, mP_row, mI_row_ne, mJ_row_ne, mP_row_ne, rowI_rowI, rowJ_rowJ, rowI_sort, rowJ_sort, rowJ_rowI, rowP_rowI, rowP_rowJ, fu_app, fu_fu, mI_rowJ, mI_rowP, mJ_rowI, mJ_rowP, mP_rowI, mP_rowJ, mK_rowI, mN_rowI, mK_rowJ, mN_rowJ, mK_rowP, mN_rowP, oB_rowI, oB_rowJ, iA_rowI, iA_rowJ, iR_rowI, iR_rowJ, St_rowI, St_rowJ]
    exact ⟨f, hM, fun j hj => by rw [hM, mI_row, hf j hj, if_pos hj]⟩
end

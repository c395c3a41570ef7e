/-! SCALE: the class's call. -/
section
variable {G : GE} {d : Nat} {M M' M'' : Mem} {s : Sn} {kb ra ca : Nat → Nat} {T : Nat → Nat → Int} {g : Nat → Nat} {j n i : Nat}
theorem bW_S (n : Nat) (h : n ≤ 24) : bWt (wS T n) := fun i j => by
  have := wS_b (T := T) (a := i) (b := j) n
  omega
theorem rS_b (tb : ∀ w x, -1 ≤ T w x ∧ T w x ≤ 2792) (x : Nat) : -1000000 ≤ rS T 24 x ∧ rS T 24 x ≤ 1000000 := by
  have h : ∀ w y, -2792 ≤ dT (T w) x y ∧ dT (T w) x y ≤ 2792 := fun w y => by
    have h1 := dT_le (t := T w) (a := x) (b := y) (tb w)
    have h2 := dT_le (t := T w) (a := y) (b := x) (tb w)
    rw [dT_neg] at h2
    have i1 := ind_b (p := eT (T w) x y)
    have i2 := ind_b (p := eT (T w) y x)
    omega
  have h2 : ∀ w, -2792 * 6 ≤ sN (dT (T w) x) 6 ∧ sN (dT (T w) x) 6 ≤ 2792 * 6 := fun w => by
    have := sN_b (f := dT (T w) x) (a := -2792) (b := 2792) 6 (fun y _ => h w y)
    omega
  have := sN_b (f := fun w => sN (dT (T w) x) 6) (a := -2792 * 6) (b := 2792 * 6) 24 (fun w _ => h2 w)
  show -1000000 ≤ sN (fun w => sN (dT (T w) x) 6) 24 ∧ sN (fun w => sN (dT (T w) x) 6) 24 ≤ 1000000
  omega
theorem c228 (hst : (gl G).stackTraces = false) (hS : Static M) (hW : ZW M (wS T 24)) (hR : ZR M (rS T 24)) (hG : ZG M g) (hE : Gi (eS T 24) g) (tb : ∀ w x, -1 ≤ T w x ∧ T w x ≤ 2792) (hj : j < 6) : Ev G (d + 10) 228 [aR (some 110), aI (iZ j)] M 0 (rJ fun v M' => v = jZ (scA T g j) ∧ FZ M M') nX := by
  obtain ⟨n1, n6, hb, hbj⟩ := scN_ (g := g) hj
  have key : ∀ Q : QR, (∀ M', FZ M M' → Q (some (aL (jZ (scA T g j)))) M') → Ev G (d + 10) 228 [aR (some 110), aI (iZ j)] M 0 Q nX := by
    intro Q hQ
    obtain ⟨M0, hM0⟩ : ∃ M0, M0 = rowI M 110 (fu (mI M 110) 5 (iZ 0)) := ⟨_, rfl⟩
    refine Ev_wp 2000 hst (by decide) (Nat.le_of_ble_eq_true rfl) ?_; simp (disch := omega) only [en228, wcQ, wcX, wcG, wcL, wcS, w228_0, w228_1, w228_2, w228_5, w228_6, w228_7, w228_8, h228_9, w228_9, toI, toJ, toI64, inb_T, inb_iZ, Int.toNat_natCast, cl_0, cl_1, cl_2, cl_3, cl_4, cl_5, cl_6, cl_7, cl_8, cl_9, cl_10, cl_11, cl_12, cl_13, cl_14, cl_15, cl_16, cl_17, cl_18, cl_19, cl_20, cl_21, cl_22, cl_23, cl_24, cl_25, cl_26, cl_27, cl_28, cl_29, cl_30, cl_31, cl_32, cl_36, cl_40, cl_48, cl_60, cl_108, cl_120, cl_200, cl_201, cl_576, cl_600, cl_864, cl_900, cl_960, cl_5400, cl_8040, j2_0, iN_iZ, iN_lit0, iZ_add, iZ_sub, iZ_mul, iZ_neg, jZ_add, jZ_sub, jZ_mul, jZ_neg, isB0, isB1, isBZ, eq0, eq1, bZ0, vI_, vJ_, vA_, rI_, rJ_, rA_, rV_, nX_, tX_, true_and, and_true, false_and, and_false, and_self, implies_true, forall_const, not_true_eq_false, not_false_eq_true, false_implies, true_implies, ↓reduceIte, Nat.reduceEqDiff, Int.reduceToNat, Int.reduceAdd, Int.reduceSub, Int.reduceLT, Int.reduceLE, Int.reduceEq, Int.add_zero, Int.neg_zero, Int.add_sub_cancel, Int.reduceNeg, Nat.reduceLeDiff, Nat.reduceSub, true_or, or_true, false_or, or_false, setI_d, setJ_d, setP_d, mI_row, mJ_row, mP_row, mI_row_ne, mJ_row_ne, mP_row_ne, rowI_rowI, rowJ_rowJ, rowI_sort, rowJ_sort, rowJ_rowI, rowP_rowI, rowP_rowJ, fu_app, fu_fu, mI_rowJ, mI_rowP, mJ_rowI, mJ_rowP, mP_rowI, mP_rowJ, mK_rowI, mN_rowI, mK_rowJ, mN_rowJ, mK_rowP, mN_rowP, oB_rowI, oB_rowJ, iA_rowI, iA_rowJ, iR_rowI, iR_rowJ, St_rowI, St_rowJ, O110 hS]
    rw [← hM0]
    have gj6 : g j < 6 := by have := (hE.2.1 j).1; omega
    refine loopN 6 (fun i ls M' => (∃ x, ls = [aR (some 110), aI (iZ j), aI (iZ (if j < i then scB g j else 0 : Nat)), aI (iZ i), x]) ∧ ∃ f, M' = rowI (rowI M 110 (fu (mI M 110) 5 (iZ (mLg g j i).length))) 145 f ∧ ∀ l x : Nat, (mLg g j i)[l]? = some x → f l = iZ x) ⟨⟨_, by rw [if_neg (by omega)]; rfl⟩, mI M0 145, by rw [show rowI M 110 (fu (mI M 110) 5 (iZ ((mLg g j 0).length : Nat))) = M0 from hM0.symm, rowI_mI], fun l x h => by cases h⟩ ?_ ?_
    · intro i hi ls Mi ⟨⟨x, hl⟩, f, hM, hf⟩ K
      subst hl
      have Si : Static Mi := by rw [hM]; exact hS
      have hi' : (i : Int) < 6 := by omega
      have gi : mI Mi 111 i = iZ (g i) := by rw [hM, mI_row_ne (by decide), mI_row_ne (by decide)]; exact hG i hi
      have gj : mI Mi 111 j = iZ (g j) := by rw [hM, mI_row_ne (by decide), mI_row_ne (by decide)]; exact hG j hj
      have gi6 : g i < 6 := by have := (hE.2.1 i).1; omega
      have hc : mI Mi 110 5 = iZ (mLg g j i).length := by rw [hM, mI_row_ne (by decide), mI_row]; exact if_pos rfl
      have ml := mLg_le (g := g) (j := j) i
      have ml6 : (mLg g j i).length < 6 := by omega
      refine wp1_go (n := 2000) ?_
      by_cases w : g i = g j
      · have w' : (g i : Int) = (g j : Int) := by omega
        have J : ∀ (m : Nat) (C : Nat), C = (if j < i + 1 then scB g j else 0) → ∀ x, wp (WCo G (d + 9) 228 Q nX) 228 (m + 300) 40 [aR (some 110), aI (iZ j), aI (iZ C), aI (iZ i), x] [] Mi 0 := by
          intro m C hC x
          simp (disch := omega) only [wcQ, wcX, wcG, wcL, wcS, h228_9, w228_9, w228_40, w228_41, w228_44, w228_45, w228_48, w228_49, w228_50, w228_51, w228_52, w228_55, w228_56, w228_57, w228_60, w228_63, toI, toJ, toI64, inb_T, inb_iZ, Int.toNat_natCast, cl_0, cl_1, cl_2, cl_3, cl_4, cl_5, cl_6, cl_7, cl_8, cl_9, cl_10, cl_11, cl_12, cl_13, cl_14, cl_15, cl_16, cl_17, cl_18, cl_19, cl_20, cl_21, cl_22, cl_23, cl_24, cl_25, cl_26, cl_27, cl_28, cl_29, cl_30, cl_31, cl_32, cl_36, cl_40, cl_48, cl_60, cl_108, cl_120, cl_200, cl_201, cl_576, cl_600, cl_864, cl_900, cl_960, cl_5400, cl_8040, j2_0, iN_iZ, iN_lit0, iZ_add, iZ_sub, iZ_mul, iZ_neg, jZ_add, jZ_sub, jZ_mul, jZ_neg, isB0, isB1, isBZ, eq0, eq1, bZ0, vI_, vJ_, vA_, rI_, rJ_, rA_, rV_, nX_, tX_, true_and, and_true, false_and, and_false, and_self, implies_true, forall_const, not_true_eq_false, not_false_eq_true, false_implies, true_implies, ↓reduceIte, Nat.reduceEqDiff, Int.reduceToNat, Int.reduceAdd, Int.reduceSub, Int.reduceLT, Int.reduceLE, Int.reduceEq, Int.add_zero, Int.neg_zero, Int.add_sub_cancel, Int.reduceNeg, Nat.reduceLeDiff, Nat.reduceSub, true_or, or_true, false_or, or_false, setI_d, setJ_d, setP_d, mI_row, mJ_row, mP_row, mI_row_ne, mJ_row_ne, mP_row_ne, rowI_rowI, rowJ_rowJ, rowI_sort, rowJ_sort, rowJ_rowI, rowP_rowI, rowP_rowJ, fu_app, fu_fu, mI_rowJ, mI_rowP, mJ_rowI, mJ_rowP, mP_rowI, mP_rowJ, mK_rowI, mN_rowI, mK_rowJ, mN_rowJ, mK_rowP, mN_rowP, oB_rowI, oB_rowJ, iA_rowI, iA_rowJ, iR_rowI, iR_rowJ, St_rowI, St_rowJ, O110 Si, P110_4 Si, K145 Si, O145 Si, A145 Si, hc]
          subst hC
          refine K _ _ ⟨⟨_, rfl⟩, fu f (mLg g j i).length (iZ i), ?_, fun l y hy => ?_⟩
          · have e1 : mI Mi 110 = fu (mI M 110) 5 (iZ (mLg g j i).length) := by rw [hM, mI_row_ne (by decide), mI_row]
            have e2 : mI Mi 145 = f := by rw [hM, mI_row]
            have e3 : ((mLg g j (i + 1)).length : Int) = (mLg g j i).length + 1 := by rw [mLg_s, if_pos w, List.length_append]; rfl
            rw [e1, e2, e3, fu_fu, hM]
            first | rw [rowI_sort (a := 145) (b := 110) (by decide), rowI_rowI, rowI_rowI] | rw [rowI_rowI, rowI_sort (a := 145) (b := 110) (by decide), rowI_rowI] | rw [rowI_sort (a := 145) (b := 110) (by decide), rowI_rowI]
          · rw [mLg_s, if_pos w] at hy
            show (if l = (mLg g j i).length then iZ i else f l) = iZ y
            by_cases z : l = (mLg g j i).length
            · subst z
              rw [List.getElem?_append_right (Nat.le_refl _), Nat.sub_self] at hy
              cases hy
              exact if_pos rfl
            · rw [if_neg z]
              have hl : l < (mLg g j i).length := by
                by_cases q : l < (mLg g j i).length
                · exact q
                · have e : (mLg g j i ++ [i])[l]? = none := List.getElem?_eq_none (by rw [List.length_append]; show _ + 1 ≤ _; omega)
                  rw [e] at hy; cases hy
              rw [List.getElem?_append_left hl] at hy
              exact hf l y hy
        by_cases z : i = j
        · have z' : (i : Int) = (j : Int) := by omega
          simp (disch := omega) only [wcQ, wcX, wcG, wcL, wcS, h228_9, w228_9, w228_10, w228_12, w228_15, w228_16, w228_19, w228_20, w228_21, w228_22, w228_25, w228_26, w228_27, w228_30, w228_31, w228_32, w228_35, w228_36, w228_39, toI, toJ, toI64, inb_T, inb_iZ, Int.toNat_natCast, cl_0, cl_1, cl_2, cl_3, cl_4, cl_5, cl_6, cl_7, cl_8, cl_9, cl_10, cl_11, cl_12, cl_13, cl_14, cl_15, cl_16, cl_17, cl_18, cl_19, cl_20, cl_21, cl_22, cl_23, cl_24, cl_25, cl_26, cl_27, cl_28, cl_29, cl_30, cl_31, cl_32, cl_36, cl_40, cl_48, cl_60, cl_108, cl_120, cl_200, cl_201, cl_576, cl_600, cl_864, cl_900, cl_960, cl_5400, cl_8040, j2_0, iN_iZ, iN_lit0, iZ_add, iZ_sub, iZ_mul, iZ_neg, jZ_add, jZ_sub, jZ_mul, jZ_neg, isB0, isB1, isBZ, eq0, eq1, bZ0, vI_, vJ_, vA_, rI_, rJ_, rA_, rV_, nX_, tX_, true_and, and_true, false_and, and_false, and_self, implies_true, forall_const, not_true_eq_false, not_false_eq_true, false_implies, true_implies, ↓reduceIte, Nat.reduceEqDiff, Int.reduceToNat, Int.reduceAdd, Int.reduceSub, Int.reduceLT, Int.reduceLE, Int.reduceEq, Int.add_zero, Int.neg_zero, Int.add_sub_cancel, Int.reduceNeg, Nat.reduceLeDiff, Nat.reduceSub, true_or, or_true, false_or, or_false, setI_d, setJ_d, setP_d, mI_row, mJ_row, mP_row, mI_row_ne, mJ_row_ne, mP_row_ne, rowI_rowI, rowJ_rowJ, rowI_sort, rowJ_sort, rowJ_rowI, rowP_rowI, rowP_rowJ, fu_app, fu_fu, mI_rowJ, mI_rowP, mJ_rowI, mJ_rowP, mP_rowI, mP_rowJ, mK_rowI, mN_rowI, mK_rowJ, mN_rowJ, mK_rowP, mN_rowP, oB_rowI, oB_rowJ, iA_rowI, iA_rowJ, iR_rowI, iR_rowJ, St_rowI, St_rowJ, O110 Si, P110_0 Si, K111 Si, O111 Si, A111 Si, gi, gj, hi', eq_true w', eq_true z', hc]
          exact J _ _ (by rw [if_pos (by omega), z]) _
        · have z' : ¬ (i : Int) = (j : Int) := by omega
          simp (disch := omega) only [wcQ, wcX, wcG, wcL, wcS, h228_9, w228_9, w228_10, w228_12, w228_15, w228_16, w228_19, w228_20, w228_21, w228_22, w228_25, w228_26, w228_27, w228_30, w228_31, w228_32, toI, toJ, toI64, inb_T, inb_iZ, Int.toNat_natCast, cl_0, cl_1, cl_2, cl_3, cl_4, cl_5, cl_6, cl_7, cl_8, cl_9, cl_10, cl_11, cl_12, cl_13, cl_14, cl_15, cl_16, cl_17, cl_18, cl_19, cl_20, cl_21, cl_22, cl_23, cl_24, cl_25, cl_26, cl_27, cl_28, cl_29, cl_30, cl_31, cl_32, cl_36, cl_40, cl_48, cl_60, cl_108, cl_120, cl_200, cl_201, cl_576, cl_600, cl_864, cl_900, cl_960, cl_5400, cl_8040, j2_0, iN_iZ, iN_lit0, iZ_add, iZ_sub, iZ_mul, iZ_neg, jZ_add, jZ_sub, jZ_mul, jZ_neg, isB0, isB1, isBZ, eq0, eq1, bZ0, vI_, vJ_, vA_, rI_, rJ_, rA_, rV_, nX_, tX_, true_and, and_true, false_and, and_false, and_self, implies_true, forall_const, not_true_eq_false, not_false_eq_true, false_implies, true_implies, ↓reduceIte, Nat.reduceEqDiff, Int.reduceToNat, Int.reduceAdd, Int.reduceSub, Int.reduceLT, Int.reduceLE, Int.reduceEq, Int.add_zero, Int.neg_zero, Int.add_sub_cancel, Int.reduceNeg, Nat.reduceLeDiff, Nat.reduceSub, true_or, or_true, false_or, or_false, setI_d, setJ_d, setP_d, mI_row, mJ_row, mP_row, mI_row_ne, mJ_row_ne, mP_row_ne, rowI_rowI, rowJ_rowJ, rowI_sort, rowJ_sort, rowJ_rowI, rowP_rowI, rowP_rowJ, fu_app, fu_fu, mI_rowJ, mI_rowP, mJ_rowI, mJ_rowP, mP_rowI, mP_rowJ, mK_rowI, mN_rowI, mK_rowJ, mN_rowJ, mK_rowP, mN_rowP, oB_rowI, oB_rowJ, iA_rowI, iA_rowJ, iR_rowI, iR_rowJ, St_rowI, St_rowJ, O110 Si, P110_0 Si, K111 Si, O111 Si, A111 Si, gi, gj, hi', eq_true w', z', hc]
          refine J _ _ ?_ _
          by_cases q : j < i
          · rw [if_pos q, if_pos (by omega)]
          · rw [if_neg q, if_neg (by omega)]
      · have w' : ¬ (g i : Int) = (g j : Int) := by omega
        have hij : i ≠ j := fun z => w (by rw [z])
        simp (disch := omega) only [wcQ, wcX, wcG, wcL, wcS, h228_9, w228_9, w228_10, w228_12, w228_15, w228_16, w228_19, w228_20, w228_21, w228_22, w228_25, w228_26, w228_27, w228_60, w228_63, toI, toJ, toI64, inb_T, inb_iZ, Int.toNat_natCast, cl_0, cl_1, cl_2, cl_3, cl_4, cl_5, cl_6, cl_7, cl_8, cl_9, cl_10, cl_11, cl_12, cl_13, cl_14, cl_15, cl_16, cl_17, cl_18, cl_19, cl_20, cl_21, cl_22, cl_23, cl_24, cl_25, cl_26, cl_27, cl_28, cl_29, cl_30, cl_31, cl_32, cl_36, cl_40, cl_48, cl_60, cl_108, cl_120, cl_200, cl_201, cl_576, cl_600, cl_864, cl_900, cl_960, cl_5400, cl_8040, j2_0, iN_iZ, iN_lit0, iZ_add, iZ_sub, iZ_mul, iZ_neg, jZ_add, jZ_sub, jZ_mul, jZ_neg, isB0, isB1, isBZ, eq0, eq1, bZ0, vI_, vJ_, vA_, rI_, rJ_, rA_, rV_, nX_, tX_, true_and, and_true, false_and, and_false, and_self, implies_true, forall_const, not_true_eq_false, not_false_eq_true, false_implies, true_implies, ↓reduceIte, Nat.reduceEqDiff, Int.reduceToNat, Int.reduceAdd, Int.reduceSub, Int.reduceLT, Int.reduceLE, Int.reduceEq, Int.add_zero, Int.neg_zero, Int.add_sub_cancel, Int.reduceNeg, Nat.reduceLeDiff, Nat.reduceSub, true_or, or_true, false_or, or_false, setI_d, setJ_d, setP_d, mI_row, mJ_row, mP_row, mI_row_ne, mJ_row_ne, mP_row_ne, rowI_rowI, rowJ_rowJ, rowI_sort, rowJ_sort, rowJ_rowI, rowP_rowI, rowP_rowJ, fu_app, fu_fu, mI_rowJ, mI_rowP, mJ_rowI, mJ_rowP, mP_rowI, mP_rowJ, mK_rowI, mN_rowI, mK_rowJ, mN_rowJ, mK_rowP, mN_rowP, oB_rowI, oB_rowJ, iA_rowI, iA_rowJ, iR_rowI, iR_rowJ, St_rowI, St_rowJ, O110 Si, P110_0 Si, K111 Si, O111 Si, A111 Si, gi, gj, hi', w']
        refine K _ _ ⟨⟨x, ?_⟩, f, by rw [mLg_s, if_neg w]; exact hM, by rw [mLg_s, if_neg w]; exact hf⟩
        by_cases q : j < i
        · rw [if_pos q, if_pos (by omega)]; rfl
        · rw [if_neg q, if_neg (by omega)]; rfl
    · intro ls Mi ⟨⟨x, hl⟩, f, hM, hf⟩
      subst hl
      rw [if_pos hj]
      have hm : ZM Mi (scN g j) (msG g j) := by
        refine ⟨?_, n6, fun i hi => ⟨?_, (ms_m hi).1⟩⟩
        · rw [hM, mI_row_ne (by decide), mI_row]; exact if_pos rfl
        · rw [hM, mI_row]; exact hf i _ (getD_s hi)
      have Fi : FZ M Mi := by rw [hM]; exact FZ_tr (FZ_row (by omega) (by omega)) (FZ_row (by omega) (by omega))
      have Si := FZ_S Fi hS
      have Wi : ZW Mi (wS T 24) := by rw [hM]; exact ZW_ne (by omega) (ZW_ne (by omega) hW)
      have Ri : ZR Mi (rS T 24) := by rw [hM]; exact ZR_ne (by omega) (ZR_ne (by omega) hR)
      have e1 := c227 (G := G) (d := d + (6 - scN g j)) (M := Mi) hst Si Wi Ri (bW_S 24 (Nat.le_refl _)) (rS_b tb) hm (b := -1) (by omega) (by omega) (scN g j) (Nat.le_refl _) 0 (by omega)
      have e2 := c227 (G := G) (d := d + (6 - scN g j)) (M := Mi) hst Si Wi Ri (bW_S 24 (Nat.le_refl _)) (rS_b tb) hm (b := (scB g j : Int)) (by omega) (by omega) (scN g j) (Nat.le_refl _) 0 (by omega)
      rw [Dt_class hE, Nat.sub_self, show d + (6 - scN g j) + scN g j + 3 = d + 9 from by omega] at e1
      rw [Dt_class2 hE, Nat.sub_self, show d + (6 - scN g j) + scN g j + 3 = d + 9 from by omega] at e2
      obtain ⟨s1, ⟨s2, s3⟩, s4, s5, _⟩ := sc_div hE tb hj
      have hq := hQ Mi Fi
      rw [← s1] at hq
      generalize yb (scN g j) (scB g j) (WG T g j) (rG T g j) = Y at *
      generalize wD (scN g j) (WG T g j) = D at *
      have e3 := jd15 (G := G) (d := d + 8) (M := Mi) (x := 1000 * Y) (y := D) hst s2 s3 s4 s5
      have D0 : ¬ D = 0 := by omega
      refine wp1_go (n := 2000) ?_
      simp (disch := omega) only [wcQ, wcX, wcG, wcL, wcS, h228_9, w228_9, w228_10, w228_12, w228_66, w228_67, w228_68, w228_69, w228_70, toI, toJ, toI64, inb_T, inb_iZ, Int.toNat_natCast, cl_0, cl_1, cl_2, cl_3, cl_4, cl_5, cl_6, cl_7, cl_8, cl_9, cl_10, cl_11, cl_12, cl_13, cl_14, cl_15, cl_16, cl_17, cl_18, cl_19, cl_20, cl_21, cl_22, cl_23, cl_24, cl_25, cl_26, cl_27, cl_28, cl_29, cl_30, cl_31, cl_32, cl_36, cl_40, cl_48, cl_60, cl_108, cl_120, cl_200, cl_201, cl_576, cl_600, cl_864, cl_900, cl_960, cl_5400, cl_8040, j2_0, iN_iZ, iN_lit0, iZ_add, iZ_sub, iZ_mul, iZ_neg, jZ_add, jZ_sub, jZ_mul, jZ_neg, isB0, isB1, isBZ, eq0, eq1, bZ0, vI_, vJ_, vA_, rI_, rJ_, rA_, rV_, nX_, tX_, true_and, and_true, false_and, and_false, and_self, implies_true, forall_const, not_true_eq_false, not_false_eq_true, false_implies, true_implies, ↓reduceIte, Nat.reduceEqDiff, Int.reduceToNat, Int.reduceAdd, Int.reduceSub, Int.reduceLT, Int.reduceLE, Int.reduceEq, Int.add_zero, Int.neg_zero, Int.add_sub_cancel, Int.reduceNeg, Nat.reduceLeDiff, Nat.reduceSub, true_or, or_true, false_or, or_false, setI_d, setJ_d, setP_d, mI_row, mJ_row, mP_row, mI_row_ne, mJ_row_ne, mP_row_ne, rowI_rowI, rowJ_rowJ, rowI_sort, rowJ_sort, rowJ_rowI, rowP_rowI, rowP_rowJ, fu_app, fu_fu, mI_rowJ, mI_rowP, mJ_rowI, mJ_rowP, mP_rowI, mP_rowJ, mK_rowI, mN_rowI, mK_rowJ, mN_rowJ, mK_rowP, mN_rowP, oB_rowI, oB_rowJ, iA_rowI, iA_rowJ, iR_rowI, iR_rowJ, St_rowI, St_rowJ, O110 Si]
      refine kJ0 e1 ?_
      simp (disch := omega) only [wcQ, wcX, wcG, wcL, wcS, w228_73, w228_74, w228_75, w228_76, w228_77, w228_84, w228_87, w228_88, w228_89, w228_90, w228_91, toI, toJ, toI64, inb_T, inb_iZ, Int.toNat_natCast, cl_0, cl_1, cl_2, cl_3, cl_4, cl_5, cl_6, cl_7, cl_8, cl_9, cl_10, cl_11, cl_12, cl_13, cl_14, cl_15, cl_16, cl_17, cl_18, cl_19, cl_20, cl_21, cl_22, cl_23, cl_24, cl_25, cl_26, cl_27, cl_28, cl_29, cl_30, cl_31, cl_32, cl_36, cl_40, cl_48, cl_60, cl_108, cl_120, cl_200, cl_201, cl_576, cl_600, cl_864, cl_900, cl_960, cl_5400, cl_8040, j2_0, iN_iZ, iN_lit0, iZ_add, iZ_sub, iZ_mul, iZ_neg, jZ_add, jZ_sub, jZ_mul, jZ_neg, isB0, isB1, isBZ, eq0, eq1, bZ0, vI_, vJ_, vA_, rI_, rJ_, rA_, rV_, nX_, tX_, true_and, and_true, false_and, and_false, and_self, implies_true, forall_const, not_true_eq_false, not_false_eq_true, false_implies, true_implies, ↓reduceIte, Nat.reduceEqDiff, Int.reduceToNat, Int.reduceAdd, Int.reduceSub, Int.reduceLT, Int.reduceLE, Int.reduceEq, Int.add_zero, Int.neg_zero, Int.add_sub_cancel, Int.reduceNeg, Nat.reduceLeDiff, Nat.reduceSub, true_or, or_true, false_or, or_false, setI_d, setJ_d, setP_d, mI_row, mJ_row, mP_row, mI_row_ne, mJ_row_ne, mP_row_ne, rowI_rowI, rowJ_rowJ, rowI_sort, rowJ_sort, rowJ_rowI, rowP_rowI, rowP_rowJ, fu_app, fu_fu, mI_rowJ, mI_rowP, mJ_rowI, mJ_rowP, mP_rowI, mP_rowJ, mK_rowI, mN_rowI, mK_rowJ, mN_rowJ, mK_rowP, mN_rowP, oB_rowI, oB_rowJ, iA_rowI, iA_rowJ, iR_rowI, iR_rowJ, St_rowI, St_rowJ, O110 Si, cmp0, D0]
      refine kJ0 e2 ?_
      simp (disch := omega) only [wcQ, wcX, wcG, wcL, wcS, w228_94, w228_95, w228_96, toI, toJ, toI64, inb_T, inb_iZ, Int.toNat_natCast, cl_0, cl_1, cl_2, cl_3, cl_4, cl_5, cl_6, cl_7, cl_8, cl_9, cl_10, cl_11, cl_12, cl_13, cl_14, cl_15, cl_16, cl_17, cl_18, cl_19, cl_20, cl_21, cl_22, cl_23, cl_24, cl_25, cl_26, cl_27, cl_28, cl_29, cl_30, cl_31, cl_32, cl_36, cl_40, cl_48, cl_60, cl_108, cl_120, cl_200, cl_201, cl_576, cl_600, cl_864, cl_900, cl_960, cl_5400, cl_8040, j2_0, iN_iZ, iN_lit0, iZ_add, iZ_sub, iZ_mul, iZ_neg, jZ_add, jZ_sub, jZ_mul, jZ_neg, isB0, isB1, isBZ, eq0, eq1, bZ0, vI_, vJ_, vA_, rI_, rJ_, rA_, rV_, nX_, tX_, true_and, and_true, false_and, and_false, and_self, implies_true, forall_const, not_true_eq_false, not_false_eq_true, false_implies, true_implies, ↓reduceIte, Nat.reduceEqDiff, Int.reduceToNat, Int.reduceAdd, Int.reduceSub, Int.reduceLT, Int.reduceLE, Int.reduceEq, Int.add_zero, Int.neg_zero, Int.add_sub_cancel, Int.reduceNeg, Nat.reduceLeDiff, Nat.reduceSub, true_or, or_true, false_or, or_false, setI_d, setJ_d, setP_d, mI_row, mJ_row, mP_row, mI_row_ne, mJ_row_ne, mP_row_ne, rowI_rowI, rowJ_rowJ, rowI_sort, rowJ_sort, rowJ_rowI, rowP_rowI, rowP_rowJ, fu_app, fu_fu, mI_rowJ, mI_rowP, mJ_rowI, mJ_rowP, mP_rowI, mP_rowJ, mK_rowI, mN_rowI, mK_rowJ, mN_rowJ, mK_rowP, mN_rowP, oB_rowI, oB_rowJ, iA_rowI, iA_rowJ, iR_rowI, iR_rowJ, St_rowI, St_rowJ]
      refine kJ0 e3 ?_
      simp (disch := omega) only [wcQ, wcX, wcG, wcL, wcS, w228_99, toI, toJ, toI64, inb_T, inb_iZ, Int.toNat_natCast, cl_0, cl_1, cl_2, cl_3, cl_4, cl_5, cl_6, cl_7, cl_8, cl_9, cl_10, cl_11, cl_12, cl_13, cl_14, cl_15, cl_16, cl_17, cl_18, cl_19, cl_20, cl_21, cl_22, cl_23, cl_24, cl_25, cl_26, cl_27, cl_28, cl_29, cl_30, cl_31, cl_32, cl_36, cl_40, cl_48, cl_60, cl_108, cl_120, cl_200, cl_201, cl_576, cl_600, cl_864, cl_900, cl_960, cl_5400, cl_8040, j2_0, iN_iZ, iN_lit0, iZ_add, iZ_sub, iZ_mul, iZ_neg, jZ_add, jZ_sub, jZ_mul, jZ_neg, isB0, isB1, isBZ, eq0, eq1, bZ0, vI_, vJ_, vA_, rI_, rJ_, rA_, rV_, nX_, tX_, true_and, and_true, false_and, and_false, and_self, implies_true, forall_const, not_true_eq_false, not_false_eq_true, false_implies, true_implies, ↓reduceIte, Nat.reduceEqDiff, Int.reduceToNat, Int.reduceAdd, Int.reduceSub, Int.reduceLT, Int.reduceLE, Int.reduceEq, Int.add_zero, Int.neg_zero, Int.add_sub_cancel, Int.reduceNeg, Nat.reduceLeDiff, Nat.reduceSub, true_or, or_true, false_or, or_false, setI_d, setJ_d, setP_d, mI_row, mJ_row, mP_row, mI_row_ne, mJ_row_ne, mP_row_ne, rowI_rowI, rowJ_rowJ, rowI_sort, rowJ_sort, rowJ_rowI, rowP_rowI, rowP_rowJ, fu_app, fu_fu, mI_rowJ, mI_rowP, mJ_rowI, mJ_rowP, mP_rowI, mP_rowJ, mK_rowI, mN_rowI, mK_rowJ, mN_rowJ, mK_rowP, mN_rowP, oB_rowI, oB_rowJ, iA_rowI, iA_rowJ, iR_rowI, iR_rowJ, St_rowI, St_rowJ]
      exact hq
  exact key _ (fun M' h => ⟨_, rfl, rfl, h⟩)
end

/-! SCALE: scaleOf of the reference. -/
section
variable {G : GE} {d : Nat} {M M' M'' : Mem} {T : Nat → Nat → Int} {g : Nat → Nat} {j n i l m b Jn : Nat} {W : Nat → Nat → Int} {r : Nat → Int}
theorem mLg_tail {k : Nat} (h : ∀ x, k ≤ x → x < n → g x ≠ g j) (hk : k ≤ n) : mLg g j n = mLg g j k := by
  induction n with
  | zero => rw [show k = 0 from by omega]
  | succ n ih =>
    by_cases z : k = n + 1
    · rw [z]
    · rw [mLg_s, if_neg (h n (by omega) (by omega)), ih (fun x h1 h2 => h x h1 (by omega)) (by omega)]
theorem tail_no (hE : Gi (eS T 24) g) (tJ : ∀ w x, Jn ≤ x → T w x = -1) (hj : j < Jn) {x : Nat} (hx : Jn ≤ x) : g x ≠ g j := fun e => by
  have key := hE.2.2 (fun x => if x < Jn then 0 else x + 1) (fun a b ⟨w, _, _, z⟩ => by
    have h1 : a < Jn := by
      apply Classical.byContradiction
      intro q; exact z.2.1 (tJ w a (by omega))
    have h2 : b < Jn := by
      apply Classical.byContradiction
      intro q; exact z.2.2 (tJ w b (by omega))
    show (if a < Jn then 0 else a + 1) = (if b < Jn then 0 else b + 1)
    rw [if_pos h1, if_pos h2])
  have k1 := key x
  have k2 := key j
  rw [e] at k1
  have k3 : (if x < Jn then 0 else x + 1) = (if j < Jn then 0 else j + 1) := k1.symm.trans k2
  rw [if_neg (by omega), if_pos hj] at k3
  cases k3
theorem scA_1 (h : scN g j = 1) (hj : j < 6) : scA T g j = 0 := by
  obtain ⟨_, _, hb, _⟩ := scN_ (g := g) hj
  have b0 : scB g j = 0 := by omega
  unfold scA scV
  rw [h, b0]
  have z0 : Zc (1 - 1) (WG T g j) (rG T g j) 0 = 0 := Zc_l
  show (1000 * (1 * Zc (1 - 1) (WG T g j) (rG T g j) 0 - (Zc (1 - 1) (WG T g j) (rG T g j) 0 + 0))) / _ = 0
  rw [z0]
  exact Int.zero_ediv _
theorem Lf_b (hi : i < scN g j) (hE : Gi (eS T 24) g) : -1000 ≤ Lf (scN g j) (WG T g j) i l ∧ Lf (scN g j) (WG T g j) i l ≤ 1000 := by
  show -1000 ≤ (if i = l then 0 + sl (List.range (scN g j)) (WG T g j i) else - WG T g j i l) ∧ (if i = l then 0 + sl (List.range (scN g j)) (WG T g j i) else - WG T g j i l) ≤ 1000
  have h1 := wS_b (T := T) (a := msG g j i) (b := msG g j l) 24
  have h2 := sN_b (f := wS T 24 (msG g j i)) (a := 0) (b := 24) 6 (fun x _ => wS_b 24)
  rw [WG_met hE hi]
  show -1000 ≤ (if i = l then 0 + sN (wS T 24 (msG g j i)) 6 else - wS T 24 (msG g j i) (msG g j l)) ∧ (if i = l then 0 + sN (wS T 24 (msG g j i)) 6 else - wS T 24 (msG g j i) (msG g j l)) ≤ 1000
  split <;> omega
theorem so_Z (hL : ∀ i l, i < m + 1 → l < m + 1 → LmX M i l = Lf (m + 1) (WG T g j) i l) : soA M (rS T 24) (msG g j) m b = Zc m (WG T g j) (rG T g j) b := by
  unfold soA Zc zi
  by_cases h : b < m
  · rw [if_pos h, if_pos h]
    congr 1
    refine Ex_congr (fun a s ha _ hs => ?_)
    show rS T 24 (msG g j a) * _ = rG T g j a * _
    congr 1
    refine Dt_congr2 _ _ (fun v hv x hx => hL v x ?_ ?_)
    · rcases hs v hv with z | z
      · cases z
      · have := List.mem_range.mp z; omega
    · rcases List.mem_append.mp hx with z | z
      · have := List.mem_range.mp z; omega
      · have := List.mem_range'_1.mp z; omega
  · rw [if_neg h, if_neg h]
theorem dR_D (hL : ∀ i l, i < m + 1 → l < m + 1 → LmX M i l = Lf (m + 1) W i l) : Dt (List.range m) ((List.range m).map (LmX M)) = dR m W := by
  unfold dR
  exact Dt_congr2 _ _ (fun v hv x hx => hL v x (by have := List.mem_range.mp hv; omega) (by have := List.mem_range.mp hx; omega))
theorem c95 (hst : (gl G).stackTraces = false) (hS : Static M) (hW : XW M (wS T 24)) (hR : XR M (rS T 24)) (hG : XG M g) (hH : XH M (fun x => sN (wS T 24 x) 6)) (hE : Gi (eS T 24) g) (tb : ∀ w x, -1 ≤ T w x ∧ T w x ≤ 2792) (tJ : ∀ w x, Jn ≤ x → T w x = -1) (hJn : mI M 154 4 = iZ Jn) (j6 : Jn ≤ 6) (hj : j < Jn) : Ev G (d + 9) 95 [aR (some 154), aI (iZ j)] M 0 (rJ fun v M' => v = jZ (scA T g j) ∧ FQ M M') nX := by
  obtain ⟨n1, n6, hb, hbj⟩ := scN_ (g := g) (j := j) (by omega)
  have hJL : mLg g j 6 = mLg g j Jn := mLg_tail (fun x h1 _ => tail_no hE tJ hj h1) j6
  have key : ∀ Q : QR, (∀ M', FQ M M' → Q (some (aL (jZ (scA T g j)))) M') → Ev G (d + 9) 95 [aR (some 154), aI (iZ j)] M 0 Q nX := by
    intro Q hQ
    refine Ev_wp 2000 hst (by decide) (Nat.le_of_ble_eq_true rfl) ?_; simp (disch := omega) only [en95, wcQ, wcX, wcG, wcL, wcS, w95_0, w95_1, w95_2, w95_3, w95_4, w95_5, h95_7, w95_7, toI, toJ, toI64, inb_T, inb_iZ, Int.toNat_natCast, cl_0, cl_1, cl_2, cl_3, cl_4, cl_5, cl_6, cl_7, cl_8, cl_9, cl_10, cl_11, cl_12, cl_13, cl_14, cl_15, cl_16, cl_17, cl_18, cl_19, cl_20, cl_21, cl_22, cl_23, cl_24, cl_25, cl_26, cl_27, cl_28, cl_29, cl_30, cl_31, cl_32, cl_36, cl_40, cl_48, cl_60, cl_108, cl_120, cl_200, cl_201, cl_576, cl_600, cl_864, cl_900, cl_960, cl_5400, cl_8040, j2_0, iN_iZ, iN_lit0, iZ_add, iZ_sub, iZ_mul, iZ_neg, jZ_add, jZ_sub, jZ_mul, jZ_neg, isB0, isB1, isBZ, eq0, eq1, bZ0, vI_, vJ_, vA_, rI_, rJ_, rA_, rV_, nX_, tX_, true_and, and_true, false_and, and_false, and_self, implies_true, forall_const, not_true_eq_false, not_false_eq_true, false_implies, true_implies, ↓reduceIte, Nat.reduceEqDiff, Int.reduceToNat, Int.reduceAdd, Int.reduceSub, Int.reduceLT, Int.reduceLE, Int.reduceEq, Int.add_zero, Int.neg_zero, Int.add_sub_cancel, Int.reduceNeg, Nat.reduceLeDiff, Nat.reduceSub, true_or, or_true, false_or, or_false, setI_d, setJ_d, setP_d, mI_row, mJ_row, mP_row, mI_row_ne, mJ_row_ne, mP_row_ne, rowI_rowI, rowJ_rowJ, rowI_sort, rowJ_sort, rowJ_rowI, rowP_rowI, rowP_rowJ, fu_app, fu_fu, mI_rowJ, mI_rowP, mJ_rowI, mJ_rowP, mP_rowI, mP_rowJ, mK_rowI, mN_rowI, mK_rowJ, mN_rowJ, mK_rowP, mN_rowP, oB_rowI, oB_rowJ, iA_rowI, iA_rowJ, iR_rowI, iR_rowJ, St_rowI, St_rowJ]
    have gj6 : g j < 6 := by have := (hE.2.1 j).1; omega
    refine loopN Jn (fun i ls M' => (∃ x1 x2 x3 x4 x5, ls = [aR (some 154), aI (iZ j), aI (iZ (mLg g j i).length), aI (iZ (if j < i then scB g j else 0 : Nat)), aI (iZ i), x1, x2, x3, x4, x5]) ∧ ∃ f, M' = rowI M 220 f ∧ ∀ l x : Nat, (mLg g j i)[l]? = some x → f l = iZ x) ⟨⟨_, _, _, _, _, by rw [if_neg (by omega)]; rfl⟩, mI M 220, rowI_mI.symm, fun l x h => by cases h⟩ ?_ ?_
    · intro i hi ls Mi ⟨⟨x1, x2, x3, x4, x5, hl⟩, f, hM, hf⟩ K
      subst hl
      have Si : Static Mi := by rw [hM]; exact hS
      have hi' : (i : Int) < Jn := by omega
      have gJ : mI Mi 154 4 = iZ Jn := by rw [hM, mI_row_ne (by decide)]; exact hJn
      have gi : mI Mi 218 i = iZ (g i) := by rw [hM, mI_row_ne (by decide)]; exact hG i (by omega)
      have gj : mI Mi 218 j = iZ (g j) := by rw [hM, mI_row_ne (by decide)]; exact hG j (by omega)
      have gi6 : g i < 6 := by have := (hE.2.1 i).1; omega
      have ml := mLg_le (g := g) (j := j) i
      have ml6 : (mLg g j i).length < 6 := by omega
      refine wp1_go (n := 2000) ?_
      by_cases w : g i = g j
      · have w' : (g i : Int) = (g j : Int) := by omega
        have J : ∀ (m : Nat) (C : Nat), C = (if j < i + 1 then scB g j else 0) → wp (WCo G (d + 8) 95 Q nX) 95 (m + 300) 46 [aR (some 154), aI (iZ j), aI (iZ (mLg g j i).length), aI (iZ (if j < i then scB g j else 0 : Nat)), aI (iZ i), x1, x2, x3, x4, x5] [aI (iZ C)] Mi 0 := by
          intro m C hC
          simp (disch := omega) only [wcQ, wcX, wcG, wcL, wcS, h95_7, w95_7, w95_46, w95_47, w95_48, w95_51, w95_52, w95_54, w95_55, w95_58, w95_61, toI, toJ, toI64, inb_T, inb_iZ, Int.toNat_natCast, cl_0, cl_1, cl_2, cl_3, cl_4, cl_5, cl_6, cl_7, cl_8, cl_9, cl_10, cl_11, cl_12, cl_13, cl_14, cl_15, cl_16, cl_17, cl_18, cl_19, cl_20, cl_21, cl_22, cl_23, cl_24, cl_25, cl_26, cl_27, cl_28, cl_29, cl_30, cl_31, cl_32, cl_36, cl_40, cl_48, cl_60, cl_108, cl_120, cl_200, cl_201, cl_576, cl_600, cl_864, cl_900, cl_960, cl_5400, cl_8040, j2_0, iN_iZ, iN_lit0, iZ_add, iZ_sub, iZ_mul, iZ_neg, jZ_add, jZ_sub, jZ_mul, jZ_neg, isB0, isB1, isBZ, eq0, eq1, bZ0, vI_, vJ_, vA_, rI_, rJ_, rA_, rV_, nX_, tX_, true_and, and_true, false_and, and_false, and_self, implies_true, forall_const, not_true_eq_false, not_false_eq_true, false_implies, true_implies, ↓reduceIte, Nat.reduceEqDiff, Int.reduceToNat, Int.reduceAdd, Int.reduceSub, Int.reduceLT, Int.reduceLE, Int.reduceEq, Int.add_zero, Int.neg_zero, Int.add_sub_cancel, Int.reduceNeg, Nat.reduceLeDiff, Nat.reduceSub, true_or, or_true, false_or, or_false, setI_d, setJ_d, setP_d, mI_row, mJ_row, mP_row, mI_row_ne, mJ_row_ne, mP_row_ne, rowI_rowI, rowJ_rowJ, rowI_sort, rowJ_sort, rowJ_rowI, rowP_rowI, rowP_rowJ, fu_app, fu_fu, mI_rowJ, mI_rowP, mJ_rowI, mJ_rowP, mP_rowI, mP_rowJ, mK_rowI, mN_rowI, mK_rowJ, mN_rowJ, mK_rowP, mN_rowP, oB_rowI, oB_rowJ, iA_rowI, iA_rowJ, iR_rowI, iR_rowJ, St_rowI, St_rowJ, K154 Si, O154 Si, P154_89 Si, K220 Si, O220 Si, A220 Si]
          subst hC
          refine K _ _ ⟨⟨x1, x2, x3, x4, x5, ?_⟩, fu f (mLg g j i).length (iZ i), by rw [hM, mI_row, rowI_rowI], fun l y hy => ?_⟩
          · have e3 : ((mLg g j (i + 1)).length : Int) = (mLg g j i).length + 1 := by rw [mLg_s, if_pos w, List.length_append]; rfl
            rw [e3]; rfl
          · rw [mLg_s, if_pos w] at hy
            show (if l = (mLg g j i).length then iZ i else f l) = iZ y
            by_cases z : l = (mLg g j i).length
            · subst z
              rw [List.getElem?_append_right (Nat.le_refl _), Nat.sub_self] at hy
              cases hy
              exact if_pos rfl
            · rw [if_neg z]
              have hl : l < (mLg g j i).length := by
                by_cases q : l < (mLg g j i).length
                · exact q
                · have e : (mLg g j i ++ [i])[l]? = none := List.getElem?_eq_none (by rw [List.length_append]; show _ + 1 ≤ _; omega)
                  rw [e] at hy; cases hy
              rw [List.getElem?_append_left hl] at hy
              exact hf l y hy
        by_cases z : i = j
        · have z' : (i : Int) = (j : Int) := by omega
          simp (disch := omega) only [wcQ, wcX, wcG, wcL, wcS, h95_7, w95_7, w95_9, w95_10, w95_13, w95_16, w95_17, w95_20, w95_22, w95_23, w95_24, w95_27, w95_28, w95_29, w95_35, w95_37, w95_38, w95_41, w95_42, toI, toJ, toI64, inb_T, inb_iZ, Int.toNat_natCast, cl_0, cl_1, cl_2, cl_3, cl_4, cl_5, cl_6, cl_7, cl_8, cl_9, cl_10, cl_11, cl_12, cl_13, cl_14, cl_15, cl_16, cl_17, cl_18, cl_19, cl_20, cl_21, cl_22, cl_23, cl_24, cl_25, cl_26, cl_27, cl_28, cl_29, cl_30, cl_31, cl_32, cl_36, cl_40, cl_48, cl_60, cl_108, cl_120, cl_200, cl_201, cl_576, cl_600, cl_864, cl_900, cl_960, cl_5400, cl_8040, j2_0, iN_iZ, iN_lit0, iZ_add, iZ_sub, iZ_mul, iZ_neg, jZ_add, jZ_sub, jZ_mul, jZ_neg, isB0, isB1, isBZ, eq0, eq1, bZ0, vI_, vJ_, vA_, rI_, rJ_, rA_, rV_, nX_, tX_, true_and, and_true, false_and, and_false, and_self, implies_true, forall_const, not_true_eq_false, not_false_eq_true, false_implies, true_implies, ↓reduceIte, Nat.reduceEqDiff, Int.reduceToNat, Int.reduceAdd, Int.reduceSub, Int.reduceLT, Int.reduceLE, Int.reduceEq, Int.add_zero, Int.neg_zero, Int.add_sub_cancel, Int.reduceNeg, Nat.reduceLeDiff, Nat.reduceSub, true_or, or_true, false_or, or_false, setI_d, setJ_d, setP_d, mI_row, mJ_row, mP_row, mI_row_ne, mJ_row_ne, mP_row_ne, rowI_rowI, rowJ_rowJ, rowI_sort, rowJ_sort, rowJ_rowI, rowP_rowI, rowP_rowJ, fu_app, fu_fu, mI_rowJ, mI_rowP, mJ_rowI, mJ_rowP, mP_rowI, mP_rowJ, mK_rowI, mN_rowI, mK_rowJ, mN_rowJ, mK_rowP, mN_rowP, oB_rowI, oB_rowJ, iA_rowI, iA_rowJ, iR_rowI, iR_rowJ, St_rowI, St_rowJ, K154 Si, O154 Si, P154_87 Si, K218 Si, O218 Si, A218 Si, gJ, gi, gj, hi', eq_true w', eq_true z']
          exact J _ _ (by rw [if_pos (by omega), z])
        · have z' : ¬ (i : Int) = (j : Int) := by omega
          simp (disch := omega) only [wcQ, wcX, wcG, wcL, wcS, h95_7, w95_7, w95_9, w95_10, w95_13, w95_16, w95_17, w95_20, w95_22, w95_23, w95_24, w95_27, w95_28, w95_29, w95_35, w95_37, w95_38, w95_45, toI, toJ, toI64, inb_T, inb_iZ, Int.toNat_natCast, cl_0, cl_1, cl_2, cl_3, cl_4, cl_5, cl_6, cl_7, cl_8, cl_9, cl_10, cl_11, cl_12, cl_13, cl_14, cl_15, cl_16, cl_17, cl_18, cl_19, cl_20, cl_21, cl_22, cl_23, cl_24, cl_25, cl_26, cl_27, cl_28, cl_29, cl_30, cl_31, cl_32, cl_36, cl_40, cl_48, cl_60, cl_108, cl_120, cl_200, cl_201, cl_576, cl_600, cl_864, cl_900, cl_960, cl_5400, cl_8040, j2_0, iN_iZ, iN_lit0, iZ_add, iZ_sub, iZ_mul, iZ_neg, jZ_add, jZ_sub, jZ_mul, jZ_neg, isB0, isB1, isBZ, eq0, eq1, bZ0, vI_, vJ_, vA_, rI_, rJ_, rA_, rV_, nX_, tX_, true_and, and_true, false_and, and_false, and_self, implies_true, forall_const, not_true_eq_false, not_false_eq_true, false_implies, true_implies, ↓reduceIte, Nat.reduceEqDiff, Int.reduceToNat, Int.reduceAdd, Int.reduceSub, Int.reduceLT, Int.reduceLE, Int.reduceEq, Int.add_zero, Int.neg_zero, Int.add_sub_cancel, Int.reduceNeg, Nat.reduceLeDiff, Nat.reduceSub, true_or, or_true, false_or, or_false, setI_d, setJ_d, setP_d, mI_row, mJ_row, mP_row, mI_row_ne, mJ_row_ne, mP_row_ne, rowI_rowI, rowJ_rowJ, rowI_sort, rowJ_sort, rowJ_rowI, rowP_rowI, rowP_rowJ, fu_app, fu_fu, mI_rowJ, mI_rowP, mJ_rowI, mJ_rowP, mP_rowI, mP_rowJ, mK_rowI, mN_rowI, mK_rowJ, mN_rowJ, mK_rowP, mN_rowP, oB_rowI, oB_rowJ, iA_rowI, iA_rowJ, iR_rowI, iR_rowJ, St_rowI, St_rowJ, K154 Si, O154 Si, P154_87 Si, K218 Si, O218 Si, A218 Si, gJ, gi, gj, hi', eq_true w', z']
          refine J _ _ ?_
          by_cases q : j < i
          · rw [if_pos q, if_pos (by omega)]
          · rw [if_neg q, if_neg (by omega)]
      · have w' : ¬ (g i : Int) = (g j : Int) := by omega
        have hij : i ≠ j := fun z => w (by rw [z])
        simp (disch := omega) only [wcQ, wcX, wcG, wcL, wcS, h95_7, w95_7, w95_9, w95_10, w95_13, w95_16, w95_17, w95_20, w95_22, w95_23, w95_24, w95_27, w95_28, w95_29, w95_32, w95_58, w95_61, toI, toJ, toI64, inb_T, inb_iZ, Int.toNat_natCast, cl_0, cl_1, cl_2, cl_3, cl_4, cl_5, cl_6, cl_7, cl_8, cl_9, cl_10, cl_11, cl_12, cl_13, cl_14, cl_15, cl_16, cl_17, cl_18, cl_19, cl_20, cl_21, cl_22, cl_23, cl_24, cl_25, cl_26, cl_27, cl_28, cl_29, cl_30, cl_31, cl_32, cl_36, cl_40, cl_48, cl_60, cl_108, cl_120, cl_200, cl_201, cl_576, cl_600, cl_864, cl_900, cl_960, cl_5400, cl_8040, j2_0, iN_iZ, iN_lit0, iZ_add, iZ_sub, iZ_mul, iZ_neg, jZ_add, jZ_sub, jZ_mul, jZ_neg, isB0, isB1, isBZ, eq0, eq1, bZ0, vI_, vJ_, vA_, rI_, rJ_, rA_, rV_, nX_, tX_, true_and, and_true, false_and, and_false, and_self, implies_true, forall_const, not_true_eq_false, not_false_eq_true, false_implies, true_implies, ↓reduceIte, Nat.reduceEqDiff, Int.reduceToNat, Int.reduceAdd, Int.reduceSub, Int.reduceLT, Int.reduceLE, Int.reduceEq, Int.add_zero, Int.neg_zero, Int.add_sub_cancel, Int.reduceNeg, Nat.reduceLeDiff, Nat.reduceSub, true_or, or_true, false_or, or_false, setI_d, setJ_d, setP_d, mI_row, mJ_row, mP_row, mI_row_ne, mJ_row_ne, mP_row_ne, rowI_rowI, rowJ_rowJ, rowI_sort, rowJ_sort, rowJ_rowI, rowP_rowI, rowP_rowJ, fu_app, fu_fu, mI_rowJ, mI_rowP, mJ_rowI, mJ_rowP, mP_rowI, mP_rowJ, mK_rowI, mN_rowI, mK_rowJ, mN_rowJ, mK_rowP, mN_rowP, oB_rowI, oB_rowJ, iA_rowI, iA_rowJ, iR_rowI, iR_rowJ, St_rowI, St_rowJ, K154 Si, O154 Si, P154_87 Si, K218 Si, O218 Si, A218 Si, gJ, gi, gj, hi', w']
        refine K _ _ ⟨⟨x1, x2, x3, x4, x5, ?_⟩, f, hM, by rw [mLg_s, if_neg w]; exact hf⟩
        rw [mLg_s, if_neg w]
        by_cases q : j < i
        · rw [if_pos q, if_pos (by omega)]; rfl
        · rw [if_neg q, if_neg (by omega)]; rfl
    · intro ls Mi ⟨⟨x1, x2, x3, x4, x5, hl⟩, f, hM, hf⟩
      subst hl
      rw [if_pos hj, ← hJL]
      rw [← hJL] at hf
      have hi' : ¬ (Jn : Int) < Jn := by omega
      have Fi : FQ M Mi := by rw [hM]; exact FQ_row (by omega) (by omega)
      have Si := FQ_S Fi hS
      have gJ : mI Mi 154 4 = iZ Jn := by rw [hM, mI_row_ne (by decide)]; exact hJn
      have hs : ∀ l, l < scN g j → mI Mi 220 l = iZ (msG g j l) ∧ msG g j l < 6 := fun l hl => ⟨by rw [hM, mI_row]; exact hf l _ (getD_s hl), (ms_m hl).1⟩
      have hn : (mLg g j 6).length = scN g j := rfl
      rw [hn]
      refine wp1_go (n := 2000) ?_
      by_cases h1 : scN g j = 1
      · have h1' : ((scN g j : Nat) : Int) = 1 := by omega
        have hq := hQ Mi Fi
        rw [scA_1 h1 (by omega)] at hq
        simp (disch := omega) only [wcQ, wcX, wcG, wcL, wcS, h95_7, w95_7, w95_9, w95_10, w95_13, w95_64, w95_65, w95_66, w95_69, w95_70, toI, toJ, toI64, inb_T, inb_iZ, Int.toNat_natCast, cl_0, cl_1, cl_2, cl_3, cl_4, cl_5, cl_6, cl_7, cl_8, cl_9, cl_10, cl_11, cl_12, cl_13, cl_14, cl_15, cl_16, cl_17, cl_18, cl_19, cl_20, cl_21, cl_22, cl_23, cl_24, cl_25, cl_26, cl_27, cl_28, cl_29, cl_30, cl_31, cl_32, cl_36, cl_40, cl_48, cl_60, cl_108, cl_120, cl_200, cl_201, cl_576, cl_600, cl_864, cl_900, cl_960, cl_5400, cl_8040, j2_0, iN_iZ, iN_lit0, iZ_add, iZ_sub, iZ_mul, iZ_neg, jZ_add, jZ_sub, jZ_mul, jZ_neg, isB0, isB1, isBZ, eq0, eq1, bZ0, vI_, vJ_, vA_, rI_, rJ_, rA_, rV_, nX_, tX_, true_and, and_true, false_and, and_false, and_self, implies_true, forall_const, not_true_eq_false, not_false_eq_true, false_implies, true_implies, ↓reduceIte, Nat.reduceEqDiff, Int.reduceToNat, Int.reduceAdd, Int.reduceSub, Int.reduceLT, Int.reduceLE, Int.reduceEq, Int.add_zero, Int.neg_zero, Int.add_sub_cancel, Int.reduceNeg, Nat.reduceLeDiff, Nat.reduceSub, true_or, or_true, false_or, or_false, setI_d, setJ_d, setP_d, mI_row, mJ_row, mP_row, mI_row_ne, mJ_row_ne, mP_row_ne, rowI_rowI, rowJ_rowJ, rowI_sort, rowJ_sort, rowJ_rowI, rowP_rowI, rowP_rowJ, fu_app, fu_fu, mI_rowJ, mI_rowP, mJ_rowI, mJ_rowP, mP_rowI, mP_rowJ, mK_rowI, mN_rowI, mK_rowJ, mN_rowJ, mK_rowP, mN_rowP, oB_rowI, oB_rowJ, iA_rowI, iA_rowJ, iR_rowI, iR_rowJ, St_rowI, St_rowJ, K154 Si, O154 Si, gJ, hi', h1']
        exact hq
      · have h1' : ¬ ((scN g j : Nat) : Int) = 1 := by omega
        obtain ⟨s1, _, _, _, ⟨s2, s3⟩, s4, s5⟩ := sc_div hE tb (show j < 6 by omega)
        obtain ⟨m, hm⟩ : ∃ m, scN g j = m + 1 := ⟨scN g j - 1, by omega⟩
        have Lfb := fun i l (hi : i < scN g j) => Lf_b (l := l) hi hE
        have LfE : ∀ i l, i < scN g j → Lf (scN g j) (WG T g j) i l = if i = l then sN (wS T 24 (msG g j i)) 6 else - wS T 24 (msG g j i) (msG g j l) := fun i l hi => by
          show (if i = l then 0 + sl (List.range (scN g j)) (WG T g j i) else - WG T g j i l) = _
          rw [WG_met hE hi, Int.zero_add]; rfl
        simp (disch := omega) only [wcQ, wcX, wcG, wcL, wcS, h95_7, w95_7, w95_9, w95_10, w95_13, w95_64, w95_65, w95_66, w95_71, w95_72, h95_74, w95_74, toI, toJ, toI64, inb_T, inb_iZ, Int.toNat_natCast, cl_0, cl_1, cl_2, cl_3, cl_4, cl_5, cl_6, cl_7, cl_8, cl_9, cl_10, cl_11, cl_12, cl_13, cl_14, cl_15, cl_16, cl_17, cl_18, cl_19, cl_20, cl_21, cl_22, cl_23, cl_24, cl_25, cl_26, cl_27, cl_28, cl_29, cl_30, cl_31, cl_32, cl_36, cl_40, cl_48, cl_60, cl_108, cl_120, cl_200, cl_201, cl_576, cl_600, cl_864, cl_900, cl_960, cl_5400, cl_8040, j2_0, iN_iZ, iN_lit0, iZ_add, iZ_sub, iZ_mul, iZ_neg, jZ_add, jZ_sub, jZ_mul, jZ_neg, isB0, isB1, isBZ, eq0, eq1, bZ0, vI_, vJ_, vA_, rI_, rJ_, rA_, rV_, nX_, tX_, true_and, and_true, false_and, and_false, and_self, implies_true, forall_const, not_true_eq_false, not_false_eq_true, false_implies, true_implies, ↓reduceIte, Nat.reduceEqDiff, Int.reduceToNat, Int.reduceAdd, Int.reduceSub, Int.reduceLT, Int.reduceLE, Int.reduceEq, Int.add_zero, Int.neg_zero, Int.add_sub_cancel, Int.reduceNeg, Nat.reduceLeDiff, Nat.reduceSub, true_or, or_true, false_or, or_false, setI_d, setJ_d, setP_d, mI_row, mJ_row, mP_row, mI_row_ne, mJ_row_ne, mP_row_ne, rowI_rowI, rowJ_rowJ, rowI_sort, rowJ_sort, rowJ_rowI, rowP_rowI, rowP_rowJ, fu_app, fu_fu, mI_rowJ, mI_rowP, mJ_rowI, mJ_rowP, mP_rowI, mP_rowJ, mK_rowI, mN_rowI, mK_rowJ, mN_rowJ, mK_rowP, mN_rowP, oB_rowI, oB_rowJ, iA_rowI, iA_rowJ, iR_rowI, iR_rowJ, St_rowI, St_rowJ, K154 Si, O154 Si, gJ, hi', h1']
        have WX : XW Mi (wS T 24) := fun x y hx hy => by rw [hM]; exact hW x y hx hy
        have RX : XR Mi (rS T 24) := fun x hx => by rw [hM]; exact hR x hx
        have HX : XH Mi (fun x => sN (wS T 24 x) 6) := fun x hx => by rw [hM, mI_row_ne (by decide)]; exact hH x hx
        clear hM
        refine loopN (scN g j) (fun a ls M' => (∃ x1 x2 x3 x4 x5, ls = [aR (some 154), aI (iZ j), aI (iZ (scN g j)), aI (iZ (scB g j)), aI (iZ a), x1, x2, x3, x4, x5]) ∧ ∃ f, M' = rowJ Mi 217 f ∧ ∀ i l, i < a → l < scN g j → f (6 * i + l) = jZ (Lf (scN g j) (WG T g j) i l)) ⟨⟨_, _, _, _, _, rfl⟩, mJ Mi 217, rowJ_mJ.symm, fun i l h => absurd h (by omega)⟩ ?_ ?_
        · intro a ha ls Ma ⟨⟨x1, x2, x3, x4, x5, hl⟩, f, hM, hf⟩ K
          subst hl
          have ha' : (a : Int) < scN g j := by omega
          refine wp1_go (n := 2000) ?_
          simp (disch := omega) only [wcQ, wcX, wcG, wcL, wcS, h95_74, w95_74, w95_76, w95_77, w95_80, w95_81, h95_83, w95_83, toI, toJ, toI64, inb_T, inb_iZ, Int.toNat_natCast, cl_0, cl_1, cl_2, cl_3, cl_4, cl_5, cl_6, cl_7, cl_8, cl_9, cl_10, cl_11, cl_12, cl_13, cl_14, cl_15, cl_16, cl_17, cl_18, cl_19, cl_20, cl_21, cl_22, cl_23, cl_24, cl_25, cl_26, cl_27, cl_28, cl_29, cl_30, cl_31, cl_32, cl_36, cl_40, cl_48, cl_60, cl_108, cl_120, cl_200, cl_201, cl_576, cl_600, cl_864, cl_900, cl_960, cl_5400, cl_8040, j2_0, iN_iZ, iN_lit0, iZ_add, iZ_sub, iZ_mul, iZ_neg, jZ_add, jZ_sub, jZ_mul, jZ_neg, isB0, isB1, isBZ, eq0, eq1, bZ0, vI_, vJ_, vA_, rI_, rJ_, rA_, rV_, nX_, tX_, true_and, and_true, false_and, and_false, and_self, implies_true, forall_const, not_true_eq_false, not_false_eq_true, false_implies, true_implies, ↓reduceIte, Nat.reduceEqDiff, Int.reduceToNat, Int.reduceAdd, Int.reduceSub, Int.reduceLT, Int.reduceLE, Int.reduceEq, Int.add_zero, Int.neg_zero, Int.add_sub_cancel, Int.reduceNeg, Nat.reduceLeDiff, Nat.reduceSub, true_or, or_true, false_or, or_false, setI_d, setJ_d, setP_d, mI_row, mJ_row, mP_row, mI_row_ne, mJ_row_ne, mP_row_ne, rowI_rowI, rowJ_rowJ, rowI_sort, rowJ_sort, rowJ_rowI, rowP_rowI, rowP_rowJ, fu_app, fu_fu, mI_rowJ, mI_rowP, mJ_rowI, mJ_rowP, mP_rowI, mP_rowJ, mK_rowI, mN_rowI, mK_rowJ, mN_rowJ, mK_rowP, mN_rowP, oB_rowI, oB_rowJ, iA_rowI, iA_rowJ, iR_rowI, iR_rowJ, St_rowI, St_rowJ, ha']
          refine loopN (scN g j) (fun b ls M' => (∃ x2 x3 x4 x5, ls = [aR (some 154), aI (iZ j), aI (iZ (scN g j)), aI (iZ (scB g j)), aI (iZ a), aI (iZ b), x2, x3, x4, x5]) ∧ ∃ f, M' = rowJ Mi 217 f ∧ ∀ i l, (i < a ∨ (i = a ∧ l < b)) → l < scN g j → f (6 * i + l) = jZ (Lf (scN g j) (WG T g j) i l)) ⟨⟨_, _, _, _, rfl⟩, f, hM, fun i l h hl => hf i l (by omega) hl⟩ ?_ ?_
          · intro b hb ls Mb ⟨⟨x2, x3, x4, x5, hl⟩, f, hM, hf⟩ Kb
            subst hl
            have hb' : (b : Int) < scN g j := by omega
            have Sb : Static Mb := by rw [hM]; exact Si
            obtain ⟨a1, a2⟩ := hs a ha
            obtain ⟨b1, b2⟩ := hs b hb
            have e1 : mI Mb 220 a = iZ (msG g j a) := by rw [hM]; exact a1
            have e2 : mI Mb 220 b = iZ (msG g j b) := by rw [hM]; exact b1
            have e3 : mI Mb 219 (msG g j a) = iZ (sN (wS T 24 (msG g j a)) 6) := by rw [hM]; exact HX _ a2
            have e4 : mJ Mb 215 (6 * msG g j a + msG g j b) = jZ (wS T 24 (msG g j a) (msG g j b)) := by rw [hM, mJ_row_ne (by decide)]; exact WX _ _ a2 b2
            have ix : ((6 : Int) * a + b).toNat = 6 * a + b := by omega
            have ix2 : ((6 : Int) * (msG g j a : Nat) + (msG g j b : Nat)).toNat = 6 * msG g j a + msG g j b := by omega
            have met := sN_b (f := wS T 24 (msG g j a)) (a := 0) (b := 24) 6 (fun x _ => wS_b 24)
            have fin : ∀ v, v = Lf (scN g j) (WG T g j) a b → ∀ i l, (i < a ∨ (i = a ∧ l < b + 1)) → l < scN g j → fu f (6 * a + b) (jZ v) (6 * i + l) = jZ (Lf (scN g j) (WG T g j) i l) := fun v hv i l h hl => by
              by_cases q : i = a ∧ l = b
              · obtain ⟨rfl, rfl⟩ := q
                rw [← hv]; exact if_pos rfl
              · exact (if_neg (by omega)).trans (hf i l (by omega) hl)
            generalize hga : msG g j a = A at *
            generalize hgb : msG g j b = B at *
            refine wp1_go (n := 2000) ?_
            by_cases z : a = b
            · have z' : (a : Int) = (b : Int) := by omega
              simp (disch := omega) only [wcQ, wcX, wcG, wcL, wcS, h95_83, w95_83, w95_85, w95_86, w95_89, w95_90, w95_93, w95_95, w95_97, w95_98, w95_100, w95_101, w95_103, w95_105, w95_108, w95_109, w95_112, w95_113, w95_116, w95_118, w95_119, w95_120, w95_121, w95_148, w95_149, w95_152, toI, toJ, toI64, inb_T, inb_iZ, Int.toNat_natCast, cl_0, cl_1, cl_2, cl_3, cl_4, cl_5, cl_6, cl_7, cl_8, cl_9, cl_10, cl_11, cl_12, cl_13, cl_14, cl_15, cl_16, cl_17, cl_18, cl_19, cl_20, cl_21, cl_22, cl_23, cl_24, cl_25, cl_26, cl_27, cl_28, cl_29, cl_30, cl_31, cl_32, cl_36, cl_40, cl_48, cl_60, cl_108, cl_120, cl_200, cl_201, cl_576, cl_600, cl_864, cl_900, cl_960, cl_5400, cl_8040, j2_0, iN_iZ, iN_lit0, iZ_add, iZ_sub, iZ_mul, iZ_neg, jZ_add, jZ_sub, jZ_mul, jZ_neg, isB0, isB1, isBZ, eq0, eq1, bZ0, vI_, vJ_, vA_, rI_, rJ_, rA_, rV_, nX_, tX_, true_and, and_true, false_and, and_false, and_self, implies_true, forall_const, not_true_eq_false, not_false_eq_true, false_implies, true_implies, ↓reduceIte, Nat.reduceEqDiff, Int.reduceToNat, Int.reduceAdd, Int.reduceSub, Int.reduceLT, Int.reduceLE, Int.reduceEq, Int.add_zero, Int.neg_zero, Int.add_sub_cancel, Int.reduceNeg, Nat.reduceLeDiff, Nat.reduceSub, true_or, or_true, false_or, or_false, setI_d, setJ_d, setP_d, mI_row, mJ_row, mP_row, mI_row_ne, mJ_row_ne, mP_row_ne, rowI_rowI, rowJ_rowJ, rowI_sort, rowJ_sort, rowJ_rowI, rowP_rowI, rowP_rowJ, fu_app, fu_fu, mI_rowJ, mI_rowP, mJ_rowI, mJ_rowP, mP_rowI, mP_rowJ, mK_rowI, mN_rowI, mK_rowJ, mN_rowJ, mK_rowP, mN_rowP, oB_rowI, oB_rowJ, iA_rowI, iA_rowJ, iR_rowI, iR_rowJ, St_rowI, St_rowJ, K154 Sb, O154 Sb, P154_86 Sb, P154_88 Sb, P154_89 Sb, K217 Sb, O217 Sb, A217 Sb, K219 Sb, O219 Sb, A219 Sb, K220 Sb, O220 Sb, A220 Sb, hb', eq_true z', e1, e2, e3, ix]
              refine Kb _ _ ⟨⟨_, _, _, _, rfl⟩, fu f (6 * a + b) (jZ (sN (wS T 24 A) 6)), by rw [hM, mJ_row, rowJ_rowJ], fin _ ?_⟩
              rw [LfE a b ha, if_pos z, hga]
            · have z' : ¬ (a : Int) = (b : Int) := by omega
              simp (disch := omega) only [wcQ, wcX, wcG, wcL, wcS, h95_83, w95_83, w95_85, w95_86, w95_89, w95_90, w95_93, w95_95, w95_97, w95_98, w95_100, w95_101, w95_103, w95_105, w95_124, w95_125, w95_128, w95_130, w95_131, w95_134, w95_136, w95_137, w95_138, w95_139, w95_142, w95_144, w95_145, w95_146, w95_147, w95_148, w95_149, w95_152, toI, toJ, toI64, inb_T, inb_iZ, Int.toNat_natCast, cl_0, cl_1, cl_2, cl_3, cl_4, cl_5, cl_6, cl_7, cl_8, cl_9, cl_10, cl_11, cl_12, cl_13, cl_14, cl_15, cl_16, cl_17, cl_18, cl_19, cl_20, cl_21, cl_22, cl_23, cl_24, cl_25, cl_26, cl_27, cl_28, cl_29, cl_30, cl_31, cl_32, cl_36, cl_40, cl_48, cl_60, cl_108, cl_120, cl_200, cl_201, cl_576, cl_600, cl_864, cl_900, cl_960, cl_5400, cl_8040, j2_0, iN_iZ, iN_lit0, iZ_add, iZ_sub, iZ_mul, iZ_neg, jZ_add, jZ_sub, jZ_mul, jZ_neg, isB0, isB1, isBZ, eq0, eq1, bZ0, vI_, vJ_, vA_, rI_, rJ_, rA_, rV_, nX_, tX_, true_and, and_true, false_and, and_false, and_self, implies_true, forall_const, not_true_eq_false, not_false_eq_true, false_implies, true_implies, ↓reduceIte, Nat.reduceEqDiff, Int.reduceToNat, Int.reduceAdd, Int.reduceSub, Int.reduceLT, Int.reduceLE, Int.reduceEq, Int.add_zero, Int.neg_zero, Int.add_sub_cancel, Int.reduceNeg, Nat.reduceLeDiff, Nat.reduceSub, true_or, or_true, false_or, or_false, setI_d, setJ_d, setP_d, mI_row, mJ_row, mP_row, mI_row_ne, mJ_row_ne, mP_row_ne, rowI_rowI, rowJ_rowJ, rowI_sort, rowJ_sort, rowJ_rowI, rowP_rowI, rowP_rowJ, fu_app, fu_fu, mI_rowJ, mI_rowP, mJ_rowI, mJ_rowP, mP_rowI, mP_rowJ, mK_rowI, mN_rowI, mK_rowJ, mN_rowJ, mK_rowP, mN_rowP, oB_rowI, oB_rowJ, iA_rowI, iA_rowJ, iR_rowI, iR_rowJ, St_rowI, St_rowJ, K154 Sb, O154 Sb, P154_84 Sb, P154_86 Sb, P154_89 Sb, K215 Sb, O215 Sb, A215 Sb, K217 Sb, O217 Sb, A217 Sb, K220 Sb, O220 Sb, A220 Sb, hb', z', e1, e2, e4, ix, ix2]
              refine Kb _ _ ⟨⟨_, _, _, _, rfl⟩, fu f (6 * a + b) (jZ (- wS T 24 A B)), by rw [hM, mJ_row, rowJ_rowJ], fin _ ?_⟩
              rw [LfE a b ha, if_neg z, hga, hgb]
          · intro ls Mb ⟨⟨x2, x3, x4, x5, hl⟩, f, hM, hf⟩
            subst hl
            have hb' : ¬ ((scN g j : Nat) : Int) < (scN g j : Nat) := by omega
            refine wp1_go (n := 2000) ?_
            simp (disch := omega) only [wcQ, wcX, wcG, wcL, wcS, h95_74, w95_74, h95_83, w95_83, w95_85, w95_86, w95_155, w95_158, toI, toJ, toI64, inb_T, inb_iZ, Int.toNat_natCast, cl_0, cl_1, cl_2, cl_3, cl_4, cl_5, cl_6, cl_7, cl_8, cl_9, cl_10, cl_11, cl_12, cl_13, cl_14, cl_15, cl_16, cl_17, cl_18, cl_19, cl_20, cl_21, cl_22, cl_23, cl_24, cl_25, cl_26, cl_27, cl_28, cl_29, cl_30, cl_31, cl_32, cl_36, cl_40, cl_48, cl_60, cl_108, cl_120, cl_200, cl_201, cl_576, cl_600, cl_864, cl_900, cl_960, cl_5400, cl_8040, j2_0, iN_iZ, iN_lit0, iZ_add, iZ_sub, iZ_mul, iZ_neg, jZ_add, jZ_sub, jZ_mul, jZ_neg, isB0, isB1, isBZ, eq0, eq1, bZ0, vI_, vJ_, vA_, rI_, rJ_, rA_, rV_, nX_, tX_, true_and, and_true, false_and, and_false, and_self, implies_true, forall_const, not_true_eq_false, not_false_eq_true, false_implies, true_implies, ↓reduceIte, Nat.reduceEqDiff, Int.reduceToNat, Int.reduceAdd, Int.reduceSub, Int.reduceLT, Int.reduceLE, Int.reduceEq, Int.add_zero, Int.neg_zero, Int.add_sub_cancel, Int.reduceNeg, Nat.reduceLeDiff, Nat.reduceSub, true_or, or_true, false_or, or_false, setI_d, setJ_d, setP_d, mI_row, mJ_row, mP_row, mI_row_ne, mJ_row_ne, mP_row_ne, rowI_rowI, rowJ_rowJ, rowI_sort, rowJ_sort, rowJ_rowI, rowP_rowI, rowP_rowJ, fu_app, fu_fu, mI_rowJ, mI_rowP, mJ_rowI, mJ_rowP, mP_rowI, mP_rowJ, mK_rowI, mN_rowI, mK_rowJ, mN_rowJ, mK_rowP, mN_rowP, oB_rowI, oB_rowJ, iA_rowI, iA_rowJ, iR_rowI, iR_rowJ, St_rowI, St_rowJ, hb']
            exact K _ _ ⟨⟨_, _, _, _, _, rfl⟩, f, hM, fun i l h hl => hf i l (by omega) hl⟩
        · intro ls Mb ⟨⟨x1, x2, x3, x4, x5, hl⟩, f, hM, hf⟩
          subst hl
          have hb' : ¬ ((scN g j : Nat) : Int) < (scN g j : Nat) := by omega
          have Fb : FQ M Mb := FQ_tr Fi (by rw [hM]; exact FQ_rowJ (by omega) (by omega))
          have Sb := FQ_S Fb hS
          have RXb : XR Mb (rS T 24) := fun x hx => by rw [hM, mJ_row_ne (by decide)]; exact RX x hx
          have hL : ∀ i l, i < scN g j → l < scN g j → LmX Mb i l = Lf (scN g j) (WG T g j) i l := fun i l hi hl => by
            have b1 := Lfb i l hi
            show (mJ Mb 217 (6 * i + l)).toInt = _
            rw [hM, mJ_row, hf i l hi hl, toJ (by omega) (by omega)]
          have hsb : ∀ l, l < m → mI Mb 220 l = iZ (msG g j l) ∧ msG g j l < 6 := fun l hl => by rw [hM]; exact hs l (by omega)
          have hq := hQ Mb Fb
          clear hM hf
          unfold scA scV at hq
          unfold scV at s2 s3
          unfold scD at hq s4 s5
          rw [hm] at hL hq s2 s3 s4 s5 hb hb' ⊢
          rw [Nat.add_sub_cancel] at hq s2 s3 s4 s5
          have soz := fun b => so_Z (M := Mb) (m := m) (b := b) hL
          have dRD := dR_D (M := Mb) (m := m) hL
          have m5 : m ≤ 5 := by omega
          obtain ⟨f1, f2, f3⟩ := full_ m5
          have fl : (stB (2 ^ m - 1) 0 6).length = m := by rw [f1]; exact List.length_range
          have e93 := c93 (G := G) (d := d + (7 - m)) (M := Mb) hst Sb m (2 ^ m - 1) (2 ^ m - 1) f2 f2 fl
          rw [f1, dRD, show d + (7 - m) + m + 1 = d + 8 from by omega] at e93
          have e94 := fun b (hb : b ≤ m) => c94 (G := G) (d := d) (M := Mb) (r := rS T 24) (m := m) (i := b) (ms := msG g j) hst Sb RXb m5 hb hsb
          have e94 := fun b (hb : b ≤ m) => by have e := e94 b hb; rw [soz b] at e; exact e
          have e1 : iZ ((m : Int) + 1) - iZ 1 = iZ m := by rw [show iZ ((m : Int) + 1) - iZ 1 = iZ ((m : Int) + 1 - 1) from (Int32.ofInt_sub ..).symm]; congr 1; omega
          have bs := bit_shl (i := m) (by omega)
          have e2 : ((2 ^ m : Nat) : Int) - 1 = ((2 ^ m - 1 : Nat) : Int) := by omega
          have en : ((m + 1 : Nat) : Int) = (m : Int) + 1 := by omega
          rw [en] at *
          generalize hZf : Zc m (WG T g j) (rG T g j) = Z at *
          generalize hDD : dR m (WG T g j) = D at *
          generalize scB g j = B at *
          have eB := e94 B (by omega)
          refine wp1_go (n := 2000) ?_
          simp (disch := omega) only [wcQ, wcX, wcG, wcL, wcS, h95_74, w95_74, w95_76, w95_77, w95_161, w95_162, w95_163, w95_164, w95_165, w95_166, w95_167, w95_168, w95_170, w95_171, w95_173, w95_175, toI, toJ, toI64, inb_T, inb_iZ, Int.toNat_natCast, cl_0, cl_1, cl_2, cl_3, cl_4, cl_5, cl_6, cl_7, cl_8, cl_9, cl_10, cl_11, cl_12, cl_13, cl_14, cl_15, cl_16, cl_17, cl_18, cl_19, cl_20, cl_21, cl_22, cl_23, cl_24, cl_25, cl_26, cl_27, cl_28, cl_29, cl_30, cl_31, cl_32, cl_36, cl_40, cl_48, cl_60, cl_108, cl_120, cl_200, cl_201, cl_576, cl_600, cl_864, cl_900, cl_960, cl_5400, cl_8040, j2_0, iN_iZ, iN_lit0, iZ_add, iZ_sub, iZ_mul, iZ_neg, jZ_add, jZ_sub, jZ_mul, jZ_neg, isB0, isB1, isBZ, eq0, eq1, bZ0, vI_, vJ_, vA_, rI_, rJ_, rA_, rV_, nX_, tX_, true_and, and_true, false_and, and_false, and_self, implies_true, forall_const, not_true_eq_false, not_false_eq_true, false_implies, true_implies, ↓reduceIte, Nat.reduceEqDiff, Int.reduceToNat, Int.reduceAdd, Int.reduceSub, Int.reduceLT, Int.reduceLE, Int.reduceEq, Int.add_zero, Int.neg_zero, Int.add_sub_cancel, Int.reduceNeg, Nat.reduceLeDiff, Nat.reduceSub, true_or, or_true, false_or, or_false, setI_d, setJ_d, setP_d, mI_row, mJ_row, mP_row, mI_row_ne, mJ_row_ne, mP_row_ne, rowI_rowI, rowJ_rowJ, rowI_sort, rowJ_sort, rowJ_rowI, rowP_rowI, rowP_rowJ, fu_app, fu_fu, mI_rowJ, mI_rowP, mJ_rowI, mJ_rowP, mP_rowI, mP_rowJ, mK_rowI, mN_rowI, mK_rowJ, mN_rowJ, mK_rowP, mN_rowP, oB_rowI, oB_rowJ, iA_rowI, iA_rowJ, iR_rowI, iR_rowJ, St_rowI, St_rowJ, O154 Sb, e1, bs, e2, Int.lt_irrefl]
          refine kJ0 e93 ?_
          simp (disch := omega) only [wcQ, wcX, wcG, wcL, wcS, w95_178, w95_180, w95_181, w95_182, w95_183, w95_184, w95_185, toI, toJ, toI64, inb_T, inb_iZ, Int.toNat_natCast, cl_0, cl_1, cl_2, cl_3, cl_4, cl_5, cl_6, cl_7, cl_8, cl_9, cl_10, cl_11, cl_12, cl_13, cl_14, cl_15, cl_16, cl_17, cl_18, cl_19, cl_20, cl_21, cl_22, cl_23, cl_24, cl_25, cl_26, cl_27, cl_28, cl_29, cl_30, cl_31, cl_32, cl_36, cl_40, cl_48, cl_60, cl_108, cl_120, cl_200, cl_201, cl_576, cl_600, cl_864, cl_900, cl_960, cl_5400, cl_8040, j2_0, iN_iZ, iN_lit0, iZ_add, iZ_sub, iZ_mul, iZ_neg, jZ_add, jZ_sub, jZ_mul, jZ_neg, isB0, isB1, isBZ, eq0, eq1, bZ0, vI_, vJ_, vA_, rI_, rJ_, rA_, rV_, nX_, tX_, true_and, and_true, false_and, and_false, and_self, implies_true, forall_const, not_true_eq_false, not_false_eq_true, false_implies, true_implies, ↓reduceIte, Nat.reduceEqDiff, Int.reduceToNat, Int.reduceAdd, Int.reduceSub, Int.reduceLT, Int.reduceLE, Int.reduceEq, Int.add_zero, Int.neg_zero, Int.add_sub_cancel, Int.reduceNeg, Nat.reduceLeDiff, Nat.reduceSub, true_or, or_true, false_or, or_false, setI_d, setJ_d, setP_d, mI_row, mJ_row, mP_row, mI_row_ne, mJ_row_ne, mP_row_ne, rowI_rowI, rowJ_rowJ, rowI_sort, rowJ_sort, rowJ_rowI, rowP_rowI, rowP_rowJ, fu_app, fu_fu, mI_rowJ, mI_rowP, mJ_rowI, mJ_rowP, mP_rowI, mP_rowJ, mK_rowI, mN_rowI, mK_rowJ, mN_rowJ, mK_rowP, mN_rowP, oB_rowI, oB_rowJ, iA_rowI, iA_rowJ, iR_rowI, iR_rowJ, St_rowI, St_rowJ, O154 Sb]
          refine kJ0 eB ?_
          simp (disch := omega) only [wcQ, wcX, wcG, wcL, wcS, w95_188, w95_189, w95_191, w95_192, h95_194, w95_194, toI, toJ, toI64, inb_T, inb_iZ, Int.toNat_natCast, cl_0, cl_1, cl_2, cl_3, cl_4, cl_5, cl_6, cl_7, cl_8, cl_9, cl_10, cl_11, cl_12, cl_13, cl_14, cl_15, cl_16, cl_17, cl_18, cl_19, cl_20, cl_21, cl_22, cl_23, cl_24, cl_25, cl_26, cl_27, cl_28, cl_29, cl_30, cl_31, cl_32, cl_36, cl_40, cl_48, cl_60, cl_108, cl_120, cl_200, cl_201, cl_576, cl_600, cl_864, cl_900, cl_960, cl_5400, cl_8040, j2_0, iN_iZ, iN_lit0, iZ_add, iZ_sub, iZ_mul, iZ_neg, jZ_add, jZ_sub, jZ_mul, jZ_neg, isB0, isB1, isBZ, eq0, eq1, bZ0, vI_, vJ_, vA_, rI_, rJ_, rA_, rV_, nX_, tX_, true_and, and_true, false_and, and_false, and_self, implies_true, forall_const, not_true_eq_false, not_false_eq_true, false_implies, true_implies, ↓reduceIte, Nat.reduceEqDiff, Int.reduceToNat, Int.reduceAdd, Int.reduceSub, Int.reduceLT, Int.reduceLE, Int.reduceEq, Int.add_zero, Int.neg_zero, Int.add_sub_cancel, Int.reduceNeg, Nat.reduceLeDiff, Nat.reduceSub, true_or, or_true, false_or, or_false, setI_d, setJ_d, setP_d, mI_row, mJ_row, mP_row, mI_row_ne, mJ_row_ne, mP_row_ne, rowI_rowI, rowJ_rowJ, rowI_sort, rowJ_sort, rowJ_rowI, rowP_rowI, rowP_rowJ, fu_app, fu_fu, mI_rowJ, mI_rowP, mJ_rowI, mJ_rowP, mP_rowI, mP_rowJ, mK_rowI, mN_rowI, mK_rowJ, mN_rowJ, mK_rowP, mN_rowP, oB_rowI, oB_rowJ, iA_rowI, iA_rowJ, iR_rowI, iR_rowJ, St_rowI, St_rowJ]
          refine loopN (m + 1) (fun t ls M' => ls = [aR (some 154), aI (iZ j), aI (iZ ((m : Int) + 1)), aI (iZ B), aI (iZ ((2 ^ m - 1 : Nat) : Int)), aL (jZ D), aU, aL (jZ (((m : Int) + 1) * Z B - sN Z t)), aU, aI (iZ t)] ∧ M' = Mb) ⟨by rw [show sN Z 0 = 0 from rfl, Int.sub_zero]; rfl, rfl⟩ ?_ ?_
          · intro t ht ls M' ⟨hl, hM⟩ K
            have hM := hM.symm
            subst hl hM
            have ht' : (t : Int) < (m : Int) + 1 := by omega
            have et := e94 t (by omega)
            refine wp1_go (n := 2000) ?_
            simp (disch := omega) only [wcQ, wcX, wcG, wcL, wcS, h95_194, w95_194, w95_196, w95_197, w95_200, w95_202, w95_203, w95_205, w95_206, toI, toJ, toI64, inb_T, inb_iZ, Int.toNat_natCast, cl_0, cl_1, cl_2, cl_3, cl_4, cl_5, cl_6, cl_7, cl_8, cl_9, cl_10, cl_11, cl_12, cl_13, cl_14, cl_15, cl_16, cl_17, cl_18, cl_19, cl_20, cl_21, cl_22, cl_23, cl_24, cl_25, cl_26, cl_27, cl_28, cl_29, cl_30, cl_31, cl_32, cl_36, cl_40, cl_48, cl_60, cl_108, cl_120, cl_200, cl_201, cl_576, cl_600, cl_864, cl_900, cl_960, cl_5400, cl_8040, j2_0, iN_iZ, iN_lit0, iZ_add, iZ_sub, iZ_mul, iZ_neg, jZ_add, jZ_sub, jZ_mul, jZ_neg, isB0, isB1, isBZ, eq0, eq1, bZ0, vI_, vJ_, vA_, rI_, rJ_, rA_, rV_, nX_, tX_, true_and, and_true, false_and, and_false, and_self, implies_true, forall_const, not_true_eq_false, not_false_eq_true, false_implies, true_implies, ↓reduceIte, Nat.reduceEqDiff, Int.reduceToNat, Int.reduceAdd, Int.reduceSub, Int.reduceLT, Int.reduceLE, Int.reduceEq, Int.add_zero, Int.neg_zero, Int.add_sub_cancel, Int.reduceNeg, Nat.reduceLeDiff, Nat.reduceSub, true_or, or_true, false_or, or_false, setI_d, setJ_d, setP_d, mI_row, mJ_row, mP_row, mI_row_ne, mJ_row_ne, mP_row_ne, rowI_rowI, rowJ_rowJ, rowI_sort, rowJ_sort, rowJ_rowI, rowP_rowI, rowP_rowJ, fu_app, fu_fu, mI_rowJ, mI_rowP, mJ_rowI, mJ_rowP, mP_rowI, mP_rowJ, mK_rowI, mN_rowI, mK_rowJ, mN_rowJ, mK_rowP, mN_rowP, oB_rowI, oB_rowJ, iA_rowI, iA_rowJ, iR_rowI, iR_rowJ, St_rowI, St_rowJ, O154 Sb, ht']
            refine kJ0 et ?_
            simp (disch := omega) only [wcQ, wcX, wcG, wcL, wcS, h95_194, w95_194, w95_209, w95_210, w95_212, w95_215, toI, toJ, toI64, inb_T, inb_iZ, Int.toNat_natCast, cl_0, cl_1, cl_2, cl_3, cl_4, cl_5, cl_6, cl_7, cl_8, cl_9, cl_10, cl_11, cl_12, cl_13, cl_14, cl_15, cl_16, cl_17, cl_18, cl_19, cl_20, cl_21, cl_22, cl_23, cl_24, cl_25, cl_26, cl_27, cl_28, cl_29, cl_30, cl_31, cl_32, cl_36, cl_40, cl_48, cl_60, cl_108, cl_120, cl_200, cl_201, cl_576, cl_600, cl_864, cl_900, cl_960, cl_5400, cl_8040, j2_0, iN_iZ, iN_lit0, iZ_add, iZ_sub, iZ_mul, iZ_neg, jZ_add, jZ_sub, jZ_mul, jZ_neg, isB0, isB1, isBZ, eq0, eq1, bZ0, vI_, vJ_, vA_, rI_, rJ_, rA_, rV_, nX_, tX_, true_and, and_true, false_and, and_false, and_self, implies_true, forall_const, not_true_eq_false, not_false_eq_true, false_implies, true_implies, ↓reduceIte, Nat.reduceEqDiff, Int.reduceToNat, Int.reduceAdd, Int.reduceSub, Int.reduceLT, Int.reduceLE, Int.reduceEq, Int.add_zero, Int.neg_zero, Int.add_sub_cancel, Int.reduceNeg, Nat.reduceLeDiff, Nat.reduceSub, true_or, or_true, false_or, or_false, setI_d, setJ_d, setP_d, mI_row, mJ_row, mP_row, mI_row_ne, mJ_row_ne, mP_row_ne, rowI_rowI, rowJ_rowJ, rowI_sort, rowJ_sort, rowJ_rowI, rowP_rowI, rowP_rowJ, fu_app, fu_fu, mI_rowJ, mI_rowP, mJ_rowI, mJ_rowP, mP_rowI, mP_rowJ, mK_rowI, mN_rowI, mK_rowJ, mN_rowJ, mK_rowP, mN_rowP, oB_rowI, oB_rowJ, iA_rowI, iA_rowJ, iR_rowI, iR_rowJ, St_rowI, St_rowJ]
            refine K _ _ ⟨?_, rfl⟩
            rw [show sN Z (t + 1) = sN Z t + Z t from rfl, Int.sub_sub]
            rfl
          · intro ls M' ⟨hl, hM⟩
            have hM := hM.symm
            subst hl hM
            have ht' : ¬ ((m + 1 : Nat) : Int) < (m : Int) + 1 := by omega
            rw [sl_range] at hq s2 s3
            have s4' : 0 < ((m : Int) + 1) * D := by rw [← Int.natCast_succ]; exact s4
            have s5' : ((m : Int) + 1) * D < 9223372036854775808 := by rw [← Int.natCast_succ]; exact s5
            have e15 := jd15 (G := G) (d := d + 7) (M := Mb) (x := 1000 * (((m : Int) + 1) * Z B - sN Z (m + 1))) (y := ((m : Int) + 1) * D) hst s2 s3 s4' s5'
            refine wp1_go (n := 2000) ?_
            simp (disch := omega) only [wcQ, wcX, wcG, wcL, wcS, h95_194, w95_194, w95_196, w95_197, w95_218, w95_221, w95_223, w95_224, w95_225, w95_226, w95_228, w95_229, toI, toJ, toI64, inb_T, inb_iZ, Int.toNat_natCast, cl_0, cl_1, cl_2, cl_3, cl_4, cl_5, cl_6, cl_7, cl_8, cl_9, cl_10, cl_11, cl_12, cl_13, cl_14, cl_15, cl_16, cl_17, cl_18, cl_19, cl_20, cl_21, cl_22, cl_23, cl_24, cl_25, cl_26, cl_27, cl_28, cl_29, cl_30, cl_31, cl_32, cl_36, cl_40, cl_48, cl_60, cl_108, cl_120, cl_200, cl_201, cl_576, cl_600, cl_864, cl_900, cl_960, cl_5400, cl_8040, j2_0, iN_iZ, iN_lit0, iZ_add, iZ_sub, iZ_mul, iZ_neg, jZ_add, jZ_sub, jZ_mul, jZ_neg, isB0, isB1, isBZ, eq0, eq1, bZ0, vI_, vJ_, vA_, rI_, rJ_, rA_, rV_, nX_, tX_, true_and, and_true, false_and, and_false, and_self, implies_true, forall_const, not_true_eq_false, not_false_eq_true, false_implies, true_implies, ↓reduceIte, Nat.reduceEqDiff, Int.reduceToNat, Int.reduceAdd, Int.reduceSub, Int.reduceLT, Int.reduceLE, Int.reduceEq, Int.add_zero, Int.neg_zero, Int.add_sub_cancel, Int.reduceNeg, Nat.reduceLeDiff, Nat.reduceSub, true_or, or_true, false_or, or_false, setI_d, setJ_d, setP_d, mI_row, mJ_row, mP_row, mI_row_ne, mJ_row_ne, mP_row_ne, rowI_rowI, rowJ_rowJ, rowI_sort, rowJ_sort, rowJ_rowI, rowP_rowI, rowP_rowJ, fu_app, fu_fu, mI_rowJ, mI_rowP, mJ_rowI, mJ_rowP, mP_rowI, mP_rowJ, mK_rowI, mN_rowI, mK_rowJ, mN_rowJ, mK_rowP, mN_rowP, oB_rowI, oB_rowJ, iA_rowI, iA_rowJ, iR_rowI, iR_rowJ, St_rowI, St_rowJ, ht']
            refine kJ0 e15 ?_
            simp (disch := omega) only [wcQ, wcX, wcG, wcL, wcS, w95_232, toI, toJ, toI64, inb_T, inb_iZ, Int.toNat_natCast, cl_0, cl_1, cl_2, cl_3, cl_4, cl_5, cl_6, cl_7, cl_8, cl_9, cl_10, cl_11, cl_12, cl_13, cl_14, cl_15, cl_16, cl_17, cl_18, cl_19, cl_20, cl_21, cl_22, cl_23, cl_24, cl_25, cl_26, cl_27, cl_28, cl_29, cl_30, cl_31, cl_32, cl_36, cl_40, cl_48, cl_60, cl_108, cl_120, cl_200, cl_201, cl_576, cl_600, cl_864, cl_900, cl_960, cl_5400, cl_8040, j2_0, iN_iZ, iN_lit0, iZ_add, iZ_sub, iZ_mul, iZ_neg, jZ_add, jZ_sub, jZ_mul, jZ_neg, isB0, isB1, isBZ, eq0, eq1, bZ0, vI_, vJ_, vA_, rI_, rJ_, rA_, rV_, nX_, tX_, true_and, and_true, false_and, and_false, and_self, implies_true, forall_const, not_true_eq_false, not_false_eq_true, false_implies, true_implies, ↓reduceIte, Nat.reduceEqDiff, Int.reduceToNat, Int.reduceAdd, Int.reduceSub, Int.reduceLT, Int.reduceLE, Int.reduceEq, Int.add_zero, Int.neg_zero, Int.add_sub_cancel, Int.reduceNeg, Nat.reduceLeDiff, Nat.reduceSub, true_or, or_true, false_or, or_false, setI_d, setJ_d, setP_d, mI_row, mJ_row, mP_row, mI_row_ne, mJ_row_ne, mP_row_ne, rowI_rowI, rowJ_rowJ, rowI_sort, rowJ_sort, rowJ_rowI, rowP_rowI, rowP_rowJ, fu_app, fu_fu, mI_rowJ, mI_rowP, mJ_rowI, mJ_rowP, mP_rowI, mP_rowJ, mK_rowI, mN_rowI, mK_rowJ, mN_rowJ, mK_rowP, mN_rowP, oB_rowI, oB_rowJ, iA_rowI, iA_rowJ, iR_rowI, iR_rowJ, St_rowI, St_rowJ]
            exact hq
  exact key _ (fun M' h => ⟨_, rfl, rfl, h⟩)
end

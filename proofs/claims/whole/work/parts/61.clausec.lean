/-! RULES: faults and outs; the class's side. -/
section
variable {G : GE} {d : Nat} {M M' : Mem} {B : Nat → Nat} {n b k s : Nat} {q : Bk}
theorem CL_mono {cd st : Nat} {l l' : List Int} (h : CL M cd st l) (hs : st + l.length < s) (he : mI M' cd = apL (mI M cd) s l') : CL M' cd st l := by
  intro j x hx
  have hj : j < (l ++ [-1]).length := by
    by_cases z : j < (l ++ [-1]).length
    · exact z
    · rw [List.getElem?_eq_none (by omega)] at hx; cases hx
  simp at hj
  rw [he]
  unfold apL
  rw [if_neg (by omega)]
  exact h j x hx
theorem CL_new {cd : Nat} {l : List Int} (he : mI M' cd = apL (mI M cd) s (l ++ [-1])) : CL M' cd s l := by
  intro j x hx
  have hj : j < (l ++ [-1]).length := by
    by_cases z : j < (l ++ [-1]).length
    · exact z
    · rw [List.getElem?_eq_none (by omega)] at hx; cases hx
  rw [he]
  unfold apL
  rw [if_pos (by omega), show s + j - s = j by omega, hx]
  rfl
theorem app_get {α : Type} {l : List α} {y x : α} {i : Nat} (h : (l ++ [y])[i]? = some x) : (i < l.length ∧ l[i]? = some x) ∨ (i = l.length ∧ y = x) := by
  by_cases z : i < l.length
  · rw [List.getElem?_append_left z] at h; exact Or.inl ⟨z, h⟩
  · rw [List.getElem?_append_right (by omega)] at h
    have z2 : i - l.length = 0 := by
      by_cases y : i - l.length = 0
      · exact y
      · rw [List.getElem?_eq_none (by simp; omega)] at h; cases h
    rw [z2] at h
    simp at h
    exact Or.inr ⟨by omega, h⟩
theorem BC_addF {nm : Int} {l : List Int} (h : BC M k s q) (h8 : (bF q).length < 10) (h0 : mI M' k = fu (mI M k) 10 (iZ ((bF q).length + 1 : Nat))) (h2 : mI M' (k + 2) = fu (mI M (k + 2)) (bF q).length (iZ s)) (h6 : mJ M' (k + 6) = fu (mJ M (k + 6)) (bF q).length (jZ nm)) (h5 : mJ M' (k + 5) = mJ M (k + 5)) (g1 : mI M' (k + 1) = mI M (k + 1)) (g3 : mI M' (k + 3) = mI M (k + 3)) (g4 : mI M' (k + 4) = mI M (k + 4)) (g7 : mI M' (k + 7) 2 = iZ ((s + l.length + 1 : Nat) : Int)) (g10 : mI M' (k + 10) = apL (mI M (k + 10)) s (l ++ [-1])) (n1 : 0 ≤ nm) (n2 : nm < 1000000000000) : BC M' k (s + l.length + 1) (bP q, bF q ++ [(nm, l)], q.2.2) := by
  obtain ⟨P, F, O, R⟩ := q
  simp only [bF] at h8 h0 h2 h6
  obtain ⟨a, ⟨b1, b2, b3⟩, ⟨c1, c2, c3⟩, ht, e1, e2, e3, e4⟩ := h
  simp only [bF, bO] at b1 b2 b3 c1 c2 c3
  have hk : ∀ j, j ≠ 10 → mI M' k j = mI M k j := fun j hj => by rw [h0]; exact if_neg hj
  refine ⟨?_, ⟨?_, ?_, fun i x hx => ?_⟩, ⟨?_, c2, fun i x hx => ?_⟩, ?_, ?_, ?_, ?_, g7⟩
  · rw [hk 0 (by decide), g1, h5]; exact a
  · show mI M' k 10 = iZ ((F ++ [(nm, l)]).length : Nat)
    rw [h0, List.length_append]
    exact if_pos rfl
  · show (F ++ [(nm, l)]).length ≤ 10
    rw [List.length_append]
    exact h8
  · have hx : (F ++ [(nm, l)])[i]? = some x := hx
    rcases app_get hx with ⟨z, hx⟩ | ⟨z, hx⟩
    · have z' : i ≠ F.length := by omega
      obtain ⟨x1, x2, st, x3, x4, x5⟩ := b3 i x hx
      rw [h6, h2, show fu (mJ M (k + 6)) F.length (jZ nm) i = mJ M (k + 6) i from if_neg z', show fu (mI M (k + 2)) F.length (iZ s) i = mI M (k + 2) i from if_neg z']
      exact ⟨x1, x2, st, x3, CL_mono x4 x5 g10, by omega⟩
    · rw [z, ← hx, h6, h2]
      exact ⟨if_pos rfl, ⟨n1, n2⟩, s, if_pos rfl, CL_new g10, by simp only; omega⟩
  · rw [hk 3 (by decide)]; exact c1
  · rw [g3]
    obtain ⟨st, x3, x4, x5⟩ := c3 i x hx
    exact ⟨st, x3, CL_mono x4 x5 g10, by omega⟩
  · rw [hk 5 (by decide), g4]; exact ht
  · rw [hk 7 (by decide)]; exact e1
  · rw [hk 8 (by decide)]; exact e2
  · rw [hk 11 (by decide)]; exact e3
theorem BC_addO {l : List Int} (h : BC M k s q) (h8 : (bO q).length < bC q) (h0 : mI M' k = fu (mI M k) 3 (iZ ((bO q).length + 1 : Nat))) (h3 : mI M' (k + 3) = fu (mI M (k + 3)) (bO q).length (iZ s)) (h6 : mJ M' (k + 6) = mJ M (k + 6)) (h5 : mJ M' (k + 5) = mJ M (k + 5)) (g1 : mI M' (k + 1) = mI M (k + 1)) (g2 : mI M' (k + 2) = mI M (k + 2)) (g4 : mI M' (k + 4) = mI M (k + 4)) (g7 : mI M' (k + 7) 2 = iZ ((s + l.length + 1 : Nat) : Int)) (g10 : mI M' (k + 10) = apL (mI M (k + 10)) s (l ++ [-1])) : BC M' k (s + l.length + 1) (bP q, bF q, bO q ++ [l], q.2.2.2) := by
  obtain ⟨P, F, O, R⟩ := q
  simp only [bO] at h8 h0 h3
  obtain ⟨a, ⟨b1, b2, b3⟩, ⟨c1, c2, c3⟩, ht, e1, e2, e3, e4⟩ := h
  simp only [bF, bO] at b1 b2 b3 c1 c2 c3
  have hk : ∀ j, j ≠ 3 → mI M' k j = mI M k j := fun j hj => by rw [h0]; exact if_neg hj
  refine ⟨?_, ⟨?_, b2, fun i x hx => ?_⟩, ⟨?_, ?_, fun i x hx => ?_⟩, ?_, ?_, ?_, ?_, g7⟩
  · rw [hk 0 (by decide), g1, h5]; exact a
  · rw [hk 10 (by decide)]; exact b1
  · rw [h6, g2]
    obtain ⟨x1, x2, st, x3, x4, x5⟩ := b3 i x hx
    exact ⟨x1, x2, st, x3, CL_mono x4 x5 g10, by omega⟩
  · show mI M' k 3 = iZ ((O ++ [l]).length : Nat)
    rw [h0, List.length_append]
    exact if_pos rfl
  · show (O ++ [l]).length ≤ bC (P, F, O, R)
    rw [List.length_append]
    exact h8
  · have hx : (O ++ [l])[i]? = some x := hx
    rcases app_get hx with ⟨z, hx⟩ | ⟨z, hx⟩
    · have z' : i ≠ O.length := by omega
      obtain ⟨st, x3, x4, x5⟩ := c3 i x hx
      rw [h3, show fu (mI M (k + 3)) O.length (iZ s) i = mI M (k + 3) i from if_neg z']
      exact ⟨st, x3, CL_mono x4 x5 g10, by omega⟩
    · rw [z, ← hx, h3]
      exact ⟨s, if_pos rfl, CL_new g10, by omega⟩
  · rw [hk 5 (by decide), g4]; exact ht
  · rw [hk 7 (by decide)]; exact e1
  · rw [hk 8 (by decide)]; exact e2
  · rw [hk 11 (by decide)]; exact e3
theorem c152 (hst : (gl G).stackTraces = false) {m : Nat} {x : Int} (hB : BK M k n) (h0 : mI M k 10 = iZ m) (hm : m < 10) (x1 : -1 ≤ x) (x2 : x < 2147483648) : Ev G (d + 1) 152 [aR (some k), aI (iZ x)] M 0 (rI fun v M' => v = bZ (x ≠ -1) ∧ M' = rowI (rowI M k (fu (mI M k) 10 (iZ ((m + 1 : Nat) : Int)))) (k + 2) (fu (mI M (k + 2)) m (iZ x))) nX := by
  by_cases h : x = -1
  · refine Ev_wp 2000 hst (by decide) (Nat.le_of_ble_eq_true rfl) ?_; simp (disch := omega) only [en152, wcQ, wcX, wcG, wcL, wcS, w152_0, w152_1, w152_4, w152_5, w152_8, w152_9, w152_10, w152_11, w152_12, w152_15, w152_16, w152_17, w152_20, w152_21, w152_22, w152_25, w152_26, w152_29, w152_30, toI, toJ, toI64, inb_T, inb_iZ, Int.toNat_natCast, cl_0, cl_1, cl_2, cl_3, cl_4, cl_5, cl_6, cl_7, cl_8, cl_9, cl_10, cl_11, cl_12, cl_13, cl_14, cl_15, cl_16, cl_17, cl_18, cl_19, cl_20, cl_21, cl_22, cl_23, cl_24, cl_25, cl_26, cl_27, cl_28, cl_29, cl_30, cl_31, cl_32, cl_36, cl_40, cl_48, cl_60, cl_108, cl_120, cl_200, cl_201, cl_576, cl_600, cl_864, cl_900, cl_960, cl_5400, cl_8040, j2_0, iN_iZ, iN_lit0, iZ_add, iZ_sub, iZ_mul, iZ_neg, jZ_add, jZ_sub, jZ_mul, jZ_neg, isB0, isB1, isBZ, eq0, eq1, bZ0, vI_, vJ_, vA_, rI_, rJ_, rA_, rV_, nX_, tX_, true_and, and_true, false_and, and_false, and_self, implies_true, forall_const, not_true_eq_false, not_false_eq_true, false_implies, true_implies, ↓reduceIte, Nat.reduceEqDiff, Int.reduceToNat, Int.reduceAdd, Int.reduceSub, Int.reduceLT, Int.reduceLE, Int.reduceEq, Int.add_zero, Int.neg_zero, Int.add_sub_cancel, Int.reduceNeg, Nat.reduceLeDiff, Nat.reduceSub, true_or, or_true, false_or, or_false, setI_d, setJ_d, setP_d, mI_row, mJ_row, mP_row, mI_row_ne, mJ_row_ne, mP_row_ne, rowI_rowI, rowJ_rowJ, rowI_sort, rowJ_sort, rowJ_rowI, rowP_rowI, rowP_rowJ, fu_app, fu_fu, mI_rowJ, mI_rowP, mJ_rowI, mJ_rowP, mP_rowI, mP_rowJ, mK_rowI, mN_rowI, mK_rowJ, mN_rowJ, mK_rowP, mN_rowP, oB_rowI, oB_rowJ, iA_rowI, iA_rowJ, iR_rowI, iR_rowJ, St_rowI, St_rowJ, bk_o hB, bk_p2 hB, bk_i2 hB, h0, h]
    exact ⟨fun z => z rfl, rfl⟩
  · refine Ev_wp 2000 hst (by decide) (Nat.le_of_ble_eq_true rfl) ?_; simp (disch := omega) only [en152, wcQ, wcX, wcG, wcL, wcS, w152_0, w152_1, w152_4, w152_5, w152_8, w152_9, w152_10, w152_11, w152_12, w152_15, w152_16, w152_17, w152_20, w152_21, w152_22, w152_25, w152_26, w152_29, w152_30, toI, toJ, toI64, inb_T, inb_iZ, Int.toNat_natCast, cl_0, cl_1, cl_2, cl_3, cl_4, cl_5, cl_6, cl_7, cl_8, cl_9, cl_10, cl_11, cl_12, cl_13, cl_14, cl_15, cl_16, cl_17, cl_18, cl_19, cl_20, cl_21, cl_22, cl_23, cl_24, cl_25, cl_26, cl_27, cl_28, cl_29, cl_30, cl_31, cl_32, cl_36, cl_40, cl_48, cl_60, cl_108, cl_120, cl_200, cl_201, cl_576, cl_600, cl_864, cl_900, cl_960, cl_5400, cl_8040, j2_0, iN_iZ, iN_lit0, iZ_add, iZ_sub, iZ_mul, iZ_neg, jZ_add, jZ_sub, jZ_mul, jZ_neg, isB0, isB1, isBZ, eq0, eq1, bZ0, vI_, vJ_, vA_, rI_, rJ_, rA_, rV_, nX_, tX_, true_and, and_true, false_and, and_false, and_self, implies_true, forall_const, not_true_eq_false, not_false_eq_true, false_implies, true_implies, ↓reduceIte, Nat.reduceEqDiff, Int.reduceToNat, Int.reduceAdd, Int.reduceSub, Int.reduceLT, Int.reduceLE, Int.reduceEq, Int.add_zero, Int.neg_zero, Int.add_sub_cancel, Int.reduceNeg, Nat.reduceLeDiff, Nat.reduceSub, true_or, or_true, false_or, or_false, setI_d, setJ_d, setP_d, mI_row, mJ_row, mP_row, mI_row_ne, mJ_row_ne, mP_row_ne, rowI_rowI, rowJ_rowJ, rowI_sort, rowJ_sort, rowJ_rowI, rowP_rowI, rowP_rowJ, fu_app, fu_fu, mI_rowJ, mI_rowP, mJ_rowI, mJ_rowP, mP_rowI, mP_rowJ, mK_rowI, mN_rowI, mK_rowJ, mN_rowJ, mK_rowP, mN_rowP, oB_rowI, oB_rowJ, iA_rowI, iA_rowJ, iR_rowI, iR_rowJ, St_rowI, St_rowJ, bk_o hB, bk_p2 hB, bk_i2 hB, h0, h]
    exact ⟨h, rfl⟩
theorem c153 (hst : (gl G).stackTraces = false) {m : Nat} {x : Int} (hB : BK M k n) (h0 : mI M k 3 = iZ m) (hm : m < 20) (x1 : -1 ≤ x) (x2 : x < 2147483648) : Ev G (d + 1) 153 [aR (some k), aI (iZ x)] M 0 (rI fun v M' => v = bZ (x ≠ -1) ∧ M' = rowI (rowI M k (fu (mI M k) 3 (iZ ((m + 1 : Nat) : Int)))) (k + 3) (fu (mI M (k + 3)) m (iZ x))) nX := by
  by_cases h : x = -1
  · refine Ev_wp 2000 hst (by decide) (Nat.le_of_ble_eq_true rfl) ?_; simp (disch := omega) only [en153, wcQ, wcX, wcG, wcL, wcS, w153_0, w153_1, w153_4, w153_5, w153_8, w153_9, w153_10, w153_11, w153_12, w153_15, w153_16, w153_17, w153_20, w153_21, w153_22, w153_25, w153_26, w153_29, w153_30, toI, toJ, toI64, inb_T, inb_iZ, Int.toNat_natCast, cl_0, cl_1, cl_2, cl_3, cl_4, cl_5, cl_6, cl_7, cl_8, cl_9, cl_10, cl_11, cl_12, cl_13, cl_14, cl_15, cl_16, cl_17, cl_18, cl_19, cl_20, cl_21, cl_22, cl_23, cl_24, cl_25, cl_26, cl_27, cl_28, cl_29, cl_30, cl_31, cl_32, cl_36, cl_40, cl_48, cl_60, cl_108, cl_120, cl_200, cl_201, cl_576, cl_600, cl_864, cl_900, cl_960, cl_5400, cl_8040, j2_0, iN_iZ, iN_lit0, iZ_add, iZ_sub, iZ_mul, iZ_neg, jZ_add, jZ_sub, jZ_mul, jZ_neg, isB0, isB1, isBZ, eq0, eq1, bZ0, vI_, vJ_, vA_, rI_, rJ_, rA_, rV_, nX_, tX_, true_and, and_true, false_and, and_false, and_self, implies_true, forall_const, not_true_eq_false, not_false_eq_true, false_implies, true_implies, ↓reduceIte, Nat.reduceEqDiff, Int.reduceToNat, Int.reduceAdd, Int.reduceSub, Int.reduceLT, Int.reduceLE, Int.reduceEq, Int.add_zero, Int.neg_zero, Int.add_sub_cancel, Int.reduceNeg, Nat.reduceLeDiff, Nat.reduceSub, true_or, or_true, false_or, or_false, setI_d, setJ_d, setP_d, mI_row, mJ_row, mP_row, mI_row_ne, mJ_row_ne, mP_row_ne, rowI_rowI, rowJ_rowJ, rowI_sort, rowJ_sort, rowJ_rowI, rowP_rowI, rowP_rowJ, fu_app, fu_fu, mI_rowJ, mI_rowP, mJ_rowI, mJ_rowP, mP_rowI, mP_rowJ, mK_rowI, mN_rowI, mK_rowJ, mN_rowJ, mK_rowP, mN_rowP, oB_rowI, oB_rowJ, iA_rowI, iA_rowJ, iR_rowI, iR_rowJ, St_rowI, St_rowJ, bk_o hB, bk_p4 hB, bk_i3 hB, h0, h]
    exact ⟨fun z => z rfl, rfl⟩
  · refine Ev_wp 2000 hst (by decide) (Nat.le_of_ble_eq_true rfl) ?_; simp (disch := omega) only [en153, wcQ, wcX, wcG, wcL, wcS, w153_0, w153_1, w153_4, w153_5, w153_8, w153_9, w153_10, w153_11, w153_12, w153_15, w153_16, w153_17, w153_20, w153_21, w153_22, w153_25, w153_26, w153_29, w153_30, toI, toJ, toI64, inb_T, inb_iZ, Int.toNat_natCast, cl_0, cl_1, cl_2, cl_3, cl_4, cl_5, cl_6, cl_7, cl_8, cl_9, cl_10, cl_11, cl_12, cl_13, cl_14, cl_15, cl_16, cl_17, cl_18, cl_19, cl_20, cl_21, cl_22, cl_23, cl_24, cl_25, cl_26, cl_27, cl_28, cl_29, cl_30, cl_31, cl_32, cl_36, cl_40, cl_48, cl_60, cl_108, cl_120, cl_200, cl_201, cl_576, cl_600, cl_864, cl_900, cl_960, cl_5400, cl_8040, j2_0, iN_iZ, iN_lit0, iZ_add, iZ_sub, iZ_mul, iZ_neg, jZ_add, jZ_sub, jZ_mul, jZ_neg, isB0, isB1, isBZ, eq0, eq1, bZ0, vI_, vJ_, vA_, rI_, rJ_, rA_, rV_, nX_, tX_, true_and, and_true, false_and, and_false, and_self, implies_true, forall_const, not_true_eq_false, not_false_eq_true, false_implies, true_implies, ↓reduceIte, Nat.reduceEqDiff, Int.reduceToNat, Int.reduceAdd, Int.reduceSub, Int.reduceLT, Int.reduceLE, Int.reduceEq, Int.add_zero, Int.neg_zero, Int.add_sub_cancel, Int.reduceNeg, Nat.reduceLeDiff, Nat.reduceSub, true_or, or_true, false_or, or_false, setI_d, setJ_d, setP_d, mI_row, mJ_row, mP_row, mI_row_ne, mJ_row_ne, mP_row_ne, rowI_rowI, rowJ_rowJ, rowI_sort, rowJ_sort, rowJ_rowI, rowP_rowI, rowP_rowJ, fu_app, fu_fu, mI_rowJ, mI_rowP, mJ_rowI, mJ_rowP, mP_rowI, mP_rowJ, mK_rowI, mN_rowI, mK_rowJ, mN_rowJ, mK_rowP, mN_rowP, oB_rowI, oB_rowJ, iA_rowI, iA_rowJ, iR_rowI, iR_rowJ, St_rowI, St_rowJ, bk_o hB, bk_p4 hB, bk_i3 hB, h0, h]
    exact ⟨h, rfl⟩
theorem c154 (hst : (gl G).stackTraces = false) {P : Nat → Int} {x : Int} {c : Nat} (hB : BK M k n) (h0 : mI M k 0 = iZ c) (hc : c ≤ 8) (hP : ∀ i, i < c → mJ M (k + 5) i = jZ (P i)) (bP' : ∀ i, i < c → 0 ≤ P i ∧ P i < 1000000000000) (x1 : 0 ≤ x) (x2 : x < 1000000000000) : Ev G (d + 2) 154 [aR (some k), aL (jZ x)] M 0 (vI (iZ (ixO P x c)) M) nX := by
  have e := c134 (G := G) (d := d) (M := M) (a := k + 5) (L := 8) (c := c) (P := P) (x := x) hst (by rw [bk_o5 hB]; trivial) (bk_k5 hB) hc (by decide) hP bP' x1 x2
  refine Ev_wp 2000 hst (by decide) (Nat.le_of_ble_eq_true rfl) ?_; simp (disch := omega) only [en154, wcQ, wcX, wcG, wcL, wcS, w154_0, w154_1, w154_4, w154_5, w154_8, w154_9, toI, toJ, toI64, inb_T, inb_iZ, Int.toNat_natCast, cl_0, cl_1, cl_2, cl_3, cl_4, cl_5, cl_6, cl_7, cl_8, cl_9, cl_10, cl_11, cl_12, cl_13, cl_14, cl_15, cl_16, cl_17, cl_18, cl_19, cl_20, cl_21, cl_22, cl_23, cl_24, cl_25, cl_26, cl_27, cl_28, cl_29, cl_30, cl_31, cl_32, cl_36, cl_40, cl_48, cl_60, cl_108, cl_120, cl_200, cl_201, cl_576, cl_600, cl_864, cl_900, cl_960, cl_5400, cl_8040, j2_0, iN_iZ, iN_lit0, iZ_add, iZ_sub, iZ_mul, iZ_neg, jZ_add, jZ_sub, jZ_mul, jZ_neg, isB0, isB1, isBZ, eq0, eq1, bZ0, vI_, vJ_, vA_, rI_, rJ_, rA_, rV_, nX_, tX_, true_and, and_true, false_and, and_false, and_self, implies_true, forall_const, not_true_eq_false, not_false_eq_true, false_implies, true_implies, ↓reduceIte, Nat.reduceEqDiff, Int.reduceToNat, Int.reduceAdd, Int.reduceSub, Int.reduceLT, Int.reduceLE, Int.reduceEq, Int.add_zero, Int.neg_zero, Int.add_sub_cancel, Int.reduceNeg, Nat.reduceLeDiff, Nat.reduceSub, true_or, or_true, false_or, or_false, setI_d, setJ_d, setP_d, mI_row, mJ_row, mP_row, mI_row_ne, mJ_row_ne, mP_row_ne, rowI_rowI, rowJ_rowJ, rowI_sort, rowJ_sort, rowJ_rowI, rowP_rowI, rowP_rowJ, fu_app, fu_fu, mI_rowJ, mI_rowP, mJ_rowI, mJ_rowP, mP_rowI, mP_rowJ, mK_rowI, mN_rowI, mK_rowJ, mN_rowJ, mK_rowP, mN_rowP, oB_rowI, oB_rowJ, iA_rowI, iA_rowJ, iR_rowI, iR_rowJ, St_rowI, St_rowJ, bk_o hB, bk_p12 hB, h0]
  refine kI0 e ?_
  simp (disch := omega) only [wcQ, wcX, wcG, wcL, wcS, w154_12, toI, toJ, toI64, inb_T, inb_iZ, Int.toNat_natCast, cl_0, cl_1, cl_2, cl_3, cl_4, cl_5, cl_6, cl_7, cl_8, cl_9, cl_10, cl_11, cl_12, cl_13, cl_14, cl_15, cl_16, cl_17, cl_18, cl_19, cl_20, cl_21, cl_22, cl_23, cl_24, cl_25, cl_26, cl_27, cl_28, cl_29, cl_30, cl_31, cl_32, cl_36, cl_40, cl_48, cl_60, cl_108, cl_120, cl_200, cl_201, cl_576, cl_600, cl_864, cl_900, cl_960, cl_5400, cl_8040, j2_0, iN_iZ, iN_lit0, iZ_add, iZ_sub, iZ_mul, iZ_neg, jZ_add, jZ_sub, jZ_mul, jZ_neg, isB0, isB1, isBZ, eq0, eq1, bZ0, vI_, vJ_, vA_, rI_, rJ_, rA_, rV_, nX_, tX_, true_and, and_true, false_and, and_false, and_self, implies_true, forall_const, not_true_eq_false, not_false_eq_true, false_implies, true_implies, ↓reduceIte, Nat.reduceEqDiff, Int.reduceToNat, Int.reduceAdd, Int.reduceSub, Int.reduceLT, Int.reduceLE, Int.reduceEq, Int.add_zero, Int.neg_zero, Int.add_sub_cancel, Int.reduceNeg, Nat.reduceLeDiff, Nat.reduceSub, true_or, or_true, false_or, or_false, setI_d, setJ_d, setP_d, mI_row, mJ_row, mP_row, mI_row_ne, mJ_row_ne, mP_row_ne, rowI_rowI, rowJ_rowJ, rowI_sort, rowJ_sort, rowJ_rowI, rowP_rowI, rowP_rowJ, fu_app, fu_fu, mI_rowJ, mI_rowP, mJ_rowI, mJ_rowP, mP_rowI, mP_rowJ, mK_rowI, mN_rowI, mK_rowJ, mN_rowJ, mK_rowP, mN_rowP, oB_rowI, oB_rowJ, iA_rowI, iA_rowJ, iR_rowI, iR_rowJ, St_rowI, St_rowJ]
/-- what stands at a fault's name -/
def fnE (B : Nat → Nat) (n b : Nat) (F : List (Int × List Int)) : Nat × Nat := if nnE B n b (gN F) F.length ≠ 0 then (nnE B n b (gN F) F.length, b) else if ¬ twd B n (nxT B n b) 14 then (1, nxT B n b) else (0, 0)
theorem c142 (hst : (gl G).stackTraces = false) (hS : Static M) (hT : TC M B n b) (hB : BK M k n) (hC : BC M k s q) (h10 : (bF q).length < 10) : Ev G (d + 8) 142 [aR (some k), aR (some 91)] M 0 (rI fun v M' => Fm M M' k ∧ ((∃ e p, fnE B n b (bF q) = (e + 1, p) ∧ v = iZ 0 ∧ mI M' 91 2 = iZ ((e + 1 : Nat) : Int) ∧ mI M' 91 3 = iZ p) ∨ ((fnE B n b (bF q)).1 = 0 ∧ v = iZ 1 ∧ TC M' B n (nxT B n (nxT B n b)) ∧ mJ M' (k + 6) = fu (mJ M (k + 6)) (bF q).length (jZ (nc B b (tl B n b))) ∧ mJ M' (k + 5) = mJ M (k + 5) ∧ ∀ c, c ≠ 91 → mI M' c = mI M c))) nX := by
  have n6 := hT.1.1
  obtain ⟨k1, k2, _⟩ := id hB
  obtain ⟨_, ⟨hf0, hf8, hfx⟩, _⟩ := id hC
  have nb := nxT_b (B := B) (n := n) (b := b)
  have e2 := c135 (G := G) (d := d) (M := M) (a := k + 6) (L := 10) (c := (bF q).length) (P := gN (bF q)) hst hS hT (by rw [bk_o6 hB]; trivial) (bk_k6 hB) (by omega) (by decide) (fun i hi => by
    obtain ⟨x, x1, x2⟩ := gN_lt hi
    rw [x2]; exact (hfx i x x1).1) (fun i hi => by
    obtain ⟨x, x1, x2⟩ := gN_lt hi
    rw [x2]; exact (hfx i x x1).2.1)
  refine Ev_wp 2000 hst (by decide) (Nat.le_of_ble_eq_true rfl) ?_; simp (disch := omega) only [en142, wcQ, wcX, wcG, wcL, wcS, w142_0, w142_1, w142_2, w142_5, w142_6, w142_9, toI, toJ, toI64, inb_T, inb_iZ, Int.toNat_natCast, cl_0, cl_1, cl_2, cl_3, cl_4, cl_5, cl_6, cl_7, cl_8, cl_9, cl_10, cl_11, cl_12, cl_13, cl_14, cl_15, cl_16, cl_17, cl_18, cl_19, cl_20, cl_21, cl_22, cl_23, cl_24, cl_25, cl_26, cl_27, cl_28, cl_29, cl_30, cl_31, cl_32, cl_36, cl_40, cl_48, cl_60, cl_108, cl_120, cl_200, cl_201, cl_576, cl_600, cl_864, cl_900, cl_960, cl_5400, cl_8040, j2_0, iN_iZ, iN_lit0, iZ_add, iZ_sub, iZ_mul, iZ_neg, jZ_add, jZ_sub, jZ_mul, jZ_neg, isB0, isB1, isBZ, eq0, eq1, bZ0, vI_, vJ_, vA_, rI_, rJ_, rA_, rV_, nX_, tX_, true_and, and_true, false_and, and_false, and_self, implies_true, forall_const, not_true_eq_false, not_false_eq_true, false_implies, true_implies, ↓reduceIte, Nat.reduceEqDiff, Int.reduceToNat, Int.reduceAdd, Int.reduceSub, Int.reduceLT, Int.reduceLE, Int.reduceEq, Int.add_zero, Int.neg_zero, Int.add_sub_cancel, Int.reduceNeg, Nat.reduceLeDiff, Nat.reduceSub, true_or, or_true, false_or, or_false, setI_d, setJ_d, setP_d, mI_row, mJ_row, mP_row, mI_row_ne, mJ_row_ne, mP_row_ne, rowI_rowI, rowJ_rowJ, rowI_sort, rowJ_sort, rowJ_rowI, rowP_rowI, rowP_rowJ, fu_app, fu_fu, mI_rowJ, mI_rowP, mJ_rowI, mJ_rowP, mP_rowI, mP_rowJ, mK_rowI, mN_rowI, mK_rowJ, mN_rowJ, mK_rowP, mN_rowP, oB_rowI, oB_rowJ, iA_rowI, iA_rowJ, iR_rowI, iR_rowJ, St_rowI, St_rowJ, bk_o hB, bk_p13 hB, hf0]
  refine kI e2 (Nat.le_refl _) (fun v Mx hq => ?_) (fun e M' h => False.elim h)
  rcases hq with ⟨e, he, rfl, rfl⟩ | ⟨he, rfl, hMx⟩
  · have hr : fnE B n b (bF q) = (e + 1, b) := by unfold fnE; rw [he, if_pos (by omega)]
    simp (disch := omega) only [wcQ, wcX, wcG, wcL, wcS, w142_12, w142_15, w142_16, toI, toJ, toI64, inb_T, inb_iZ, Int.toNat_natCast, cl_0, cl_1, cl_2, cl_3, cl_4, cl_5, cl_6, cl_7, cl_8, cl_9, cl_10, cl_11, cl_12, cl_13, cl_14, cl_15, cl_16, cl_17, cl_18, cl_19, cl_20, cl_21, cl_22, cl_23, cl_24, cl_25, cl_26, cl_27, cl_28, cl_29, cl_30, cl_31, cl_32, cl_36, cl_40, cl_48, cl_60, cl_108, cl_120, cl_200, cl_201, cl_576, cl_600, cl_864, cl_900, cl_960, cl_5400, cl_8040, j2_0, iN_iZ, iN_lit0, iZ_add, iZ_sub, iZ_mul, iZ_neg, jZ_add, jZ_sub, jZ_mul, jZ_neg, isB0, isB1, isBZ, eq0, eq1, bZ0, vI_, vJ_, vA_, rI_, rJ_, rA_, rV_, nX_, tX_, true_and, and_true, false_and, and_false, and_self, implies_true, forall_const, not_true_eq_false, not_false_eq_true, false_implies, true_implies, ↓reduceIte, Nat.reduceEqDiff, Int.reduceToNat, Int.reduceAdd, Int.reduceSub, Int.reduceLT, Int.reduceLE, Int.reduceEq, Int.add_zero, Int.neg_zero, Int.add_sub_cancel, Int.reduceNeg, Nat.reduceLeDiff, Nat.reduceSub, true_or, or_true, false_or, or_false, setI_d, setJ_d, setP_d, mI_row, mJ_row, mP_row, mI_row_ne, mJ_row_ne, mP_row_ne, rowI_rowI, rowJ_rowJ, rowI_sort, rowJ_sort, rowJ_rowI, rowP_rowI, rowP_rowJ, fu_app, fu_fu, mI_rowJ, mI_rowP, mJ_rowI, mJ_rowP, mP_rowI, mP_rowJ, mK_rowI, mN_rowI, mK_rowJ, mN_rowJ, mK_rowP, mN_rowP, oB_rowI, oB_rowJ, iA_rowI, iA_rowJ, iR_rowI, iR_rowJ, St_rowI, St_rowJ]
    exact ⟨Fm_rf, Or.inl ⟨e, b, hr, rf_2, rf_3⟩⟩
  · have hMx := hMx.symm
    subst hMx
    obtain ⟨nm1, nm2, nm3⟩ := nn_0 he
    have b1b := tk_lt (B := B) (n := n) (b := b) (by have := nm1.1; omega)
    have e3 := c133 (G := G) (d := d + 6) hst hS hT nm1.1 nm2
    simp (disch := omega) only [wcQ, wcX, wcG, wcL, wcS, w142_12, w142_17, w142_18, w142_21, w142_22, w142_25, w142_26, toI, toJ, toI64, inb_T, inb_iZ, Int.toNat_natCast, cl_0, cl_1, cl_2, cl_3, cl_4, cl_5, cl_6, cl_7, cl_8, cl_9, cl_10, cl_11, cl_12, cl_13, cl_14, cl_15, cl_16, cl_17, cl_18, cl_19, cl_20, cl_21, cl_22, cl_23, cl_24, cl_25, cl_26, cl_27, cl_28, cl_29, cl_30, cl_31, cl_32, cl_36, cl_40, cl_48, cl_60, cl_108, cl_120, cl_200, cl_201, cl_576, cl_600, cl_864, cl_900, cl_960, cl_5400, cl_8040, j2_0, iN_iZ, iN_lit0, iZ_add, iZ_sub, iZ_mul, iZ_neg, jZ_add, jZ_sub, jZ_mul, jZ_neg, isB0, isB1, isBZ, eq0, eq1, bZ0, vI_, vJ_, vA_, rI_, rJ_, rA_, rV_, nX_, tX_, true_and, and_true, false_and, and_false, and_self, implies_true, forall_const, not_true_eq_false, not_false_eq_true, false_implies, true_implies, ↓reduceIte, Nat.reduceEqDiff, Int.reduceToNat, Int.reduceAdd, Int.reduceSub, Int.reduceLT, Int.reduceLE, Int.reduceEq, Int.add_zero, Int.neg_zero, Int.add_sub_cancel, Int.reduceNeg, Nat.reduceLeDiff, Nat.reduceSub, true_or, or_true, false_or, or_false, setI_d, setJ_d, setP_d, mI_row, mJ_row, mP_row, mI_row_ne, mJ_row_ne, mP_row_ne, rowI_rowI, rowJ_rowJ, rowI_sort, rowJ_sort, rowJ_rowI, rowP_rowI, rowP_rowJ, fu_app, fu_fu, mI_rowJ, mI_rowP, mJ_rowI, mJ_rowP, mP_rowI, mP_rowJ, mK_rowI, mN_rowI, mK_rowJ, mN_rowJ, mK_rowP, mN_rowP, oB_rowI, oB_rowJ, iA_rowI, iA_rowJ, iR_rowI, iR_rowJ, St_rowI, St_rowJ, bk_o hB, bk_p13 hB, hf0, O91 hS]
    refine kJ0 e3 ?_
    simp (disch := omega) only [wcQ, wcX, wcG, wcL, wcS, w142_29, w142_30, w142_31, toI, toJ, toI64, inb_T, inb_iZ, Int.toNat_natCast, cl_0, cl_1, cl_2, cl_3, cl_4, cl_5, cl_6, cl_7, cl_8, cl_9, cl_10, cl_11, cl_12, cl_13, cl_14, cl_15, cl_16, cl_17, cl_18, cl_19, cl_20, cl_21, cl_22, cl_23, cl_24, cl_25, cl_26, cl_27, cl_28, cl_29, cl_30, cl_31, cl_32, cl_36, cl_40, cl_48, cl_60, cl_108, cl_120, cl_200, cl_201, cl_576, cl_600, cl_864, cl_900, cl_960, cl_5400, cl_8040, j2_0, iN_iZ, iN_lit0, iZ_add, iZ_sub, iZ_mul, iZ_neg, jZ_add, jZ_sub, jZ_mul, jZ_neg, isB0, isB1, isBZ, eq0, eq1, bZ0, vI_, vJ_, vA_, rI_, rJ_, rA_, rV_, nX_, tX_, true_and, and_true, false_and, and_false, and_self, implies_true, forall_const, not_true_eq_false, not_false_eq_true, false_implies, true_implies, ↓reduceIte, Nat.reduceEqDiff, Int.reduceToNat, Int.reduceAdd, Int.reduceSub, Int.reduceLT, Int.reduceLE, Int.reduceEq, Int.add_zero, Int.neg_zero, Int.add_sub_cancel, Int.reduceNeg, Nat.reduceLeDiff, Nat.reduceSub, true_or, or_true, false_or, or_false, setI_d, setJ_d, setP_d, mI_row, mJ_row, mP_row, mI_row_ne, mJ_row_ne, mP_row_ne, rowI_rowI, rowJ_rowJ, rowI_sort, rowJ_sort, rowJ_rowI, rowP_rowI, rowP_rowJ, fu_app, fu_fu, mI_rowJ, mI_rowP, mJ_rowI, mJ_rowP, mP_rowI, mP_rowJ, mK_rowI, mN_rowI, mK_rowJ, mN_rowJ, mK_rowP, mN_rowP, oB_rowI, oB_rowJ, iA_rowI, iA_rowJ, iR_rowI, iR_rowJ, St_rowI, St_rowJ, bk_o hB, bk_p13 hB, hf0, bk_i6 hB, O91 hS]
    have hM2 : Fm M (rowJ M (k + 6) (fu (mJ M (k + 6)) (bF q).length (jZ (nc B b (tl B n b))))) k := Fm_J (by omega) (by omega)
    have T2 : TC (rowJ M (k + 6) (fu (mJ M (k + 6)) (bF q).length (jZ (nc B b (tl B n b))))) B n b := hT
    have S2 := Fm_Static hM2 hS
    have e4 := c124t (G := G) (d := d + 6) hst S2 T2
    refine kV e4 (Nat.le_refl _) (fun M' hq => ?_) (fun e M' h => False.elim h)
    have T3 : TC M' B n (nxT B n b) := by rw [hq]; exact TC_st T2.1 (nb.2.1 (by omega))
    have F3 : Fm M M' k := by rw [hq]; exact Fm_tr hM2 Fm_st
    have J6 : mJ M' (k + 6) = fu (mJ M (k + 6)) (bF q).length (jZ (nc B b (tl B n b))) := by rw [hq]; unfold stM; rw [mJ_rowI, mJ_row]
    have J5 : mJ M' (k + 5) = mJ M (k + 5) := by rw [hq]; unfold stM; rw [mJ_rowI, mJ_row_ne (by omega)]
    have I3 : ∀ c, c ≠ 91 → mI M' c = mI M c := fun c hc => by rw [hq]; unfold stM; rw [mI_row_ne hc]; rfl
    have S3 := Fm_Static F3 hS
    have h430 : (4 : Nat) < 30 := by decide
    have e5 := c141 (G := G) (d := d) (a := 4) (k := 14) hst S3 (by decide) (by decide) (by decide) str_ok.2.2.2.2.1 T3
    have c2n := T3.2.1
    have nb3 := nxT_b (B := B) (n := n) (b := nxT B n b)
    simp (disch := omega) only [wcQ, wcX, wcG, wcL, wcS, w142_34, w142_35, w142_37, toI, toJ, toI64, inb_T, inb_iZ, Int.toNat_natCast, cl_0, cl_1, cl_2, cl_3, cl_4, cl_5, cl_6, cl_7, cl_8, cl_9, cl_10, cl_11, cl_12, cl_13, cl_14, cl_15, cl_16, cl_17, cl_18, cl_19, cl_20, cl_21, cl_22, cl_23, cl_24, cl_25, cl_26, cl_27, cl_28, cl_29, cl_30, cl_31, cl_32, cl_36, cl_40, cl_48, cl_60, cl_108, cl_120, cl_200, cl_201, cl_576, cl_600, cl_864, cl_900, cl_960, cl_5400, cl_8040, j2_0, iN_iZ, iN_lit0, iZ_add, iZ_sub, iZ_mul, iZ_neg, jZ_add, jZ_sub, jZ_mul, jZ_neg, isB0, isB1, isBZ, eq0, eq1, bZ0, vI_, vJ_, vA_, rI_, rJ_, rA_, rV_, nX_, tX_, true_and, and_true, false_and, and_false, and_self, implies_true, forall_const, not_true_eq_false, not_false_eq_true, false_implies, true_implies, ↓reduceIte, Nat.reduceEqDiff, Int.reduceToNat, Int.reduceAdd, Int.reduceSub, Int.reduceLT, Int.reduceLE, Int.reduceEq, Int.add_zero, Int.neg_zero, Int.add_sub_cancel, Int.reduceNeg, Nat.reduceLeDiff, Nat.reduceSub, true_or, or_true, false_or, or_false, setI_d, setJ_d, setP_d, mI_row, mJ_row, mP_row, mI_row_ne, mJ_row_ne, mP_row_ne, rowI_rowI, rowJ_rowJ, rowI_sort, rowJ_sort, rowJ_rowI, rowP_rowI, rowP_rowJ, fu_app, fu_fu, mI_rowJ, mI_rowP, mJ_rowI, mJ_rowP, mP_rowI, mP_rowJ, mK_rowI, mN_rowI, mK_rowJ, mN_rowJ, mK_rowP, mN_rowP, oB_rowI, oB_rowJ, iA_rowI, iA_rowJ, iR_rowI, iR_rowJ, St_rowI, St_rowJ, O91 S3, h430]
    refine kI e5 (Nat.le_refl _) (fun v Mx hq => ?_) (fun e M' h => False.elim h)
    rcases hq with ⟨hw, rfl, rfl⟩ | ⟨hw, rfl, rfl⟩
    · have hr : (fnE B n b (bF q)).1 = 0 := by unfold fnE; rw [he, if_neg (by omega), if_neg (fun z => z hw)]
      simp (disch := omega) only [wcQ, wcX, wcG, wcL, wcS, w142_40, toI, toJ, toI64, inb_T, inb_iZ, Int.toNat_natCast, cl_0, cl_1, cl_2, cl_3, cl_4, cl_5, cl_6, cl_7, cl_8, cl_9, cl_10, cl_11, cl_12, cl_13, cl_14, cl_15, cl_16, cl_17, cl_18, cl_19, cl_20, cl_21, cl_22, cl_23, cl_24, cl_25, cl_26, cl_27, cl_28, cl_29, cl_30, cl_31, cl_32, cl_36, cl_40, cl_48, cl_60, cl_108, cl_120, cl_200, cl_201, cl_576, cl_600, cl_864, cl_900, cl_960, cl_5400, cl_8040, j2_0, iN_iZ, iN_lit0, iZ_add, iZ_sub, iZ_mul, iZ_neg, jZ_add, jZ_sub, jZ_mul, jZ_neg, isB0, isB1, isBZ, eq0, eq1, bZ0, vI_, vJ_, vA_, rI_, rJ_, rA_, rV_, nX_, tX_, true_and, and_true, false_and, and_false, and_self, implies_true, forall_const, not_true_eq_false, not_false_eq_true, false_implies, true_implies, ↓reduceIte, Nat.reduceEqDiff, Int.reduceToNat, Int.reduceAdd, Int.reduceSub, Int.reduceLT, Int.reduceLE, Int.reduceEq, Int.add_zero, Int.neg_zero, Int.add_sub_cancel, Int.reduceNeg, Nat.reduceLeDiff, Nat.reduceSub, true_or, or_true, false_or, or_false, setI_d, setJ_d, setP_d, mI_row, mJ_row, mP_row, mI_row_ne, mJ_row_ne, mP_row_ne, rowI_rowI, rowJ_rowJ, rowI_sort, rowJ_sort, rowJ_rowI, rowP_rowI, rowP_rowJ, fu_app, fu_fu, mI_rowJ, mI_rowP, mJ_rowI, mJ_rowP, mP_rowI, mP_rowJ, mK_rowI, mN_rowI, mK_rowJ, mN_rowJ, mK_rowP, mN_rowP, oB_rowI, oB_rowJ, iA_rowI, iA_rowJ, iR_rowI, iR_rowJ, St_rowI, St_rowJ]
      refine ⟨Fm_tr F3 Fm_st, Or.inr ⟨hr, TC_st T3.1 (nb3.2.1 c2n), ?_, ?_, fun c hc => ?_⟩⟩
      · unfold stM; rw [mJ_rowI]; exact J6
      · unfold stM; rw [mJ_rowI]; exact J5
      · unfold stM; rw [mI_row_ne hc]; exact I3 c hc
    · have hr : fnE B n b (bF q) = (0 + 1, nxT B n b) := by unfold fnE; rw [he, if_neg (by omega), if_pos hw]
      simp (disch := omega) only [wcQ, wcX, wcG, wcL, wcS, w142_40, toI, toJ, toI64, inb_T, inb_iZ, Int.toNat_natCast, cl_0, cl_1, cl_2, cl_3, cl_4, cl_5, cl_6, cl_7, cl_8, cl_9, cl_10, cl_11, cl_12, cl_13, cl_14, cl_15, cl_16, cl_17, cl_18, cl_19, cl_20, cl_21, cl_22, cl_23, cl_24, cl_25, cl_26, cl_27, cl_28, cl_29, cl_30, cl_31, cl_32, cl_36, cl_40, cl_48, cl_60, cl_108, cl_120, cl_200, cl_201, cl_576, cl_600, cl_864, cl_900, cl_960, cl_5400, cl_8040, j2_0, iN_iZ, iN_lit0, iZ_add, iZ_sub, iZ_mul, iZ_neg, jZ_add, jZ_sub, jZ_mul, jZ_neg, isB0, isB1, isBZ, eq0, eq1, bZ0, vI_, vJ_, vA_, rI_, rJ_, rA_, rV_, nX_, tX_, true_and, and_true, false_and, and_false, and_self, implies_true, forall_const, not_true_eq_false, not_false_eq_true, false_implies, true_implies, ↓reduceIte, Nat.reduceEqDiff, Int.reduceToNat, Int.reduceAdd, Int.reduceSub, Int.reduceLT, Int.reduceLE, Int.reduceEq, Int.add_zero, Int.neg_zero, Int.add_sub_cancel, Int.reduceNeg, Nat.reduceLeDiff, Nat.reduceSub, true_or, or_true, false_or, or_false, setI_d, setJ_d, setP_d, mI_row, mJ_row, mP_row, mI_row_ne, mJ_row_ne, mP_row_ne, rowI_rowI, rowJ_rowJ, rowI_sort, rowJ_sort, rowJ_rowI, rowP_rowI, rowP_rowJ, fu_app, fu_fu, mI_rowJ, mI_rowP, mJ_rowI, mJ_rowP, mP_rowI, mP_rowJ, mK_rowI, mN_rowI, mK_rowJ, mN_rowJ, mK_rowP, mN_rowP, oB_rowI, oB_rowJ, iA_rowI, iA_rowJ, iR_rowI, iR_rowJ, St_rowI, St_rowJ]
      exact ⟨Fm_tr F3 Fm_rf, Or.inl ⟨0, _, hr, rf_2, rf_3⟩⟩
end

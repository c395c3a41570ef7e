/-! SCALE: the reference's determinant. -/
section
variable {G : GE} {d : Nat} {M M' M'' : Mem} {n a b i j c u r : Nat}
def clr (u c : Nat) : Nat := if u / 2 ^ c % 2 = 1 then u - 2 ^ c else u
theorem clr_z (hu : u < 64) (hc : c < 6) : iZ u &&& (iZ ((2 ^ c : Nat) : Int) ^^^ iZ (-1)) = iZ (clr u c) := by
  have h : (List.range 64).all (fun u => (List.range 6).all (fun c => decide (iZ u &&& (iZ ((2 ^ c : Nat) : Int) ^^^ iZ (-1)) = iZ (clr u c)))) = true := by decide +kernel
  exact of_decide_eq_true (List.all_eq_true.mp (List.all_eq_true.mp h u (List.mem_range.mpr hu)) c (List.mem_range.mpr hc))
theorem clr_b (hu : u < 64) (hc : c < 6) (hj : j < 6) : clr u c / 2 ^ j % 2 = (if j = c then 0 else u / 2 ^ j % 2) ∧ clr u c < 64 := by
  have h : (List.range 64).all (fun u => (List.range 6).all (fun c => (List.range 6).all (fun j => decide (clr u c / 2 ^ j % 2 = (if j = c then 0 else u / 2 ^ j % 2) ∧ clr u c < 64)))) = true := by decide +kernel
  exact of_decide_eq_true (List.all_eq_true.mp (List.all_eq_true.mp (List.all_eq_true.mp h u (List.mem_range.mpr hu)) c (List.mem_range.mpr hc)) j (List.mem_range.mpr hj))
/-- the numbers whose bits stand -/
def stB (u a k : Nat) : List Nat := (List.range' a k).filter (fun c => decide (u / 2 ^ c % 2 = 1))
theorem stB_y {u a k : Nat} (h : u / 2 ^ a % 2 = 1) : stB u a (k + 1) = a :: stB u (a + 1) k := by
  unfold stB
  rw [List.range'_succ, List.filter_cons, if_pos (decide_eq_true h)]
theorem stB_n {u a k : Nat} (h : ¬ u / 2 ^ a % 2 = 1) : stB u a (k + 1) = stB u (a + 1) k := by
  unfold stB
  rw [List.range'_succ, List.filter_cons, if_neg (by rw [decide_eq_false h]; decide)]
theorem stB_app {u k l : Nat} (a : Nat) : stB u a (k + l) = stB u a k ++ stB u (a + k) l := by
  unfold stB
  rw [← List.filter_append, List.range'_append_1]
theorem stB_clr {u c : Nat} (hu : u < 64) (hc : c < 6) (a k : Nat) (h : c < a ∨ a + k ≤ c) (h6 : a + k ≤ 6) : stB (clr u c) a k = stB u a k := by
  unfold stB
  refine List.filter_congr (fun x hx => ?_)
  have := List.mem_range'_1.mp hx
  rw [(clr_b hu hc (by omega)).1, if_neg (by omega)]
theorem stB_c {u c : Nat} (hu : u < 64) (hc : c < 6) : stB (clr u c) 0 6 = stB u 0 c ++ stB u (c + 1) (6 - c - 1) := by
  have e : 6 = c + (6 - c - 1 + 1) := by omega
  conv => lhs; rw [e]
  rw [stB_app, Nat.zero_add, stB_n (by rw [(clr_b hu hc hc).1, if_pos rfl]; decide), stB_clr hu hc _ _ (by omega) (by omega), stB_clr hu hc _ _ (by omega) (by omega)]
theorem stB_a {u c : Nat} : stB u 0 (c + 1) = if u / 2 ^ c % 2 = 1 then stB u 0 c ++ [c] else stB u 0 c := by
  rw [stB_app, Nat.zero_add]
  by_cases h : u / 2 ^ c % 2 = 1
  · rw [if_pos h, stB_y h]; rfl
  · rw [if_neg h, stB_n h]; exact List.append_nil _
theorem stB_m {u x : Nat} (h : x ∈ stB u 0 6) : x < 6 := by
  unfold stB at h
  have := List.mem_range'_1.mp (List.mem_filter.mp h).1
  omega
/-- the least bit -/
theorem low6 (hu : u < 64) (h0 : u ≠ 0) : ∃ c, c < 6 ∧ u / 2 ^ c % 2 = 1 ∧ ∀ i, i < c → u / 2 ^ i % 2 = 0 := by
  have h : (List.range 64).all (fun u => decide (u = 0 ∨ ∃ c, c < 6 ∧ u / 2 ^ c % 2 = 1 ∧ ∀ i, i < c → u / 2 ^ i % 2 = 0)) = true := by decide +kernel
  exact (of_decide_eq_true (List.all_eq_true.mp h u (List.mem_range.mpr hu))).resolve_left h0
theorem stB_low (hu : u < 64) (hc : c < 6) (h1 : u / 2 ^ c % 2 = 1) (h0 : ∀ i, i < c → u / 2 ^ i % 2 = 0) : stB u 0 6 = c :: stB (clr u c) 0 6 := by
  have e : 6 = c + (6 - c - 1 + 1) := by omega
  have hz : stB u 0 c = [] := by
    unfold stB
    refine List.filter_eq_nil_iff.mpr (fun x hx => ?_)
    have := List.mem_range'_1.mp hx
    rw [h0 x (by omega)]; decide
  rw [stB_c hu hc, hz, List.nil_append]
  conv => lhs; rw [e]
  rw [stB_app, Nat.zero_add, hz, List.nil_append, stB_y h1]
theorem stB_0 : stB 0 0 6 = [] := by decide
abbrev LmX (M : Mem) (i j : Nat) : Int := (mJ M 217 (6 * i + j)).toInt
theorem LmX_ : mJ M 217 (6 * i + j) = jZ (LmX M i j) := (Int64.ofInt_toInt _).symm
theorem c93 (hst : (gl G).stackTraces = false) (hS : Static M) : ∀ k, ∀ r u : Nat, r < 64 → u < 64 → (stB r 0 6).length = k → Ev G (d + k + 1) 93 [aR (some 154), aI (iZ r), aI (iZ u)] M 0 (vJ (jZ (Dt (stB u 0 6) ((stB r 0 6).map (LmX M)))) M) nX := by
  intro k
  induction k with
  | zero =>
    intro r u hr hu hk
    have r0 : r = 0 := by
      apply Classical.byContradiction
      intro h
      obtain ⟨c, h1, h2, h3⟩ := low6 hr h
      rw [stB_low hr h1 h2 h3] at hk
      cases hk
    subst r0
    rw [stB_0]
    show Ev G (d + 1) 93 [aR (some 154), aI (iZ (0 : Nat)), aI (iZ u)] M 0 (vJ (jZ 1) M) nX
    refine Ev_wp 2000 hst (by decide) (Nat.le_of_ble_eq_true rfl) ?_; simp (disch := omega) only [en93, wcQ, wcX, wcG, wcL, wcS, w93_0, w93_1, w93_4, w93_5, toI, toJ, toI64, inb_T, inb_iZ, Int.toNat_natCast, cl_0, cl_1, cl_2, cl_3, cl_4, cl_5, cl_6, cl_7, cl_8, cl_9, cl_10, cl_11, cl_12, cl_13, cl_14, cl_15, cl_16, cl_17, cl_18, cl_19, cl_20, cl_21, cl_22, cl_23, cl_24, cl_25, cl_26, cl_27, cl_28, cl_29, cl_30, cl_31, cl_32, cl_36, cl_40, cl_48, cl_60, cl_108, cl_120, cl_200, cl_201, cl_576, cl_600, cl_864, cl_900, cl_960, cl_5400, cl_8040, j2_0, iN_iZ, iN_lit0, iZ_add, iZ_sub, iZ_mul, iZ_neg, jZ_add, jZ_sub, jZ_mul, jZ_neg, isB0, isB1, isBZ, eq0, eq1, bZ0, vI_, vJ_, vA_, rI_, rJ_, rA_, rV_, nX_, tX_, true_and, and_true, false_and, and_false, and_self, implies_true, forall_const, not_true_eq_false, not_false_eq_true, false_implies, true_implies, ↓reduceIte, Nat.reduceEqDiff, Int.reduceToNat, Int.reduceAdd, Int.reduceSub, Int.reduceLT, Int.reduceLE, Int.reduceEq, Int.add_zero, Int.neg_zero, Int.add_sub_cancel, Int.reduceNeg, Nat.reduceLeDiff, Nat.reduceSub, true_or, or_true, false_or, or_false, setI_d, setJ_d, setP_d, mI_row, mJ_row, mP_row, mI_row_ne, mJ_row_ne, mP_row_ne, rowI_rowI, rowJ_rowJ, rowI_sort, rowJ_sort, rowJ_rowI, rowP_rowI, rowP_rowJ, fu_app, fu_fu, mI_rowJ, mI_rowP, mJ_rowI, mJ_rowP, mP_rowI, mP_rowJ, mK_rowI, mN_rowI, mK_rowJ, mN_rowJ, mK_rowP, mN_rowP, oB_rowI, oB_rowJ, iA_rowI, iA_rowJ, iR_rowI, iR_rowJ, St_rowI, St_rowJ]
  | succ k ih =>
    intro r u hr hu hk
    have r0 : r ≠ 0 := fun h => by rw [h, stB_0] at hk; cases hk
    obtain ⟨row, h1, h2, h3⟩ := low6 hr r0
    have hb := stB_low hr h1 h2 h3
    rw [hb]
    have hk2 : (stB (clr r row) 0 6).length = k := by rw [hb] at hk; exact Nat.succ.inj hk
    have rc := (clr_b hr h1 h1).2
    have cz := clr_z hr h1
    have r0' : ¬ (r : Int) = 0 := by omega
    show Ev G (d + k + 1 + 1) 93 [aR (some 154), aI (iZ r), aI (iZ u)] M 0 (vJ (jZ (Ex (fun a x => LmX M row a * Dt x ((stB (clr r row) 0 6).map (LmX M))) [] (stB u 0 6))) M) nX
    generalize hgg : (fun a x => LmX M row a * Dt x ((stB (clr r row) 0 6).map (LmX M))) = gg
    have hg : ∀ a x, gg a x = LmX M row a * Dt x ((stB (clr r row) 0 6).map (LmX M)) := fun a x => by rw [← hgg]
    refine Ev_wp 2000 hst (by decide) (Nat.le_of_ble_eq_true rfl) ?_; simp (disch := omega) only [en93, wcQ, wcX, wcG, wcL, wcS, w93_0, w93_1, w93_6, w93_7, h93_8, w93_8, toI, toJ, toI64, inb_T, inb_iZ, Int.toNat_natCast, cl_0, cl_1, cl_2, cl_3, cl_4, cl_5, cl_6, cl_7, cl_8, cl_9, cl_10, cl_11, cl_12, cl_13, cl_14, cl_15, cl_16, cl_17, cl_18, cl_19, cl_20, cl_21, cl_22, cl_23, cl_24, cl_25, cl_26, cl_27, cl_28, cl_29, cl_30, cl_31, cl_32, cl_36, cl_40, cl_48, cl_60, cl_108, cl_120, cl_200, cl_201, cl_576, cl_600, cl_864, cl_900, cl_960, cl_5400, cl_8040, j2_0, iN_iZ, iN_lit0, iZ_add, iZ_sub, iZ_mul, iZ_neg, jZ_add, jZ_sub, jZ_mul, jZ_neg, isB0, isB1, isBZ, eq0, eq1, bZ0, vI_, vJ_, vA_, rI_, rJ_, rA_, rV_, nX_, tX_, true_and, and_true, false_and, and_false, and_self, implies_true, forall_const, not_true_eq_false, not_false_eq_true, false_implies, true_implies, ↓reduceIte, Nat.reduceEqDiff, Int.reduceToNat, Int.reduceAdd, Int.reduceSub, Int.reduceLT, Int.reduceLE, Int.reduceEq, Int.add_zero, Int.neg_zero, Int.add_sub_cancel, Int.reduceNeg, Nat.reduceLeDiff, Nat.reduceSub, true_or, or_true, false_or, or_false, setI_d, setJ_d, setP_d, mI_row, mJ_row, mP_row, mI_row_ne, mJ_row_ne, mP_row_ne, rowI_rowI, rowJ_rowJ, rowI_sort, rowJ_sort, rowJ_rowI, rowP_rowI, rowP_rowJ, fu_app, fu_fu, mI_rowJ, mI_rowP, mJ_rowI, mJ_rowP, mP_rowI, mP_rowJ, mK_rowI, mN_rowI, mK_rowJ, mN_rowJ, mK_rowP, mN_rowP, oB_rowI, oB_rowJ, iA_rowI, iA_rowJ, iR_rowI, iR_rowJ, St_rowI, St_rowJ, r0']
    refine loopN row (fun i ls M' => (∃ x1 x2 x3 x4 x5, ls = [aR (some 154), aI (iZ r), aI (iZ u), aI (iZ i), x1, x2, x3, x4, x5]) ∧ M' = M) ⟨⟨_, _, _, _, _, rfl⟩, rfl⟩ ?_ ?_
    · intro i hi ls M' ⟨⟨x1, x2, x3, x4, x5, hl⟩, hM⟩ K
      have hM := hM.symm
      subst hl hM
      have bg := bit_get (n := r) (i := i) (by omega) (by omega)
      rw [h3 i hi] at bg
      refine wp1_go (n := 2000) ?_
      simp (disch := omega) only [wcQ, wcX, wcG, wcL, wcS, h93_8, w93_8, w93_9, w93_10, w93_11, w93_12, w93_13, w93_16, w93_19, toI, toJ, toI64, inb_T, inb_iZ, Int.toNat_natCast, cl_0, cl_1, cl_2, cl_3, cl_4, cl_5, cl_6, cl_7, cl_8, cl_9, cl_10, cl_11, cl_12, cl_13, cl_14, cl_15, cl_16, cl_17, cl_18, cl_19, cl_20, cl_21, cl_22, cl_23, cl_24, cl_25, cl_26, cl_27, cl_28, cl_29, cl_30, cl_31, cl_32, cl_36, cl_40, cl_48, cl_60, cl_108, cl_120, cl_200, cl_201, cl_576, cl_600, cl_864, cl_900, cl_960, cl_5400, cl_8040, j2_0, iN_iZ, iN_lit0, iZ_add, iZ_sub, iZ_mul, iZ_neg, jZ_add, jZ_sub, jZ_mul, jZ_neg, isB0, isB1, isBZ, eq0, eq1, bZ0, vI_, vJ_, vA_, rI_, rJ_, rA_, rV_, nX_, tX_, true_and, and_true, false_and, and_false, and_self, implies_true, forall_const, not_true_eq_false, not_false_eq_true, false_implies, true_implies, ↓reduceIte, Nat.reduceEqDiff, Int.reduceToNat, Int.reduceAdd, Int.reduceSub, Int.reduceLT, Int.reduceLE, Int.reduceEq, Int.add_zero, Int.neg_zero, Int.add_sub_cancel, Int.reduceNeg, Nat.reduceLeDiff, Nat.reduceSub, true_or, or_true, false_or, or_false, setI_d, setJ_d, setP_d, mI_row, mJ_row, mP_row, mI_row_ne, mJ_row_ne, mP_row_ne, rowI_rowI, rowJ_rowJ, rowI_sort, rowJ_sort, rowJ_rowI, rowP_rowI, rowP_rowJ, fu_app, fu_fu, mI_rowJ, mI_rowP, mJ_rowI, mJ_rowP, mP_rowI, mP_rowJ, mK_rowI, mN_rowI, mK_rowJ, mN_rowJ, mK_rowP, mN_rowP, oB_rowI, oB_rowJ, iA_rowI, iA_rowJ, iR_rowI, iR_rowJ, St_rowI, St_rowJ, bg]
      exact K _ _ ⟨⟨_, _, _, _, _, rfl⟩, rfl⟩
    · intro ls M' ⟨⟨x1, x2, x3, x4, x5, hl⟩, hM⟩
      have hM := hM.symm
      subst hl hM
      have bg := bit_get (n := r) (i := row) (by omega) (by omega)
      rw [h2] at bg
      refine wp1_go (n := 2000) ?_
      simp (disch := omega) only [wcQ, wcX, wcG, wcL, wcS, h93_8, w93_8, w93_9, w93_10, w93_11, w93_12, w93_13, w93_22, w93_23, w93_25, w93_26, w93_28, w93_29, h93_31, w93_31, toI, toJ, toI64, inb_T, inb_iZ, Int.toNat_natCast, cl_0, cl_1, cl_2, cl_3, cl_4, cl_5, cl_6, cl_7, cl_8, cl_9, cl_10, cl_11, cl_12, cl_13, cl_14, cl_15, cl_16, cl_17, cl_18, cl_19, cl_20, cl_21, cl_22, cl_23, cl_24, cl_25, cl_26, cl_27, cl_28, cl_29, cl_30, cl_31, cl_32, cl_36, cl_40, cl_48, cl_60, cl_108, cl_120, cl_200, cl_201, cl_576, cl_600, cl_864, cl_900, cl_960, cl_5400, cl_8040, j2_0, iN_iZ, iN_lit0, iZ_add, iZ_sub, iZ_mul, iZ_neg, jZ_add, jZ_sub, jZ_mul, jZ_neg, isB0, isB1, isBZ, eq0, eq1, bZ0, vI_, vJ_, vA_, rI_, rJ_, rA_, rV_, nX_, tX_, true_and, and_true, false_and, and_false, and_self, implies_true, forall_const, not_true_eq_false, not_false_eq_true, false_implies, true_implies, ↓reduceIte, Nat.reduceEqDiff, Int.reduceToNat, Int.reduceAdd, Int.reduceSub, Int.reduceLT, Int.reduceLE, Int.reduceEq, Int.add_zero, Int.neg_zero, Int.add_sub_cancel, Int.reduceNeg, Nat.reduceLeDiff, Nat.reduceSub, true_or, or_true, false_or, or_false, setI_d, setJ_d, setP_d, mI_row, mJ_row, mP_row, mI_row_ne, mJ_row_ne, mP_row_ne, rowI_rowI, rowJ_rowJ, rowI_sort, rowJ_sort, rowJ_rowI, rowP_rowI, rowP_rowJ, fu_app, fu_fu, mI_rowJ, mI_rowP, mJ_rowI, mJ_rowP, mP_rowI, mP_rowJ, mK_rowI, mN_rowI, mK_rowJ, mN_rowJ, mK_rowP, mN_rowP, oB_rowI, oB_rowJ, iA_rowI, iA_rowJ, iR_rowI, iR_rowJ, St_rowI, St_rowJ, bg]
      refine loopN 6 (fun c ls M' => (∃ (S σ : Int), ls = [aR (some 154), aI (iZ r), aI (iZ u), aI (iZ row), aL (jZ S), aU, aL (jZ σ), aU, aI (iZ c)] ∧ S + σ * Ex gg (stB u 0 c) (stB u c (6 - c)) = Ex gg [] (stB u 0 6)) ∧ M' = M) ⟨⟨0, 1, rfl, by show 0 + 1 * Ex gg [] (stB u 0 6) = _; omega⟩, rfl⟩ ?_ ?_
      · intro c hc ls M' ⟨⟨S, σ, hl2, hI⟩, hM⟩ K
        have hM := hM.symm
        subst hl2 hM
        have hc' : (c : Int) < 6 := by omega
        have bg := bit_get (n := u) (i := c) (by omega) (by omega)
        have en : 6 - c = 6 - (c + 1) + 1 := by omega
        refine wp1_go (n := 2000) ?_
        by_cases fr : u / 2 ^ c % 2 = 1
        · rw [en, stB_y fr] at hI
          have hX : Ex gg (stB u 0 c) (c :: stB u (c + 1) (6 - (c + 1))) = gg c (stB u 0 c ++ stB u (c + 1) (6 - (c + 1))) - Ex gg (stB u 0 c ++ [c]) (stB u (c + 1) (6 - (c + 1))) := rfl
          rw [hX, hg] at hI
          have ha : stB u 0 (c + 1) = stB u 0 c ++ [c] := by rw [stB_a, if_pos fr]
          have ho : stB (clr u c) 0 6 = stB u 0 c ++ stB u (c + 1) (6 - (c + 1)) := stB_c hu hc
          rw [← ha, ← ho] at hI
          rw [fr] at bg
          have cu := clr_z hu hc
          have ihc := ih (clr r row) (clr u c) rc (clr_b hu hc hc).2 hk2
          have ix : ((6 : Int) * row + c).toNat = 6 * row + c := by omega
          have lx : mJ M 217 (6 * row + c) = jZ (LmX M row c) := LmX_
          generalize LmX M row c = e at *
          simp (disch := omega) only [wcQ, wcX, wcG, wcL, wcS, h93_31, w93_31, w93_33, w93_35, w93_38, w93_39, w93_41, w93_42, w93_43, w93_44, w93_47, w93_50, w93_52, w93_54, w93_55, w93_58, w93_60, w93_61, w93_62, w93_64, w93_65, w93_66, w93_67, w93_68, w93_69, w93_70, w93_71, w93_72, w93_73, w93_74, w93_75, w93_76, w93_77, w93_79, w93_80, w93_81, w93_82, w93_83, toI, toJ, toI64, inb_T, inb_iZ, Int.toNat_natCast, cl_0, cl_1, cl_2, cl_3, cl_4, cl_5, cl_6, cl_7, cl_8, cl_9, cl_10, cl_11, cl_12, cl_13, cl_14, cl_15, cl_16, cl_17, cl_18, cl_19, cl_20, cl_21, cl_22, cl_23, cl_24, cl_25, cl_26, cl_27, cl_28, cl_29, cl_30, cl_31, cl_32, cl_36, cl_40, cl_48, cl_60, cl_108, cl_120, cl_200, cl_201, cl_576, cl_600, cl_864, cl_900, cl_960, cl_5400, cl_8040, j2_0, iN_iZ, iN_lit0, iZ_add, iZ_sub, iZ_mul, iZ_neg, jZ_add, jZ_sub, jZ_mul, jZ_neg, isB0, isB1, isBZ, eq0, eq1, bZ0, vI_, vJ_, vA_, rI_, rJ_, rA_, rV_, nX_, tX_, true_and, and_true, false_and, and_false, and_self, implies_true, forall_const, not_true_eq_false, not_false_eq_true, false_implies, true_implies, ↓reduceIte, Nat.reduceEqDiff, Int.reduceToNat, Int.reduceAdd, Int.reduceSub, Int.reduceLT, Int.reduceLE, Int.reduceEq, Int.add_zero, Int.neg_zero, Int.add_sub_cancel, Int.reduceNeg, Nat.reduceLeDiff, Nat.reduceSub, true_or, or_true, false_or, or_false, setI_d, setJ_d, setP_d, mI_row, mJ_row, mP_row, mI_row_ne, mJ_row_ne, mP_row_ne, rowI_rowI, rowJ_rowJ, rowI_sort, rowJ_sort, rowJ_rowI, rowP_rowI, rowP_rowJ, fu_app, fu_fu, mI_rowJ, mI_rowP, mJ_rowI, mJ_rowP, mP_rowI, mP_rowJ, mK_rowI, mN_rowI, mK_rowJ, mN_rowJ, mK_rowP, mN_rowP, oB_rowI, oB_rowJ, iA_rowI, iA_rowJ, iR_rowI, iR_rowJ, St_rowI, St_rowJ, K154 hS, O154 hS, P154_86 hS, K217 hS, O217 hS, A217 hS, hc', bg, ix, lx, bit_shl, cz, cu]
          refine kJ0 ihc ?_
          simp (disch := omega) only [wcQ, wcX, wcG, wcL, wcS, h93_31, w93_31, w93_86, w93_87, w93_88, w93_90, w93_92, w93_93, w93_95, w93_98, toI, toJ, toI64, inb_T, inb_iZ, Int.toNat_natCast, cl_0, cl_1, cl_2, cl_3, cl_4, cl_5, cl_6, cl_7, cl_8, cl_9, cl_10, cl_11, cl_12, cl_13, cl_14, cl_15, cl_16, cl_17, cl_18, cl_19, cl_20, cl_21, cl_22, cl_23, cl_24, cl_25, cl_26, cl_27, cl_28, cl_29, cl_30, cl_31, cl_32, cl_36, cl_40, cl_48, cl_60, cl_108, cl_120, cl_200, cl_201, cl_576, cl_600, cl_864, cl_900, cl_960, cl_5400, cl_8040, j2_0, iN_iZ, iN_lit0, iZ_add, iZ_sub, iZ_mul, iZ_neg, jZ_add, jZ_sub, jZ_mul, jZ_neg, isB0, isB1, isBZ, eq0, eq1, bZ0, vI_, vJ_, vA_, rI_, rJ_, rA_, rV_, nX_, tX_, true_and, and_true, false_and, and_false, and_self, implies_true, forall_const, not_true_eq_false, not_false_eq_true, false_implies, true_implies, ↓reduceIte, Nat.reduceEqDiff, Int.reduceToNat, Int.reduceAdd, Int.reduceSub, Int.reduceLT, Int.reduceLE, Int.reduceEq, Int.add_zero, Int.neg_zero, Int.add_sub_cancel, Int.reduceNeg, Nat.reduceLeDiff, Nat.reduceSub, true_or, or_true, false_or, or_false, setI_d, setJ_d, setP_d, mI_row, mJ_row, mP_row, mI_row_ne, mJ_row_ne, mP_row_ne, rowI_rowI, rowJ_rowJ, rowI_sort, rowJ_sort, rowJ_rowI, rowP_rowI, rowP_rowJ, fu_app, fu_fu, mI_rowJ, mI_rowP, mJ_rowI, mJ_rowP, mP_rowI, mP_rowJ, mK_rowI, mN_rowI, mK_rowJ, mN_rowJ, mK_rowP, mN_rowP, oB_rowI, oB_rowJ, iA_rowI, iA_rowJ, iR_rowI, iR_rowJ, St_rowI, St_rowJ]
          refine K _ _ ⟨⟨_, -σ, rfl, ?_⟩, rfl⟩
          rw [← hI]
          grind
        · rw [en, stB_n fr] at hI
          have ha : stB u 0 (c + 1) = stB u 0 c := by rw [stB_a, if_neg fr]
          rw [← ha] at hI
          rw [show u / 2 ^ c % 2 = 0 from by omega] at bg
          simp (disch := omega) only [wcQ, wcX, wcG, wcL, wcS, h93_31, w93_31, w93_33, w93_35, w93_38, w93_39, w93_41, w93_42, w93_43, w93_44, w93_47, w93_95, w93_98, toI, toJ, toI64, inb_T, inb_iZ, Int.toNat_natCast, cl_0, cl_1, cl_2, cl_3, cl_4, cl_5, cl_6, cl_7, cl_8, cl_9, cl_10, cl_11, cl_12, cl_13, cl_14, cl_15, cl_16, cl_17, cl_18, cl_19, cl_20, cl_21, cl_22, cl_23, cl_24, cl_25, cl_26, cl_27, cl_28, cl_29, cl_30, cl_31, cl_32, cl_36, cl_40, cl_48, cl_60, cl_108, cl_120, cl_200, cl_201, cl_576, cl_600, cl_864, cl_900, cl_960, cl_5400, cl_8040, j2_0, iN_iZ, iN_lit0, iZ_add, iZ_sub, iZ_mul, iZ_neg, jZ_add, jZ_sub, jZ_mul, jZ_neg, isB0, isB1, isBZ, eq0, eq1, bZ0, vI_, vJ_, vA_, rI_, rJ_, rA_, rV_, nX_, tX_, true_and, and_true, false_and, and_false, and_self, implies_true, forall_const, not_true_eq_false, not_false_eq_true, false_implies, true_implies, ↓reduceIte, Nat.reduceEqDiff, Int.reduceToNat, Int.reduceAdd, Int.reduceSub, Int.reduceLT, Int.reduceLE, Int.reduceEq, Int.add_zero, Int.neg_zero, Int.add_sub_cancel, Int.reduceNeg, Nat.reduceLeDiff, Nat.reduceSub, true_or, or_true, false_or, or_false, setI_d, setJ_d, setP_d, mI_row, mJ_row, mP_row, mI_row_ne, mJ_row_ne, mP_row_ne, rowI_rowI, rowJ_rowJ, rowI_sort, rowJ_sort, rowJ_rowI, rowP_rowI, rowP_rowJ, fu_app, fu_fu, mI_rowJ, mI_rowP, mJ_rowI, mJ_rowP, mP_rowI, mP_rowJ, mK_rowI, mN_rowI, mK_rowJ, mN_rowJ, mK_rowP, mN_rowP, oB_rowI, oB_rowJ, iA_rowI, iA_rowJ, iR_rowI, iR_rowJ, St_rowI, St_rowJ, hc', bg]
          exact K _ _ ⟨⟨S, σ, rfl, hI⟩, rfl⟩
      · intro ls M' ⟨⟨S, σ, hl2, hI⟩, hM⟩
        have hM := hM.symm
        subst hl2 hM
        have hI : S + σ * 0 = Ex gg [] (stB u 0 6) := hI
        rw [Int.mul_zero, Int.add_zero] at hI
        rw [← hI]
        refine wp1_go (n := 2000) ?_
        simp (disch := omega) only [wcQ, wcX, wcG, wcL, wcS, h93_31, w93_31, w93_33, w93_35, w93_101, w93_103, toI, toJ, toI64, inb_T, inb_iZ, Int.toNat_natCast, cl_0, cl_1, cl_2, cl_3, cl_4, cl_5, cl_6, cl_7, cl_8, cl_9, cl_10, cl_11, cl_12, cl_13, cl_14, cl_15, cl_16, cl_17, cl_18, cl_19, cl_20, cl_21, cl_22, cl_23, cl_24, cl_25, cl_26, cl_27, cl_28, cl_29, cl_30, cl_31, cl_32, cl_36, cl_40, cl_48, cl_60, cl_108, cl_120, cl_200, cl_201, cl_576, cl_600, cl_864, cl_900, cl_960, cl_5400, cl_8040, j2_0, iN_iZ, iN_lit0, iZ_add, iZ_sub, iZ_mul, iZ_neg, jZ_add, jZ_sub, jZ_mul, jZ_neg, isB0, isB1, isBZ, eq0, eq1, bZ0, vI_, vJ_, vA_, rI_, rJ_, rA_, rV_, nX_, tX_, true_and, and_true, false_and, and_false, and_self, implies_true, forall_const, not_true_eq_false, not_false_eq_true, false_implies, true_implies, ↓reduceIte, Nat.reduceEqDiff, Int.reduceToNat, Int.reduceAdd, Int.reduceSub, Int.reduceLT, Int.reduceLE, Int.reduceEq, Int.add_zero, Int.neg_zero, Int.add_sub_cancel, Int.reduceNeg, Nat.reduceLeDiff, Nat.reduceSub, true_or, or_true, false_or, or_false, setI_d, setJ_d, setP_d, mI_row, mJ_row, mP_row, mI_row_ne, mJ_row_ne, mP_row_ne, rowI_rowI, rowJ_rowJ, rowI_sort, rowJ_sort, rowJ_rowI, rowP_rowI, rowP_rowJ, fu_app, fu_fu, mI_rowJ, mI_rowP, mJ_rowI, mJ_rowP, mP_rowI, mP_rowJ, mK_rowI, mN_rowI, mK_rowJ, mN_rowJ, mK_rowP, mN_rowP, oB_rowI, oB_rowJ, iA_rowI, iA_rowJ, iR_rowI, iR_rowJ, St_rowI, St_rowJ]
end

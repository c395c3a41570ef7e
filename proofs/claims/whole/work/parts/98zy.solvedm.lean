/-! SCALE: solved of the reference. -/
section
variable {G : GE} {d : Nat} {M M' M'' : Mem} {n a b i j c u m : Nat} {r : Nat → Int} {ms : Nat → Nat}
theorem sg_v : ∀ n, sg n = if n % 2 = 0 then 1 else -1
  | 0 => rfl
  | n + 1 => by
    show - sg n = _
    rw [sg_v n]
    by_cases h : n % 2 = 0
    · rw [if_pos h, if_neg (by omega)]
    · rw [if_neg h, if_pos (by omega)]; rfl
theorem sg_add (i : Nat) : ∀ j, sg (i + j) = sg i * sg j
  | 0 => by show sg i = sg i * 1; omega
  | j + 1 => by show - sg (i + j) = sg i * - sg j; rw [sg_add i j, Int.mul_neg]
theorem stB_f (hm : m ≤ 5) (hj : j < m) : stB (clr (2 ^ m - 1) j) 0 6 = List.range j ++ List.range' (j + 1) (m - 1 - j) ∧ clr (2 ^ m - 1) j < 64 ∧ (stB (clr (2 ^ m - 1) j) 0 6).length = m - 1 := by
  have h : (List.range 6).all (fun m => (List.range 6).all (fun j => decide (j < m → stB (clr (2 ^ m - 1) j) 0 6 = List.range j ++ List.range' (j + 1) (m - 1 - j) ∧ clr (2 ^ m - 1) j < 64 ∧ (stB (clr (2 ^ m - 1) j) 0 6).length = m - 1))) = true := by decide +kernel
  exact of_decide_eq_true (List.all_eq_true.mp (List.all_eq_true.mp h m (List.mem_range.mpr (by omega))) j (List.mem_range.mpr (by omega))) hj
theorem full_ (hm : m ≤ 5) : stB (2 ^ m - 1) 0 6 = List.range m ∧ 2 ^ m - 1 < 64 ∧ 1 ≤ 2 ^ m := by
  have h : (List.range 6).all (fun m => decide (stB (2 ^ m - 1) 0 6 = List.range m ∧ 2 ^ m - 1 < 64 ∧ 1 ≤ 2 ^ m)) = true := by decide +kernel
  exact of_decide_eq_true (List.all_eq_true.mp h m (List.mem_range.mpr (by omega)))
/-- what solved makes -/
def soA (M : Mem) (r : Nat → Int) (ms : Nat → Nat) (m i : Nat) : Int := if i < m then sg i * Ex (fun k s => r (ms k) * Dt (List.range i ++ List.range' (i + 1) (m - 1 - i)) (s.map (LmX M))) [] (List.range m) else 0
theorem al1 {a b S D R X : Int} (h : 1 = a * b) : S + D * R + a * (-b * X) = S + a * (b * (R * D - X)) := by grind
theorem al2 {a b S D R X : Int} (h : -1 = a * b) : S + -D * R + a * (-b * X) = S + a * (b * (R * D - X)) := by grind
theorem c94 (hst : (gl G).stackTraces = false) (hS : Static M) (hR : XR M r) (hm : m ≤ 5) (hi : i ≤ m) (hs : ∀ l, l < m → mI M 220 l = iZ (ms l) ∧ ms l < 6) : Ev G (d + 8) 94 [aR (some 154), aI (iZ i), aI (iZ ((m : Int) + 1))] M 0 (vJ (jZ (soA M r ms m i)) M) nX := by
  obtain ⟨f1, f2, f3⟩ := full_ hm
  have e1 : iZ ((m : Int) + 1) - iZ 1 = iZ m := by rw [show iZ ((m : Int) + 1) - iZ 1 = iZ ((m : Int) + 1 - 1) from (Int32.ofInt_sub ..).symm]; congr 1; omega
  have bs := bit_shl (i := m) (by omega)
  have e2 : ((2 ^ m : Nat) : Int) - 1 = ((2 ^ m - 1 : Nat) : Int) := by omega
  by_cases him : i < m
  · have him' : (i : Int) < m := by omega
    rw [show soA M r ms m i = sg i * Ex (fun k s => r (ms k) * Dt (List.range i ++ List.range' (i + 1) (m - 1 - i)) (s.map (LmX M))) [] (List.range m) from if_pos him]
    generalize hgg : (fun (k : Nat) (s : List Nat) => r (ms k) * Dt (List.range i ++ List.range' (i + 1) (m - 1 - i)) (s.map (LmX M))) = gg
    have hg : ∀ (k : Nat) (s : List Nat), gg k s = r (ms k) * Dt (List.range i ++ List.range' (i + 1) (m - 1 - i)) (s.map (LmX M)) := fun k s => by rw [← hgg]
    have hmi : ¬ (m : Int) ≤ i := by omega
    refine Ev_wp 2000 hst (by decide) (Nat.le_of_ble_eq_true rfl) ?_; simp (disch := omega) only [en94, wcQ, wcX, wcG, wcL, wcS, w94_0, w94_1, w94_2, w94_3, w94_4, w94_5, w94_6, w94_7, w94_8, w94_9, w94_11, w94_12, h94_14, w94_14, toI, toJ, toI64, inb_T, inb_iZ, Int.toNat_natCast, cl_0, cl_1, cl_2, cl_3, cl_4, cl_5, cl_6, cl_7, cl_8, cl_9, cl_10, cl_11, cl_12, cl_13, cl_14, cl_15, cl_16, cl_17, cl_18, cl_19, cl_20, cl_21, cl_22, cl_23, cl_24, cl_25, cl_26, cl_27, cl_28, cl_29, cl_30, cl_31, cl_32, cl_36, cl_40, cl_48, cl_60, cl_108, cl_120, cl_200, cl_201, cl_576, cl_600, cl_864, cl_900, cl_960, cl_5400, cl_8040, j2_0, iN_iZ, iN_lit0, iZ_add, iZ_sub, iZ_mul, iZ_neg, jZ_add, jZ_sub, jZ_mul, jZ_neg, isB0, isB1, isBZ, eq0, eq1, bZ0, vI_, vJ_, vA_, rI_, rJ_, rA_, rV_, nX_, tX_, true_and, and_true, false_and, and_false, and_self, implies_true, forall_const, not_true_eq_false, not_false_eq_true, false_implies, true_implies, ↓reduceIte, Nat.reduceEqDiff, Int.reduceToNat, Int.reduceAdd, Int.reduceSub, Int.reduceLT, Int.reduceLE, Int.reduceEq, Int.add_zero, Int.neg_zero, Int.add_sub_cancel, Int.reduceNeg, Nat.reduceLeDiff, Nat.reduceSub, true_or, or_true, false_or, or_false, setI_d, setJ_d, setP_d, mI_row, mJ_row, mP_row, mI_row_ne, mJ_row_ne, mP_row_ne, rowI_rowI, rowJ_rowJ, rowI_sort, rowJ_sort, rowJ_rowI, rowP_rowI, rowP_rowJ, fu_app, fu_fu, mI_rowJ, mI_rowP, mJ_rowI, mJ_rowP, mP_rowI, mP_rowJ, mK_rowI, mN_rowI, mK_rowJ, mN_rowJ, mK_rowP, mN_rowP, oB_rowI, oB_rowJ, iA_rowI, iA_rowJ, iR_rowI, iR_rowJ, St_rowI, St_rowJ, bs, e2]
    refine loopN m (fun j ls M' => (∃ (S : Int) (x y : AV), ls = [aR (some 154), aI (iZ i), aI (iZ ((m : Int) + 1)), aI (iZ ((2 ^ m - 1 : Nat) : Int)), aL (jZ S), aU, aI (iZ j), x, y] ∧ S + sg i * (sg j * Ex gg (List.range j) (List.range' j (m - j))) = sg i * Ex gg [] (List.range m)) ∧ M' = M) ⟨⟨0, _, _, rfl, ?_⟩, rfl⟩ ?_ ?_
    · rw [List.range_eq_range' (n := m)]; show 0 + sg i * (1 * Ex gg [] (List.range' 0 m)) = _; rw [Int.one_mul, Int.zero_add]
    · intro j hj ls M' ⟨⟨S, x, y, hl, hI⟩, hM⟩ K
      have hM := hM.symm
      subst hl hM
      have hj' : (j : Int) < m := by omega
      obtain ⟨s1, s2⟩ := hs j hj
      have rj := hR (ms j) s2
      obtain ⟨a1, a2, a3⟩ := stB_f hm hj
      obtain ⟨b1, b2, b3⟩ := stB_f hm him
      have cj := clr_z (u := 2 ^ m - 1) (c := j) f2 (by omega)
      have ci := clr_z (u := 2 ^ m - 1) (c := i) f2 (by omega)
      have e93 := c93 (G := G) (d := d + (7 - m)) (M := M) hst hS (m - 1) (clr (2 ^ m - 1) j) (clr (2 ^ m - 1) i) a2 b2 a3
      rw [a1, b1, show d + (7 - m) + (m - 1) + 1 = d + 7 from by omega] at e93
      have en : m - j = m - (j + 1) + 1 := by omega
      rw [en, List.range'_succ] at hI
      have hX : Ex gg (List.range j) (j :: List.range' (j + 1) (m - (j + 1))) = gg j (List.range j ++ List.range' (j + 1) (m - (j + 1))) - Ex gg (List.range j ++ [j]) (List.range' (j + 1) (m - (j + 1))) := rfl
      rw [hX, hg, ← List.range_succ, show m - (j + 1) = m - 1 - j from by omega] at hI
      have bj := bit_shl (i := j) (by omega)
      have bi := bit_shl (i := i) (by omega)
      have hd : iZ ((i : Int) + j) / iZ 2 = iZ (((i : Int) + j) / 2) := by
        rw [iZ_div (by omega) (by omega) (by decide) (by decide), Int.tdiv_eq_ediv_of_nonneg (by omega)]
      have sgij := sg_add i j
      rw [sg_v] at sgij
      have sj : sg (j + 1) = - sg j := rfl
      have er : m - (j + 1) = m - 1 - j := by omega
      generalize Dt (List.range i ++ List.range' (i + 1) (m - 1 - i)) ((List.range j ++ List.range' (j + 1) (m - 1 - j)).map (LmX M)) = D at *
      generalize hXX : Ex gg (List.range (j + 1)) (List.range' (j + 1) (m - 1 - j)) = X at *
      generalize r (ms j) = R at *
      refine wp1_go (n := 2000) ?_
      simp (disch := omega) only [wcQ, wcX, wcG, wcL, wcS, h94_14, w94_14, w94_16, w94_17, w94_18, w94_19, w94_22, w94_23, w94_24, w94_25, w94_26, w94_29, w94_30, w94_31, w94_32, w94_34, w94_35, w94_36, w94_37, w94_38, w94_39, w94_40, w94_41, w94_42, w94_43, w94_44, w94_45, toI, toJ, toI64, inb_T, inb_iZ, Int.toNat_natCast, cl_0, cl_1, cl_2, cl_3, cl_4, cl_5, cl_6, cl_7, cl_8, cl_9, cl_10, cl_11, cl_12, cl_13, cl_14, cl_15, cl_16, cl_17, cl_18, cl_19, cl_20, cl_21, cl_22, cl_23, cl_24, cl_25, cl_26, cl_27, cl_28, cl_29, cl_30, cl_31, cl_32, cl_36, cl_40, cl_48, cl_60, cl_108, cl_120, cl_200, cl_201, cl_576, cl_600, cl_864, cl_900, cl_960, cl_5400, cl_8040, j2_0, iN_iZ, iN_lit0, iZ_add, iZ_sub, iZ_mul, iZ_neg, jZ_add, jZ_sub, jZ_mul, jZ_neg, isB0, isB1, isBZ, eq0, eq1, bZ0, vI_, vJ_, vA_, rI_, rJ_, rA_, rV_, nX_, tX_, true_and, and_true, false_and, and_false, and_self, implies_true, forall_const, not_true_eq_false, not_false_eq_true, false_implies, true_implies, ↓reduceIte, Nat.reduceEqDiff, Int.reduceToNat, Int.reduceAdd, Int.reduceSub, Int.reduceLT, Int.reduceLE, Int.reduceEq, Int.add_zero, Int.neg_zero, Int.add_sub_cancel, Int.reduceNeg, Nat.reduceLeDiff, Nat.reduceSub, true_or, or_true, false_or, or_false, setI_d, setJ_d, setP_d, mI_row, mJ_row, mP_row, mI_row_ne, mJ_row_ne, mP_row_ne, rowI_rowI, rowJ_rowJ, rowI_sort, rowJ_sort, rowJ_rowI, rowP_rowI, rowP_rowJ, fu_app, fu_fu, mI_rowJ, mI_rowP, mJ_rowI, mJ_rowP, mP_rowI, mP_rowJ, mK_rowI, mN_rowI, mK_rowJ, mN_rowJ, mK_rowP, mN_rowP, oB_rowI, oB_rowJ, iA_rowI, iA_rowJ, iR_rowI, iR_rowJ, St_rowI, St_rowJ, O154 hS, hj', him', e1, bj, bi, cj, ci]
      refine kJ0 e93 ?_
      by_cases hp : (i + j) % 2 = 0
      · have hp' : (i : Int) + j - ((i : Int) + j) / 2 * 2 = 0 := by omega
        rw [if_pos hp] at sgij
        simp (disch := omega) only [wcQ, wcX, wcG, wcL, wcS, h94_14, w94_14, w94_48, w94_50, w94_52, w94_53, w94_55, w94_56, w94_57, w94_58, w94_61, w94_63, w94_64, w94_67, w94_68, w94_71, w94_73, w94_74, w94_75, w94_76, w94_95, w94_96, w94_98, w94_101, toI, toJ, toI64, inb_T, inb_iZ, Int.toNat_natCast, cl_0, cl_1, cl_2, cl_3, cl_4, cl_5, cl_6, cl_7, cl_8, cl_9, cl_10, cl_11, cl_12, cl_13, cl_14, cl_15, cl_16, cl_17, cl_18, cl_19, cl_20, cl_21, cl_22, cl_23, cl_24, cl_25, cl_26, cl_27, cl_28, cl_29, cl_30, cl_31, cl_32, cl_36, cl_40, cl_48, cl_60, cl_108, cl_120, cl_200, cl_201, cl_576, cl_600, cl_864, cl_900, cl_960, cl_5400, cl_8040, j2_0, iN_iZ, iN_lit0, iZ_add, iZ_sub, iZ_mul, iZ_neg, jZ_add, jZ_sub, jZ_mul, jZ_neg, isB0, isB1, isBZ, eq0, eq1, bZ0, vI_, vJ_, vA_, rI_, rJ_, rA_, rV_, nX_, tX_, true_and, and_true, false_and, and_false, and_self, implies_true, forall_const, not_true_eq_false, not_false_eq_true, false_implies, true_implies, ↓reduceIte, Nat.reduceEqDiff, Int.reduceToNat, Int.reduceAdd, Int.reduceSub, Int.reduceLT, Int.reduceLE, Int.reduceEq, Int.add_zero, Int.neg_zero, Int.add_sub_cancel, Int.reduceNeg, Nat.reduceLeDiff, Nat.reduceSub, true_or, or_true, false_or, or_false, setI_d, setJ_d, setP_d, mI_row, mJ_row, mP_row, mI_row_ne, mJ_row_ne, mP_row_ne, rowI_rowI, rowJ_rowJ, rowI_sort, rowJ_sort, rowJ_rowI, rowP_rowI, rowP_rowJ, fu_app, fu_fu, mI_rowJ, mI_rowP, mJ_rowI, mJ_rowP, mP_rowI, mP_rowJ, mK_rowI, mN_rowI, mK_rowJ, mN_rowJ, mK_rowP, mN_rowP, oB_rowI, oB_rowJ, iA_rowI, iA_rowJ, iR_rowI, iR_rowJ, St_rowI, St_rowJ, K154 hS, O154 hS, P154_85 hS, P154_89 hS, K216 hS, O216 hS, A216 hS, K220 hS, O220 hS, A220 hS, s1, rj, hd, hp']
        refine ⟨by decide, K _ _ ⟨⟨_, _, _, rfl, ?_⟩, rfl⟩⟩
        rw [er, sj, hXX, ← hI]
        exact al1 sgij
      · have hp' : ¬ (i : Int) + j - ((i : Int) + j) / 2 * 2 = 0 := by omega
        rw [if_neg hp] at sgij
        simp (disch := omega) only [wcQ, wcX, wcG, wcL, wcS, h94_14, w94_14, w94_48, w94_50, w94_52, w94_53, w94_55, w94_56, w94_57, w94_58, w94_79, w94_81, w94_82, w94_83, w94_86, w94_87, w94_90, w94_92, w94_93, w94_94, w94_95, w94_96, w94_98, w94_101, toI, toJ, toI64, inb_T, inb_iZ, Int.toNat_natCast, cl_0, cl_1, cl_2, cl_3, cl_4, cl_5, cl_6, cl_7, cl_8, cl_9, cl_10, cl_11, cl_12, cl_13, cl_14, cl_15, cl_16, cl_17, cl_18, cl_19, cl_20, cl_21, cl_22, cl_23, cl_24, cl_25, cl_26, cl_27, cl_28, cl_29, cl_30, cl_31, cl_32, cl_36, cl_40, cl_48, cl_60, cl_108, cl_120, cl_200, cl_201, cl_576, cl_600, cl_864, cl_900, cl_960, cl_5400, cl_8040, j2_0, iN_iZ, iN_lit0, iZ_add, iZ_sub, iZ_mul, iZ_neg, jZ_add, jZ_sub, jZ_mul, jZ_neg, isB0, isB1, isBZ, eq0, eq1, bZ0, vI_, vJ_, vA_, rI_, rJ_, rA_, rV_, nX_, tX_, true_and, and_true, false_and, and_false, and_self, implies_true, forall_const, not_true_eq_false, not_false_eq_true, false_implies, true_implies, ↓reduceIte, Nat.reduceEqDiff, Int.reduceToNat, Int.reduceAdd, Int.reduceSub, Int.reduceLT, Int.reduceLE, Int.reduceEq, Int.add_zero, Int.neg_zero, Int.add_sub_cancel, Int.reduceNeg, Nat.reduceLeDiff, Nat.reduceSub, true_or, or_true, false_or, or_false, setI_d, setJ_d, setP_d, mI_row, mJ_row, mP_row, mI_row_ne, mJ_row_ne, mP_row_ne, rowI_rowI, rowJ_rowJ, rowI_sort, rowJ_sort, rowJ_rowI, rowP_rowI, rowP_rowJ, fu_app, fu_fu, mI_rowJ, mI_rowP, mJ_rowI, mJ_rowP, mP_rowI, mP_rowJ, mK_rowI, mN_rowI, mK_rowJ, mN_rowJ, mK_rowP, mN_rowP, oB_rowI, oB_rowJ, iA_rowI, iA_rowJ, iR_rowI, iR_rowJ, St_rowI, St_rowJ, K154 hS, O154 hS, P154_85 hS, P154_89 hS, K216 hS, O216 hS, A216 hS, K220 hS, O220 hS, A220 hS, s1, rj, hd, hp']
        refine ⟨by decide, K _ _ ⟨⟨_, _, _, rfl, ?_⟩, rfl⟩⟩
        rw [er, sj, hXX, ← hI]
        exact al2 sgij
    · intro ls M' ⟨⟨S, x, y, hl, hI⟩, hM⟩
      have hM := hM.symm
      subst hl hM
      have hj' : ¬ (m : Int) < m := by omega
      rw [Nat.sub_self] at hI
      have hI : S + sg i * (sg m * 0) = sg i * Ex gg [] (List.range m) := hI
      rw [Int.mul_zero, Int.mul_zero, Int.add_zero] at hI
      rw [← hI]
      refine wp1_go (n := 2000) ?_
      simp (disch := omega) only [wcQ, wcX, wcG, wcL, wcS, h94_14, w94_14, w94_16, w94_17, w94_18, w94_19, w94_104, w94_106, toI, toJ, toI64, inb_T, inb_iZ, Int.toNat_natCast, cl_0, cl_1, cl_2, cl_3, cl_4, cl_5, cl_6, cl_7, cl_8, cl_9, cl_10, cl_11, cl_12, cl_13, cl_14, cl_15, cl_16, cl_17, cl_18, cl_19, cl_20, cl_21, cl_22, cl_23, cl_24, cl_25, cl_26, cl_27, cl_28, cl_29, cl_30, cl_31, cl_32, cl_36, cl_40, cl_48, cl_60, cl_108, cl_120, cl_200, cl_201, cl_576, cl_600, cl_864, cl_900, cl_960, cl_5400, cl_8040, j2_0, iN_iZ, iN_lit0, iZ_add, iZ_sub, iZ_mul, iZ_neg, jZ_add, jZ_sub, jZ_mul, jZ_neg, isB0, isB1, isBZ, eq0, eq1, bZ0, vI_, vJ_, vA_, rI_, rJ_, rA_, rV_, nX_, tX_, true_and, and_true, false_and, and_false, and_self, implies_true, forall_const, not_true_eq_false, not_false_eq_true, false_implies, true_implies, ↓reduceIte, Nat.reduceEqDiff, Int.reduceToNat, Int.reduceAdd, Int.reduceSub, Int.reduceLT, Int.reduceLE, Int.reduceEq, Int.add_zero, Int.neg_zero, Int.add_sub_cancel, Int.reduceNeg, Nat.reduceLeDiff, Nat.reduceSub, true_or, or_true, false_or, or_false, setI_d, setJ_d, setP_d, mI_row, mJ_row, mP_row, mI_row_ne, mJ_row_ne, mP_row_ne, rowI_rowI, rowJ_rowJ, rowI_sort, rowJ_sort, rowJ_rowI, rowP_rowI, rowP_rowJ, fu_app, fu_fu, mI_rowJ, mI_rowP, mJ_rowI, mJ_rowP, mP_rowI, mP_rowJ, mK_rowI, mN_rowI, mK_rowJ, mN_rowJ, mK_rowP, mN_rowP, oB_rowI, oB_rowJ, iA_rowI, iA_rowJ, iR_rowI, iR_rowJ, St_rowI, St_rowJ, hj', e1]
  · rw [show soA M r ms m i = 0 from if_neg him]
    have him' : ¬ (i : Int) < m := by omega
    have hmi : ¬ (i : Int) < (m : Int) + 1 - 1 := by omega
    refine Ev_wp 2000 hst (by decide) (Nat.le_of_ble_eq_true rfl) ?_; simp (disch := omega) only [en94, wcQ, wcX, wcG, wcL, wcS, w94_0, w94_1, w94_2, w94_3, w94_4, w94_5, w94_6, w94_7, w94_8, w94_9, w94_11, w94_12, toI, toJ, toI64, inb_T, inb_iZ, Int.toNat_natCast, cl_0, cl_1, cl_2, cl_3, cl_4, cl_5, cl_6, cl_7, cl_8, cl_9, cl_10, cl_11, cl_12, cl_13, cl_14, cl_15, cl_16, cl_17, cl_18, cl_19, cl_20, cl_21, cl_22, cl_23, cl_24, cl_25, cl_26, cl_27, cl_28, cl_29, cl_30, cl_31, cl_32, cl_36, cl_40, cl_48, cl_60, cl_108, cl_120, cl_200, cl_201, cl_576, cl_600, cl_864, cl_900, cl_960, cl_5400, cl_8040, j2_0, iN_iZ, iN_lit0, iZ_add, iZ_sub, iZ_mul, iZ_neg, jZ_add, jZ_sub, jZ_mul, jZ_neg, isB0, isB1, isBZ, eq0, eq1, bZ0, vI_, vJ_, vA_, rI_, rJ_, rA_, rV_, nX_, tX_, true_and, and_true, false_and, and_false, and_self, implies_true, forall_const, not_true_eq_false, not_false_eq_true, false_implies, true_implies, ↓reduceIte, Nat.reduceEqDiff, Int.reduceToNat, Int.reduceAdd, Int.reduceSub, Int.reduceLT, Int.reduceLE, Int.reduceEq, Int.add_zero, Int.neg_zero, Int.add_sub_cancel, Int.reduceNeg, Nat.reduceLeDiff, Nat.reduceSub, true_or, or_true, false_or, or_false, setI_d, setJ_d, setP_d, mI_row, mJ_row, mP_row, mI_row_ne, mJ_row_ne, mP_row_ne, rowI_rowI, rowJ_rowJ, rowI_sort, rowJ_sort, rowJ_rowI, rowP_rowI, rowP_rowJ, fu_app, fu_fu, mI_rowJ, mI_rowP, mJ_rowI, mJ_rowP, mP_rowI, mP_rowJ, mK_rowI, mN_rowI, mK_rowJ, mN_rowJ, mK_rowP, mN_rowP, oB_rowI, oB_rowJ, iA_rowI, iA_rowJ, iR_rowI, iR_rowJ, St_rowI, St_rowJ, bs, e2]
    refine wp1_go (n := 2000) ?_
    by_cases m0 : (0 : Int) < m
    · simp (disch := omega) only [wcQ, wcX, wcG, wcL, wcS, h94_14, w94_14, w94_16, w94_17, w94_18, w94_19, w94_22, w94_23, w94_24, w94_25, w94_26, w94_104, w94_106, toI, toJ, toI64, inb_T, inb_iZ, Int.toNat_natCast, cl_0, cl_1, cl_2, cl_3, cl_4, cl_5, cl_6, cl_7, cl_8, cl_9, cl_10, cl_11, cl_12, cl_13, cl_14, cl_15, cl_16, cl_17, cl_18, cl_19, cl_20, cl_21, cl_22, cl_23, cl_24, cl_25, cl_26, cl_27, cl_28, cl_29, cl_30, cl_31, cl_32, cl_36, cl_40, cl_48, cl_60, cl_108, cl_120, cl_200, cl_201, cl_576, cl_600, cl_864, cl_900, cl_960, cl_5400, cl_8040, j2_0, iN_iZ, iN_lit0, iZ_add, iZ_sub, iZ_mul, iZ_neg, jZ_add, jZ_sub, jZ_mul, jZ_neg, isB0, isB1, isBZ, eq0, eq1, bZ0, vI_, vJ_, vA_, rI_, rJ_, rA_, rV_, nX_, tX_, true_and, and_true, false_and, and_false, and_self, implies_true, forall_const, not_true_eq_false, not_false_eq_true, false_implies, true_implies, ↓reduceIte, Nat.reduceEqDiff, Int.reduceToNat, Int.reduceAdd, Int.reduceSub, Int.reduceLT, Int.reduceLE, Int.reduceEq, Int.add_zero, Int.neg_zero, Int.add_sub_cancel, Int.reduceNeg, Nat.reduceLeDiff, Nat.reduceSub, true_or, or_true, false_or, or_false, setI_d, setJ_d, setP_d, mI_row, mJ_row, mP_row, mI_row_ne, mJ_row_ne, mP_row_ne, rowI_rowI, rowJ_rowJ, rowI_sort, rowJ_sort, rowJ_rowI, rowP_rowI, rowP_rowJ, fu_app, fu_fu, mI_rowJ, mI_rowP, mJ_rowI, mJ_rowP, mP_rowI, mP_rowJ, mK_rowI, mN_rowI, mK_rowJ, mN_rowJ, mK_rowP, mN_rowP, oB_rowI, oB_rowJ, iA_rowI, iA_rowJ, iR_rowI, iR_rowJ, St_rowI, St_rowJ, e1, him', m0]
    · simp (disch := omega) only [wcQ, wcX, wcG, wcL, wcS, h94_14, w94_14, w94_16, w94_17, w94_18, w94_19, w94_104, w94_106, toI, toJ, toI64, inb_T, inb_iZ, Int.toNat_natCast, cl_0, cl_1, cl_2, cl_3, cl_4, cl_5, cl_6, cl_7, cl_8, cl_9, cl_10, cl_11, cl_12, cl_13, cl_14, cl_15, cl_16, cl_17, cl_18, cl_19, cl_20, cl_21, cl_22, cl_23, cl_24, cl_25, cl_26, cl_27, cl_28, cl_29, cl_30, cl_31, cl_32, cl_36, cl_40, cl_48, cl_60, cl_108, cl_120, cl_200, cl_201, cl_576, cl_600, cl_864, cl_900, cl_960, cl_5400, cl_8040, j2_0, iN_iZ, iN_lit0, iZ_add, iZ_sub, iZ_mul, iZ_neg, jZ_add, jZ_sub, jZ_mul, jZ_neg, isB0, isB1, isBZ, eq0, eq1, bZ0, vI_, vJ_, vA_, rI_, rJ_, rA_, rV_, nX_, tX_, true_and, and_true, false_and, and_false, and_self, implies_true, forall_const, not_true_eq_false, not_false_eq_true, false_implies, true_implies, ↓reduceIte, Nat.reduceEqDiff, Int.reduceToNat, Int.reduceAdd, Int.reduceSub, Int.reduceLT, Int.reduceLE, Int.reduceEq, Int.add_zero, Int.neg_zero, Int.add_sub_cancel, Int.reduceNeg, Nat.reduceLeDiff, Nat.reduceSub, true_or, or_true, false_or, or_false, setI_d, setJ_d, setP_d, mI_row, mJ_row, mP_row, mI_row_ne, mJ_row_ne, mP_row_ne, rowI_rowI, rowJ_rowJ, rowI_sort, rowJ_sort, rowJ_rowI, rowP_rowI, rowP_rowJ, fu_app, fu_fu, mI_rowJ, mI_rowP, mJ_rowI, mJ_rowP, mP_rowI, mP_rowJ, mK_rowI, mN_rowI, mK_rowJ, mN_rowJ, mK_rowP, mN_rowP, oB_rowI, oB_rowJ, iA_rowI, iA_rowJ, iR_rowI, iR_rowJ, St_rowI, St_rowJ, e1, m0]
end

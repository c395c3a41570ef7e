/-! CARDS: what a fault takes off; the class's side. -/
section
variable {G : GE} {d : Nat} {M M' M'' : Mem} {B : Nat → Nat} {n b k s N a c w cnt : Nat} {q : Bk} {hr wd x lf : Int} {tm : Nat → Nat}
/-- the values of a run are told, all that no fault has is 0 -/
def VS (M : Mem) (k : Nat) (hr wd : Int) : Prop := mI M (k + 8) 2 = iZ hr ∧ mI M (k + 8) 3 = iZ wd ∧ mI M (k + 8) 5 = iZ 0 ∧ mI M (k + 8) 6 = iZ 0
/-- within a part: what is left, how often each fault was, how many in all -/
def CP (M : Mem) (k c : Nat) (hr wd lf : Int) (tm : Nat → Nat) (cnt : Nat) : Prop := mI M 95 4 = iZ lf ∧ (∀ j, j < 10 → mI M 96 j = iZ (tm j)) ∧ mI M c 4 = iZ cnt ∧ VS M k hr wd
/-- behind one fault more -/
def TK (M M' : Mem) (k c : Nat) (q : Bk) (hr wd : Int) (w : Nat) (x lf : Int) (tm : Nat → Nat) (cnt : Nat) : Prop :=
  Fc M M' k c ∧ CP M' k c hr wd (lf - offN (vF hr wd x (tI tm w w) lf 0 0) (cF q w) lf) (tI tm w) (cnt + 1) ∧ mI M' (c + 1) = fu (mI M (c + 1)) cnt (iZ (offN (vF hr wd x (tI tm w w) lf 0 0) (cF q w) lf)) ∧ mI M' (c + 2) = mI M (c + 2) ∧ ∀ j, j ≠ 4 → mI M' c j = mI M c j
theorem CP_91 {g : Nat → Int32} (hk : 222 ≤ k) (hc : 222 ≤ c) (h : CP M k c hr wd lf tm cnt) : CP (rowI M 91 g) k c hr wd lf tm cnt := by
  unfold CP VS at *
  rw [mI_row_ne (by decide), mI_row_ne (by decide), mI_row_ne (by omega), mI_row_ne (by omega)]
  exact h
theorem cF_at {y : Int × List Int} (h : (bF q)[w]? = some y) : cF q w = y.2 := by unfold cF; rw [h]
theorem c176 (hst : (gl G).stackTraces = false) (hS : Static M) (hE : CE M k N s a c q hr wd) {y : Int × List Int} (hw : (bF q)[w]? = some y) (hP : CP M k c hr wd lf tm cnt) (x0 : 0 ≤ x) (x1 : x ≤ 99999) (l0 : 0 ≤ lf) (l1 : lf ≤ 99) (t1 : tm w < 100) (n1 : cnt < 40) : Ev G (d + 3) 176 [aR (some 95), aI (iZ w), aI (iZ x)] M 0 (rV fun M' => TK M M' k c q hr wd w x lf tm cnt ∧ mI M' 91 = mI M 91) nX := by
  have hB := hE.1
  have hC := hE.2.1
  have k1 := hB.1
  obtain ⟨c1, ck⟩ := ce_c hE
  have w10 : w < 10 := by
    have := hC.2.1.2.1
    have : w < (bF q).length := by
      by_cases z : w < (bF q).length
      · exact z
      · rw [List.getElem?_eq_none (by omega)] at hw; cases hw
    omega
  obtain ⟨p1, p2, p3, v2, v3, v5, v6⟩ := id hP
  have p2w := p2 w w10
  obtain ⟨cx, ⟨_, _⟩, st, s1, s2, s3⟩ := hC.2.1.2.2 w y hw
  obtain ⟨f2, hf2⟩ : ∃ f, f = fu (fu (fu (mI M (k + 8)) 0 (iZ x)) 1 (iZ ((tm w : Int) + 1))) 4 (iZ lf) := ⟨_, rfl⟩
  obtain ⟨M1, hM1⟩ : ∃ M1, M1 = rowI (rowI M 96 (fu (mI M 96) w (iZ ((tm w : Int) + 1)))) (k + 8) f2 := ⟨_, rfl⟩
  have F1 : Fc M M1 k c := by rw [hM1]; exact Fc_tr (Fc_row (by omega) k1 c1) (Fc_row (by omega) k1 c1)
  have E1 := Fc_CE F1 hE
  have S1 := Fc_S F1 hS
  have hwe := hE.2.2.2.2.2.2.2.2.1.1 w y hw
  obtain ⟨_, _, st1, s1', s2', s3'⟩ := E1.2.1.2.1.2.2 w y hw
  have hV1 : mI M1 (k + 8) = f2 := by rw [hM1, mI_row]
  have est : st1 = st := by
    have h1 : mI M1 (k + 2) w = mI M (k + 2) w := by rw [hM1, mI_row_ne (by omega), mI_row_ne (by omega)]
    rw [s1', s1] at h1
    have := hE.2.2.1
    have := hE.2.2.2.1
    rw [iZ_inj (by omega) (by omega) (by omega) (by omega)] at h1
    omega
  subst est
  have e1 := c175 (G := G) (d := d) hst E1.1 E1.2.1.2.2.2.2.2.2.2 hE.2.2.1 hE.2.2.2.1 hwe s2' s3'
  rw [hV1] at e1
  have hvl : vl f2 y.2 = vl (vF hr wd x (tI tm w w) lf 0 0) y.2 := by
    refine vl_cong (fun j hj => ?_) hwe
    have hj : j = 0 ∨ j = 1 ∨ j = 2 ∨ j = 3 ∨ j = 4 ∨ j = 5 ∨ j = 6 := by omega
    rw [hf2]
    unfold vF fu tI
    rcases hj with rfl | rfl | rfl | rfl | rfl | rfl | rfl <;> simp [v2, v3, v5, v6]
  rw [hvl] at e1
  refine Ev_wp 2000 hst (by decide) (Nat.le_of_ble_eq_true rfl) ?_; simp (disch := omega) only [en176, wcQ, wcX, wcG, wcL, wcS, w176_0, w176_1, w176_4, w176_5, w176_6, w176_7, w176_8, w176_9, w176_10, w176_11, w176_14, w176_17, w176_18, w176_19, w176_22, w176_23, w176_24, w176_25, w176_26, w176_29, w176_30, w176_31, w176_34, w176_35, w176_36, w176_37, w176_38, w176_41, w176_42, w176_43, w176_46, w176_47, w176_48, w176_51, w176_52, w176_53, w176_54, w176_57, w176_60, w176_61, w176_62, toI, toJ, toI64, inb_T, inb_iZ, Int.toNat_natCast, cl_0, cl_1, cl_2, cl_3, cl_4, cl_5, cl_6, cl_7, cl_8, cl_9, cl_10, cl_11, cl_12, cl_13, cl_14, cl_15, cl_16, cl_17, cl_18, cl_19, cl_20, cl_21, cl_22, cl_23, cl_24, cl_25, cl_26, cl_27, cl_28, cl_29, cl_30, cl_31, cl_32, cl_36, cl_40, cl_48, cl_60, cl_108, cl_120, cl_200, cl_201, cl_576, cl_600, cl_864, cl_900, cl_960, cl_5400, cl_8040, j2_0, iN_iZ, iN_lit0, iZ_add, iZ_sub, iZ_mul, iZ_neg, jZ_add, jZ_sub, jZ_mul, jZ_neg, isB0, isB1, isBZ, eq0, eq1, bZ0, vI_, vJ_, vA_, rI_, rJ_, rA_, rV_, nX_, tX_, true_and, and_true, false_and, and_false, and_self, implies_true, forall_const, not_true_eq_false, not_false_eq_true, false_implies, true_implies, ↓reduceIte, Nat.reduceEqDiff, Int.reduceToNat, Int.reduceAdd, Int.reduceSub, Int.reduceLT, Int.reduceLE, Int.reduceEq, Int.add_zero, Int.neg_zero, Int.add_sub_cancel, Int.reduceNeg, Nat.reduceLeDiff, Nat.reduceSub, true_or, or_true, false_or, or_false, setI_d, setJ_d, setP_d, mI_row, mJ_row, mP_row, mI_row_ne, mJ_row_ne, mP_row_ne, rowI_rowI, rowJ_rowJ, rowI_sort, rowJ_sort, rowJ_rowI, rowP_rowI, rowP_rowJ, fu_app, fu_fu, mI_rowJ, mI_rowP, mJ_rowI, mJ_rowP, mP_rowI, mP_rowJ, mK_rowI, mN_rowI, mK_rowJ, mN_rowJ, mK_rowP, mN_rowP, oB_rowI, oB_rowJ, iA_rowI, iA_rowJ, iR_rowI, iR_rowJ, St_rowI, St_rowJ, K95 hS, O95 hS, P95_5 hS, K96 hS, O96 hS, A96 hS, ce_p1 hE, bk_o hB, bk_p9 hB, bk_o7 hB, bk_q0 hB, bk_i8 hB, bk_p2 hB, bk_i2 hB, p1, p2w, s1]
  rw [← hf2, ← hM1]
  refine kI e1 (Nat.le_refl _) (fun v M2 hq => ?_) (fun e M' h => False.elim h)
  obtain ⟨hv, g, hM2⟩ := hq
  obtain ⟨z, z1, z2, hz⟩ := i32 v
  have F2 : Fc M1 M2 k c := by rw [hM2]; exact Fc_row (by omega) k1 c1
  have E2 := Fc_CE F2 E1
  have S2 := Fc_S F2 S1
  have j4 := jd4 (G := G) (d := d + 1) (M := M2) (x := 0) (y := z) hst (by omega) (by omega) z1 z2
  have j5 := jd5 (G := G) (d := d + 1) (M := M2) (x := lf) (y := if 0 < z then z else 0) hst (by omega) (by omega) (by split <;> omega) (by split <;> omega)
  have hoff : offN (vF hr wd x (tI tm w w) lf 0 0) (cF q w) lf = if (if 0 < z then z else 0) < lf then (if 0 < z then z else 0) else lf := by
    unfold offN
    rw [cF_at hw, ← hv, hz, toI z1 z2]
    omega
  have ob := offN_b (V := vF hr wd x (tI tm w w) lf 0 0) (l := cF q w) l0
  rw [← hoff] at j5
  generalize hO : offN (vF hr wd x (tI tm w w) lf 0 0) (cF q w) lf = o at *
  have q1 : mI M2 95 4 = iZ lf := by rw [hM2, mI_row_ne (by omega), hM1, mI_row_ne (by omega), mI_row_ne (by decide)]; exact p1
  have q3 : mI M2 c 4 = iZ cnt := by rw [hM2, mI_row_ne (by omega), hM1, mI_row_ne (by omega), mI_row_ne (by omega)]; exact p3
  rw [hz]
  simp (disch := omega) only [wcQ, wcX, wcG, wcL, wcS, w176_65, toI, toJ, toI64, inb_T, inb_iZ, Int.toNat_natCast, cl_0, cl_1, cl_2, cl_3, cl_4, cl_5, cl_6, cl_7, cl_8, cl_9, cl_10, cl_11, cl_12, cl_13, cl_14, cl_15, cl_16, cl_17, cl_18, cl_19, cl_20, cl_21, cl_22, cl_23, cl_24, cl_25, cl_26, cl_27, cl_28, cl_29, cl_30, cl_31, cl_32, cl_36, cl_40, cl_48, cl_60, cl_108, cl_120, cl_200, cl_201, cl_576, cl_600, cl_864, cl_900, cl_960, cl_5400, cl_8040, j2_0, iN_iZ, iN_lit0, iZ_add, iZ_sub, iZ_mul, iZ_neg, jZ_add, jZ_sub, jZ_mul, jZ_neg, isB0, isB1, isBZ, eq0, eq1, bZ0, vI_, vJ_, vA_, rI_, rJ_, rA_, rV_, nX_, tX_, true_and, and_true, false_and, and_false, and_self, implies_true, forall_const, not_true_eq_false, not_false_eq_true, false_implies, true_implies, ↓reduceIte, Nat.reduceEqDiff, Int.reduceToNat, Int.reduceAdd, Int.reduceSub, Int.reduceLT, Int.reduceLE, Int.reduceEq, Int.add_zero, Int.neg_zero, Int.add_sub_cancel, Int.reduceNeg, Nat.reduceLeDiff, Nat.reduceSub, true_or, or_true, false_or, or_false, setI_d, setJ_d, setP_d, mI_row, mJ_row, mP_row, mI_row_ne, mJ_row_ne, mP_row_ne, rowI_rowI, rowJ_rowJ, rowI_sort, rowJ_sort, rowJ_rowI, rowP_rowI, rowP_rowJ, fu_app, fu_fu, mI_rowJ, mI_rowP, mJ_rowI, mJ_rowP, mP_rowI, mP_rowJ, mK_rowI, mN_rowI, mK_rowJ, mN_rowJ, mK_rowP, mN_rowP, oB_rowI, oB_rowJ, iA_rowI, iA_rowJ, iR_rowI, iR_rowJ, St_rowI, St_rowJ]
  refine kI0 j4 ?_
  simp (disch := omega) only [wcQ, wcX, wcG, wcL, wcS, w176_68, toI, toJ, toI64, inb_T, inb_iZ, Int.toNat_natCast, cl_0, cl_1, cl_2, cl_3, cl_4, cl_5, cl_6, cl_7, cl_8, cl_9, cl_10, cl_11, cl_12, cl_13, cl_14, cl_15, cl_16, cl_17, cl_18, cl_19, cl_20, cl_21, cl_22, cl_23, cl_24, cl_25, cl_26, cl_27, cl_28, cl_29, cl_30, cl_31, cl_32, cl_36, cl_40, cl_48, cl_60, cl_108, cl_120, cl_200, cl_201, cl_576, cl_600, cl_864, cl_900, cl_960, cl_5400, cl_8040, j2_0, iN_iZ, iN_lit0, iZ_add, iZ_sub, iZ_mul, iZ_neg, jZ_add, jZ_sub, jZ_mul, jZ_neg, isB0, isB1, isBZ, eq0, eq1, bZ0, vI_, vJ_, vA_, rI_, rJ_, rA_, rV_, nX_, tX_, true_and, and_true, false_and, and_false, and_self, implies_true, forall_const, not_true_eq_false, not_false_eq_true, false_implies, true_implies, ↓reduceIte, Nat.reduceEqDiff, Int.reduceToNat, Int.reduceAdd, Int.reduceSub, Int.reduceLT, Int.reduceLE, Int.reduceEq, Int.add_zero, Int.neg_zero, Int.add_sub_cancel, Int.reduceNeg, Nat.reduceLeDiff, Nat.reduceSub, true_or, or_true, false_or, or_false, setI_d, setJ_d, setP_d, mI_row, mJ_row, mP_row, mI_row_ne, mJ_row_ne, mP_row_ne, rowI_rowI, rowJ_rowJ, rowI_sort, rowJ_sort, rowJ_rowI, rowP_rowI, rowP_rowJ, fu_app, fu_fu, mI_rowJ, mI_rowP, mJ_rowI, mJ_rowP, mP_rowI, mP_rowJ, mK_rowI, mN_rowI, mK_rowJ, mN_rowJ, mK_rowP, mN_rowP, oB_rowI, oB_rowJ, iA_rowI, iA_rowJ, iR_rowI, iR_rowJ, St_rowI, St_rowJ]
  refine kI0 j5 ?_
  simp (disch := omega) only [wcQ, wcX, wcG, wcL, wcS, w176_71, w176_73, w176_74, w176_75, w176_78, w176_80, w176_81, w176_84, w176_85, w176_88, w176_91, w176_92, w176_95, w176_98, w176_100, w176_101, w176_102, w176_105, w176_106, w176_109, w176_110, w176_111, w176_114, toI, toJ, toI64, inb_T, inb_iZ, Int.toNat_natCast, cl_0, cl_1, cl_2, cl_3, cl_4, cl_5, cl_6, cl_7, cl_8, cl_9, cl_10, cl_11, cl_12, cl_13, cl_14, cl_15, cl_16, cl_17, cl_18, cl_19, cl_20, cl_21, cl_22, cl_23, cl_24, cl_25, cl_26, cl_27, cl_28, cl_29, cl_30, cl_31, cl_32, cl_36, cl_40, cl_48, cl_60, cl_108, cl_120, cl_200, cl_201, cl_576, cl_600, cl_864, cl_900, cl_960, cl_5400, cl_8040, j2_0, iN_iZ, iN_lit0, iZ_add, iZ_sub, iZ_mul, iZ_neg, jZ_add, jZ_sub, jZ_mul, jZ_neg, isB0, isB1, isBZ, eq0, eq1, bZ0, vI_, vJ_, vA_, rI_, rJ_, rA_, rV_, nX_, tX_, true_and, and_true, false_and, and_false, and_self, implies_true, forall_const, not_true_eq_false, not_false_eq_true, false_implies, true_implies, ↓reduceIte, Nat.reduceEqDiff, Int.reduceToNat, Int.reduceAdd, Int.reduceSub, Int.reduceLT, Int.reduceLE, Int.reduceEq, Int.add_zero, Int.neg_zero, Int.add_sub_cancel, Int.reduceNeg, Nat.reduceLeDiff, Nat.reduceSub, true_or, or_true, false_or, or_false, setI_d, setJ_d, setP_d, mI_row, mJ_row, mP_row, mI_row_ne, mJ_row_ne, mP_row_ne, rowI_rowI, rowJ_rowJ, rowI_sort, rowJ_sort, rowJ_rowI, rowP_rowI, rowP_rowJ, fu_app, fu_fu, mI_rowJ, mI_rowP, mJ_rowI, mJ_rowP, mP_rowI, mP_rowJ, mK_rowI, mN_rowI, mK_rowJ, mN_rowJ, mK_rowP, mN_rowP, oB_rowI, oB_rowJ, iA_rowI, iA_rowJ, iR_rowI, iR_rowJ, St_rowI, St_rowJ, K95 S2, O95 S2, q1, ce_p3 E2, ce_oc E2, ce_p5 E2, ce_i1 E2, q3]
  have i2 : ∀ j, j ≠ 96 → j ≠ k + 8 → j ≠ k + 9 → mI M2 j = mI M j := fun j j1 j2 j3 => by rw [hM2, mI_row_ne j3, hM1, mI_row_ne j2, mI_row_ne j1]
  have i96 : mI M2 96 = fu (mI M 96) w (iZ ((tm w : Int) + 1)) := by rw [hM2, mI_row_ne (by omega), hM1, mI_row_ne (by omega), mI_row]
  have i8 : mI M2 (k + 8) = f2 := by rw [hM2, mI_row_ne (by omega), hV1]
  unfold TK
  rw [hO]
  refine ⟨⟨Fc_tr F1 (Fc_tr F2 (Fc_tr (Fc_row (by omega) k1 c1) (Fc_tr (Fc_row (by omega) k1 c1) (Fc_row (by omega) k1 c1)))), ⟨?_, fun j hj => ?_, ?_, ?_⟩, ?_, ?_, fun j hj => ?_⟩, ?_⟩
  · rw [mI_row_ne (by omega), mI_row_ne (by omega), mI_row]; exact if_pos rfl
  · rw [mI_row_ne (by omega), mI_row_ne (by omega), mI_row_ne (by omega), i96]
    unfold fu tI
    by_cases z : j = w
    · subst z; rw [if_pos rfl, if_pos rfl]; rfl
    · rw [if_neg z, if_neg z]; exact p2 j hj
  · rw [mI_row_ne (by omega), mI_row]; exact if_pos rfl
  · unfold VS
    rw [mI_row_ne (by omega), mI_row_ne (by omega), mI_row_ne (by omega), i8, hf2]
    exact ⟨v2, v3, v5, v6⟩
  · rw [mI_row, i2 (c + 1) (by omega) (by omega) (by omega)]
  · rw [mI_row_ne (by omega), mI_row_ne (by omega), mI_row_ne (by omega)]; exact i2 _ (by omega) (by omega) (by omega)
  · rw [mI_row_ne (by omega), mI_row, i2 c (by omega) (by omega) (by omega)]; exact if_neg hj
  · exact i2 91 (by omega) (by omega) (by omega)
end

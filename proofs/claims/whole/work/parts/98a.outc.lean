/-! CARDS: what is OUT; the whole reader; the class's side. -/
section
variable {G : GE} {d : Nat} {M M' M'' : Mem} {B : Nat → Nat} {n b k s N a c w cnt p : Nat} {q : Bk} {hr wd x lf tot tim : Int} {tm : Nat → Nat}
theorem i0_ {v : Int32} : (v.toInt = 0) = (v = iZ 0) := propext ⟨fun h => Int32.toInt_inj.mp (by rw [h]; rfl), fun h => by rw [h]; rfl⟩
def someO (q : Bk) (V : Nat → Int32) : Prop := ∃ l, l ∈ bO q ∧ vl V l ≠ iZ 0
theorem c181 (hst : (gl G).stackTraces = false) (hS : Static M) (hE : CE M k N s a c q hr wd) (hto : mI M c 2 = iZ tot) (hti : mI M c 1 = iZ tim) : Ev G (d + 4) 181 [aR (some 95)] M 0 (rI fun v M' => ((v = iZ 1 ∧ someO q (vF hr wd 0 0 0 tot tim)) ∨ (v = iZ 0 ∧ ¬ someO q (vF hr wd 0 0 0 tot tim))) ∧ Fc M M' k c ∧ mI M' 91 = mI M 91 ∧ ∀ j, c ≤ j → mI M' j = mI M j) nX := by
  have hB := hE.1
  have k1 := hB.1
  obtain ⟨c1, ck⟩ := ce_c hE
  have e1 := c171 (G := G) (d := d) hst hS hE
  refine Ev_wp 2000 hst (by decide) (Nat.le_of_ble_eq_true rfl) ?_; simp (disch := omega) only [en181, wcQ, wcX, wcG, wcL, wcS, w181_0, w181_1, w181_4, w181_7, w181_8, w181_9, w181_10, toI, toJ, toI64, inb_T, inb_iZ, Int.toNat_natCast, cl_0, cl_1, cl_2, cl_3, cl_4, cl_5, cl_6, cl_7, cl_8, cl_9, cl_10, cl_11, cl_12, cl_13, cl_14, cl_15, cl_16, cl_17, cl_18, cl_19, cl_20, cl_21, cl_22, cl_23, cl_24, cl_25, cl_26, cl_27, cl_28, cl_29, cl_30, cl_31, cl_32, cl_36, cl_40, cl_48, cl_60, cl_108, cl_120, cl_200, cl_201, cl_576, cl_600, cl_864, cl_900, cl_960, cl_5400, cl_8040, j2_0, iN_iZ, iN_lit0, iZ_add, iZ_sub, iZ_mul, iZ_neg, jZ_add, jZ_sub, jZ_mul, jZ_neg, isB0, isB1, isBZ, eq0, eq1, bZ0, vI_, vJ_, vA_, rI_, rJ_, rA_, rV_, nX_, tX_, true_and, and_true, false_and, and_false, and_self, implies_true, forall_const, not_true_eq_false, not_false_eq_true, false_implies, true_implies, ↓reduceIte, Nat.reduceEqDiff, Int.reduceToNat, Int.reduceAdd, Int.reduceSub, Int.reduceLT, Int.reduceLE, Int.reduceEq, Int.add_zero, Int.neg_zero, Int.add_sub_cancel, Int.reduceNeg, Nat.reduceLeDiff, Nat.reduceSub, true_or, or_true, false_or, or_false, setI_d, setJ_d, setP_d, mI_row, mJ_row, mP_row, mI_row_ne, mJ_row_ne, mP_row_ne, rowI_rowI, rowJ_rowJ, rowI_sort, rowJ_sort, rowJ_rowI, rowP_rowI, rowP_rowJ, fu_app, fu_fu, mI_rowJ, mI_rowP, mJ_rowI, mJ_rowP, mP_rowI, mP_rowJ, mK_rowI, mN_rowI, mK_rowJ, mN_rowJ, mK_rowP, mN_rowP, oB_rowI, oB_rowJ, iA_rowI, iA_rowJ, iR_rowI, iR_rowJ, St_rowI, St_rowJ, K95 hS, O95 hS, P95_5 hS, ce_p1 hE, bk_o hB, bk_p9 hB]
  refine kV e1 (Nat.le_refl _) (fun M1 hq => ?_) (fun e M' h => False.elim h)
  subst hq
  have F0 : Fc M (rowI M (k + 8) (tvR (mI M (k + 8)) hr wd)) k c := Fc_row (by omega) k1 c1
  have E0 := Fc_CE F0 hE
  simp (disch := omega) only [wcQ, wcX, wcG, wcL, wcS, w181_13, w181_14, w181_17, w181_18, w181_19, w181_22, w181_25, w181_26, w181_27, w181_30, w181_32, w181_33, w181_36, w181_39, w181_40, w181_41, toI, toJ, toI64, inb_T, inb_iZ, Int.toNat_natCast, cl_0, cl_1, cl_2, cl_3, cl_4, cl_5, cl_6, cl_7, cl_8, cl_9, cl_10, cl_11, cl_12, cl_13, cl_14, cl_15, cl_16, cl_17, cl_18, cl_19, cl_20, cl_21, cl_22, cl_23, cl_24, cl_25, cl_26, cl_27, cl_28, cl_29, cl_30, cl_31, cl_32, cl_36, cl_40, cl_48, cl_60, cl_108, cl_120, cl_200, cl_201, cl_576, cl_600, cl_864, cl_900, cl_960, cl_5400, cl_8040, j2_0, iN_iZ, iN_lit0, iZ_add, iZ_sub, iZ_mul, iZ_neg, jZ_add, jZ_sub, jZ_mul, jZ_neg, isB0, isB1, isBZ, eq0, eq1, bZ0, vI_, vJ_, vA_, rI_, rJ_, rA_, rV_, nX_, tX_, true_and, and_true, false_and, and_false, and_self, implies_true, forall_const, not_true_eq_false, not_false_eq_true, false_implies, true_implies, ↓reduceIte, Nat.reduceEqDiff, Int.reduceToNat, Int.reduceAdd, Int.reduceSub, Int.reduceLT, Int.reduceLE, Int.reduceEq, Int.add_zero, Int.neg_zero, Int.add_sub_cancel, Int.reduceNeg, Nat.reduceLeDiff, Nat.reduceSub, true_or, or_true, false_or, or_false, setI_d, setJ_d, setP_d, mI_row, mJ_row, mP_row, mI_row_ne, mJ_row_ne, mP_row_ne, rowI_rowI, rowJ_rowJ, rowI_sort, rowJ_sort, rowJ_rowI, rowP_rowI, rowP_rowJ, fu_app, fu_fu, mI_rowJ, mI_rowP, mJ_rowI, mJ_rowP, mP_rowI, mP_rowJ, mK_rowI, mN_rowI, mK_rowJ, mN_rowJ, mK_rowP, mN_rowP, oB_rowI, oB_rowJ, iA_rowI, iA_rowJ, iR_rowI, iR_rowJ, St_rowI, St_rowJ, K95 hS, O95 hS, P95_5 hS, ce_p1 hE, ce_p3 hE, ce_oc hE, bk_o hB, bk_o7 hB, bk_q0 hB, bk_i8 hB, hto, hti]
  generalize hV : fu (fu (tvR (mI M (k + 8)) hr wd) 5 (iZ tot)) 6 (iZ tim) = V
  have hV := hV.symm
  have hv7 : ∀ j, j < 7 → V j = vF hr wd 0 0 0 tot tim j := fun j hj => by
    have t := tv_ (f := mI M (k + 8)) (hr := hr) (wd := wd) hj
    have hj : j = 0 ∨ j = 1 ∨ j = 2 ∨ j = 3 ∨ j = 4 ∨ j = 5 ∨ j = 6 := by omega
    rw [hV]
    unfold vF fu
    rcases hj with rfl | rfl | rfl | rfl | rfl | rfl | rfl <;> simp [t]
  clear hV
  obtain ⟨o1, o2, o3⟩ := hE.2.1.2.2.1
  have c20 := hE.2.1.2.2.2.2.2.2.1.2
  generalize hL : bO q = L at *
  refine loopN L.length (fun i ls M' => ls = [aR (some 95), aR (some (k + 7)), aI (iZ i)] ∧ (∃ g, M' = rowI (rowI M (k + 8) V) (k + 9) g) ∧ ∀ (j : Nat) l, j < i → L[j]? = some l → vl (vF hr wd 0 0 0 tot tim) l = iZ 0) ⟨rfl, ⟨mI M (k + 9), by rw [← mI_row_ne (M := M) (a := k + 8) (c := k + 9) (g := V) (by omega), rowI_mI]⟩, fun j l hj => absurd hj (by omega)⟩ ?_ ?_
  · intro i hi ls Mi ⟨hl, ⟨g, hg⟩, hz⟩ K
    subst hl
    have Fi : Fc M Mi k c := by rw [hg]; exact Fc_tr (Fc_row (by omega) k1 c1) (Fc_row (by omega) k1 c1)
    have Ei := Fc_CE Fi hE
    have Si := Fc_S Fi hS
    obtain ⟨l, hl⟩ := ls_get hi
    have hwe := hE.2.2.2.2.2.2.2.2.1.2 i l (by rw [hL]; exact hl)
    obtain ⟨p1, p2, p3⟩ := Ei.2.1.2.2.1
    obtain ⟨st, s1, s2, s3⟩ := p3 i l (by rw [hL]; exact hl)
    rw [hL] at p1
    have hVi : mI Mi (k + 8) = V := by rw [hg, mI_row_ne (by omega), mI_row]
    have e2 := c175 (G := G) (d := d + 1) hst Ei.1 Ei.2.1.2.2.2.2.2.2.2 hE.2.2.1 hE.2.2.2.1 hwe s2 s3
    rw [hVi, vl_cong hv7 hwe] at e2
    have hi' : (i : Int) < L.length := by omega
    refine wp1_go (n := 2000) ?_
    simp (disch := omega) only [wcQ, wcX, wcG, wcL, wcS, h181_42, w181_42, w181_43, w181_44, w181_47, w181_50, w181_53, w181_54, w181_55, w181_58, w181_61, w181_62, w181_63, toI, toJ, toI64, inb_T, inb_iZ, Int.toNat_natCast, cl_0, cl_1, cl_2, cl_3, cl_4, cl_5, cl_6, cl_7, cl_8, cl_9, cl_10, cl_11, cl_12, cl_13, cl_14, cl_15, cl_16, cl_17, cl_18, cl_19, cl_20, cl_21, cl_22, cl_23, cl_24, cl_25, cl_26, cl_27, cl_28, cl_29, cl_30, cl_31, cl_32, cl_36, cl_40, cl_48, cl_60, cl_108, cl_120, cl_200, cl_201, cl_576, cl_600, cl_864, cl_900, cl_960, cl_5400, cl_8040, j2_0, iN_iZ, iN_lit0, iZ_add, iZ_sub, iZ_mul, iZ_neg, jZ_add, jZ_sub, jZ_mul, jZ_neg, isB0, isB1, isBZ, eq0, eq1, bZ0, vI_, vJ_, vA_, rI_, rJ_, rA_, rV_, nX_, tX_, true_and, and_true, false_and, and_false, and_self, implies_true, forall_const, not_true_eq_false, not_false_eq_true, false_implies, true_implies, ↓reduceIte, Nat.reduceEqDiff, Int.reduceToNat, Int.reduceAdd, Int.reduceSub, Int.reduceLT, Int.reduceLE, Int.reduceEq, Int.add_zero, Int.neg_zero, Int.add_sub_cancel, Int.reduceNeg, Nat.reduceLeDiff, Nat.reduceSub, true_or, or_true, false_or, or_false, setI_d, setJ_d, setP_d, mI_row, mJ_row, mP_row, mI_row_ne, mJ_row_ne, mP_row_ne, rowI_rowI, rowJ_rowJ, rowI_sort, rowJ_sort, rowJ_rowI, rowP_rowI, rowP_rowJ, fu_app, fu_fu, mI_rowJ, mI_rowP, mJ_rowI, mJ_rowP, mP_rowI, mP_rowJ, mK_rowI, mN_rowI, mK_rowJ, mN_rowJ, mK_rowP, mN_rowP, oB_rowI, oB_rowJ, iA_rowI, iA_rowJ, iR_rowI, iR_rowJ, St_rowI, St_rowJ, K95 Si, O95 Si, ce_p1 Ei, bk_o Ei.1, bk_p4 Ei.1, bk_i3 Ei.1, bk_o7 Ei.1, p1, s1, hi']
    refine kI e2 (Nat.le_refl _) (fun v M2 hq => ?_) (fun e M' h => False.elim h)
    obtain ⟨hv, g2, hM2⟩ := hq
    by_cases z : v = iZ 0
    · have z' := eq_true z
      simp (disch := omega) only [wcQ, wcX, wcG, wcL, wcS, h181_42, w181_42, w181_66, w181_71, w181_74, toI, toJ, toI64, inb_T, inb_iZ, Int.toNat_natCast, cl_0, cl_1, cl_2, cl_3, cl_4, cl_5, cl_6, cl_7, cl_8, cl_9, cl_10, cl_11, cl_12, cl_13, cl_14, cl_15, cl_16, cl_17, cl_18, cl_19, cl_20, cl_21, cl_22, cl_23, cl_24, cl_25, cl_26, cl_27, cl_28, cl_29, cl_30, cl_31, cl_32, cl_36, cl_40, cl_48, cl_60, cl_108, cl_120, cl_200, cl_201, cl_576, cl_600, cl_864, cl_900, cl_960, cl_5400, cl_8040, j2_0, iN_iZ, iN_lit0, iZ_add, iZ_sub, iZ_mul, iZ_neg, jZ_add, jZ_sub, jZ_mul, jZ_neg, isB0, isB1, isBZ, eq0, eq1, bZ0, vI_, vJ_, vA_, rI_, rJ_, rA_, rV_, nX_, tX_, true_and, and_true, false_and, and_false, and_self, implies_true, forall_const, not_true_eq_false, not_false_eq_true, false_implies, true_implies, ↓reduceIte, Nat.reduceEqDiff, Int.reduceToNat, Int.reduceAdd, Int.reduceSub, Int.reduceLT, Int.reduceLE, Int.reduceEq, Int.add_zero, Int.neg_zero, Int.add_sub_cancel, Int.reduceNeg, Nat.reduceLeDiff, Nat.reduceSub, true_or, or_true, false_or, or_false, setI_d, setJ_d, setP_d, mI_row, mJ_row, mP_row, mI_row_ne, mJ_row_ne, mP_row_ne, rowI_rowI, rowJ_rowJ, rowI_sort, rowJ_sort, rowJ_rowI, rowP_rowI, rowP_rowJ, fu_app, fu_fu, mI_rowJ, mI_rowP, mJ_rowI, mJ_rowP, mP_rowI, mP_rowJ, mK_rowI, mN_rowI, mK_rowJ, mN_rowJ, mK_rowP, mN_rowP, oB_rowI, oB_rowJ, iA_rowI, iA_rowJ, iR_rowI, iR_rowJ, St_rowI, St_rowJ, i0_, z']
      refine K _ _ ⟨rfl, ⟨g2, by rw [hM2, hg, rowI_rowI]⟩, fun j l' hj hl' => ?_⟩
      by_cases y : j = i
      · subst y
        rw [hl] at hl'
        cases hl'
        rw [← hv]; exact z
      · exact hz j l' (by omega) hl'
    · have z' := eq_false z
      simp (disch := omega) only [wcQ, wcX, wcG, wcL, wcS, w181_66, w181_69, w181_70, toI, toJ, toI64, inb_T, inb_iZ, Int.toNat_natCast, cl_0, cl_1, cl_2, cl_3, cl_4, cl_5, cl_6, cl_7, cl_8, cl_9, cl_10, cl_11, cl_12, cl_13, cl_14, cl_15, cl_16, cl_17, cl_18, cl_19, cl_20, cl_21, cl_22, cl_23, cl_24, cl_25, cl_26, cl_27, cl_28, cl_29, cl_30, cl_31, cl_32, cl_36, cl_40, cl_48, cl_60, cl_108, cl_120, cl_200, cl_201, cl_576, cl_600, cl_864, cl_900, cl_960, cl_5400, cl_8040, j2_0, iN_iZ, iN_lit0, iZ_add, iZ_sub, iZ_mul, iZ_neg, jZ_add, jZ_sub, jZ_mul, jZ_neg, isB0, isB1, isBZ, eq0, eq1, bZ0, vI_, vJ_, vA_, rI_, rJ_, rA_, rV_, nX_, tX_, true_and, and_true, false_and, and_false, and_self, implies_true, forall_const, not_true_eq_false, not_false_eq_true, false_implies, true_implies, ↓reduceIte, Nat.reduceEqDiff, Int.reduceToNat, Int.reduceAdd, Int.reduceSub, Int.reduceLT, Int.reduceLE, Int.reduceEq, Int.add_zero, Int.neg_zero, Int.add_sub_cancel, Int.reduceNeg, Nat.reduceLeDiff, Nat.reduceSub, true_or, or_true, false_or, or_false, setI_d, setJ_d, setP_d, mI_row, mJ_row, mP_row, mI_row_ne, mJ_row_ne, mP_row_ne, rowI_rowI, rowJ_rowJ, rowI_sort, rowJ_sort, rowJ_rowI, rowP_rowI, rowP_rowJ, fu_app, fu_fu, mI_rowJ, mI_rowP, mJ_rowI, mJ_rowP, mP_rowI, mP_rowJ, mK_rowI, mN_rowI, mK_rowJ, mN_rowJ, mK_rowP, mN_rowP, oB_rowI, oB_rowJ, iA_rowI, iA_rowJ, iR_rowI, iR_rowJ, St_rowI, St_rowJ, i0_, z']
      refine ⟨Or.inl ⟨l, ?_, ?_⟩, ?_, ?_, fun j hj => ?_⟩
      · rw [hL]; exact List.mem_of_getElem? hl
      · rw [← hv]; exact z
      · rw [hM2]; exact Fc_tr Fi (Fc_row (by omega) k1 c1)
      · rw [hM2, mI_row_ne (by omega), hg, mI_row_ne (by omega), mI_row_ne (by omega)]
      · rw [hM2, mI_row_ne (by omega), hg, mI_row_ne (by omega), mI_row_ne (by omega)]
  · intro ls Mi ⟨hl, ⟨g, hg⟩, hz⟩
    subst hl
    have Fi : Fc M Mi k c := by rw [hg]; exact Fc_tr (Fc_row (by omega) k1 c1) (Fc_row (by omega) k1 c1)
    have Ei := Fc_CE Fi hE
    have Si := Fc_S Fi hS
    obtain ⟨p1, p2, p3⟩ := Ei.2.1.2.2.1
    rw [hL] at p1
    refine wp1_go (n := 2000) ?_
    simp (disch := omega) only [wcQ, wcX, wcG, wcL, wcS, h181_42, w181_42, w181_43, w181_44, w181_47, w181_50, w181_77, w181_78, toI, toJ, toI64, inb_T, inb_iZ, Int.toNat_natCast, cl_0, cl_1, cl_2, cl_3, cl_4, cl_5, cl_6, cl_7, cl_8, cl_9, cl_10, cl_11, cl_12, cl_13, cl_14, cl_15, cl_16, cl_17, cl_18, cl_19, cl_20, cl_21, cl_22, cl_23, cl_24, cl_25, cl_26, cl_27, cl_28, cl_29, cl_30, cl_31, cl_32, cl_36, cl_40, cl_48, cl_60, cl_108, cl_120, cl_200, cl_201, cl_576, cl_600, cl_864, cl_900, cl_960, cl_5400, cl_8040, j2_0, iN_iZ, iN_lit0, iZ_add, iZ_sub, iZ_mul, iZ_neg, jZ_add, jZ_sub, jZ_mul, jZ_neg, isB0, isB1, isBZ, eq0, eq1, bZ0, vI_, vJ_, vA_, rI_, rJ_, rA_, rV_, nX_, tX_, true_and, and_true, false_and, and_false, and_self, implies_true, forall_const, not_true_eq_false, not_false_eq_true, false_implies, true_implies, ↓reduceIte, Nat.reduceEqDiff, Int.reduceToNat, Int.reduceAdd, Int.reduceSub, Int.reduceLT, Int.reduceLE, Int.reduceEq, Int.add_zero, Int.neg_zero, Int.add_sub_cancel, Int.reduceNeg, Nat.reduceLeDiff, Nat.reduceSub, true_or, or_true, false_or, or_false, setI_d, setJ_d, setP_d, mI_row, mJ_row, mP_row, mI_row_ne, mJ_row_ne, mP_row_ne, rowI_rowI, rowJ_rowJ, rowI_sort, rowJ_sort, rowJ_rowI, rowP_rowI, rowP_rowJ, fu_app, fu_fu, mI_rowJ, mI_rowP, mJ_rowI, mJ_rowP, mP_rowI, mP_rowJ, mK_rowI, mN_rowI, mK_rowJ, mN_rowJ, mK_rowP, mN_rowP, oB_rowI, oB_rowJ, iA_rowI, iA_rowJ, iR_rowI, iR_rowJ, St_rowI, St_rowJ, K95 Si, O95 Si, ce_p1 Ei, bk_o Ei.1, p1, Int.lt_irrefl]
    refine ⟨Or.inr ?_, Fi, ?_, fun j hj => ?_⟩
    · rintro ⟨l, h1, h2⟩
      rw [hL] at h1
      obtain ⟨i, hi, hl⟩ := List.mem_iff_getElem.mp h1
      exact h2 (hz i l hi (by rw [List.getElem?_eq_getElem hi, hl]))
    · rw [hg, mI_row_ne (by omega), mI_row_ne (by omega)]
    · rw [hg, mI_row_ne (by omega), mI_row_ne (by omega)]
end

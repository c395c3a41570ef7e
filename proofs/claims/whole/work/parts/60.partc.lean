/-! RULES: parts; the class's side. -/
section
variable {G : GE} {d : Nat} {M : Mem} {B : Nat → Nat} {n b k s : Nat} {q : Bk}
theorem bk_p1 (h : BK M k n) : mP M k 1 = some (k + 1) := by unfold BK at h; simp only [h]
theorem bk_p2 (h : BK M k n) : mP M k 2 = some (k + 2) := by unfold BK at h; simp only [h]
theorem bk_p4 (h : BK M k n) : mP M k 4 = some (k + 3) := by unfold BK at h; simp only [h]
theorem bk_p6 (h : BK M k n) : mP M k 6 = some (k + 4) := by unfold BK at h; simp only [h]
theorem bk_p12 (h : BK M k n) : mP M k 12 = some (k + 5) := by unfold BK at h; simp only [h]
theorem bk_p13 (h : BK M k n) : mP M k 13 = some (k + 6) := by unfold BK at h; simp only [h]
theorem bk_p9 (h : BK M k n) : mP M k 9 = some (k + 7) := by unfold BK at h; simp only [h]
theorem bk_q0 (h : BK M k n) : mP M (k + 7) 0 = some (k + 8) := by unfold BK at h; simp only [h]
theorem bk_q3 (h : BK M k n) : mP M (k + 7) 3 = some (k + 9) := by unfold BK at h; simp only [h]
theorem bk_q1 (h : BK M k n) : mP M (k + 7) 1 = some (k + 10) := by unfold BK at h; simp only [h]
theorem bk_o (h : BK M k n) : oB M k 6 = True := by unfold BK at h; exact eq_true ⟨by omega, by omega, by simp only [h]⟩
theorem bk_o7 (h : BK M k n) : oB M (k + 7) 3 = True := by unfold BK at h; exact eq_true ⟨by omega, by omega, by simp only [h]⟩
theorem bk_k1 (h : BK M k n) : mK M (k + 1) = (20, 8) := by unfold BK at h; simp only [h]
theorem bk_o1 (h : BK M k n) : oB M (k + 1) 20 = True := eq_true ⟨by unfold BK at h; omega, by unfold BK at h; omega, by rw [bk_k1 h]⟩
theorem bk_i1 (h : BK M k n) {x : Int32} : iA M (k + 1) 20 x = inb x 8 := by unfold iA; rw [bk_o1 h, bk_k1 h, true_and]
theorem bk_k2 (h : BK M k n) : mK M (k + 2) = (20, 10) := by unfold BK at h; simp only [h]
theorem bk_o2 (h : BK M k n) : oB M (k + 2) 20 = True := eq_true ⟨by unfold BK at h; omega, by unfold BK at h; omega, by rw [bk_k2 h]⟩
theorem bk_i2 (h : BK M k n) {x : Int32} : iA M (k + 2) 20 x = inb x 10 := by unfold iA; rw [bk_o2 h, bk_k2 h, true_and]
theorem bk_k3 (h : BK M k n) : mK M (k + 3) = (20, 20) := by unfold BK at h; simp only [h]
theorem bk_o3 (h : BK M k n) : oB M (k + 3) 20 = True := eq_true ⟨by unfold BK at h; omega, by unfold BK at h; omega, by rw [bk_k3 h]⟩
theorem bk_i3 (h : BK M k n) {x : Int32} : iA M (k + 3) 20 x = inb x 20 := by unfold iA; rw [bk_o3 h, bk_k3 h, true_and]
theorem bk_k4 (h : BK M k n) : mK M (k + 4) = (20, 8) := by unfold BK at h; simp only [h]
theorem bk_o4 (h : BK M k n) : oB M (k + 4) 20 = True := eq_true ⟨by unfold BK at h; omega, by unfold BK at h; omega, by rw [bk_k4 h]⟩
theorem bk_i4 (h : BK M k n) {x : Int32} : iA M (k + 4) 20 x = inb x 8 := by unfold iA; rw [bk_o4 h, bk_k4 h, true_and]
theorem bk_k5 (h : BK M k n) : mK M (k + 5) = (21, 8) := by unfold BK at h; simp only [h]
theorem bk_o5 (h : BK M k n) : oB M (k + 5) 21 = True := eq_true ⟨by unfold BK at h; omega, by unfold BK at h; omega, by rw [bk_k5 h]⟩
theorem bk_i5 (h : BK M k n) {x : Int32} : iA M (k + 5) 21 x = inb x 8 := by unfold iA; rw [bk_o5 h, bk_k5 h, true_and]
theorem bk_k6 (h : BK M k n) : mK M (k + 6) = (21, 10) := by unfold BK at h; simp only [h]
theorem bk_o6 (h : BK M k n) : oB M (k + 6) 21 = True := eq_true ⟨by unfold BK at h; omega, by unfold BK at h; omega, by rw [bk_k6 h]⟩
theorem bk_i6 (h : BK M k n) {x : Int32} : iA M (k + 6) 21 x = inb x 10 := by unfold iA; rw [bk_o6 h, bk_k6 h, true_and]
theorem bk_k8 (h : BK M k n) : mK M (k + 8) = (20, 7) := by unfold BK at h; simp only [h]
theorem bk_o8 (h : BK M k n) : oB M (k + 8) 20 = True := eq_true ⟨by unfold BK at h; omega, by unfold BK at h; omega, by rw [bk_k8 h]⟩
theorem bk_i8 (h : BK M k n) {x : Int32} : iA M (k + 8) 20 x = inb x 7 := by unfold iA; rw [bk_o8 h, bk_k8 h, true_and]
theorem bk_k9 (h : BK M k n) : mK M (k + 9) = (20, 31) := by unfold BK at h; simp only [h]
theorem bk_o9 (h : BK M k n) : oB M (k + 9) 20 = True := eq_true ⟨by unfold BK at h; omega, by unfold BK at h; omega, by rw [bk_k9 h]⟩
theorem bk_i9 (h : BK M k n) {x : Int32} : iA M (k + 9) 20 x = inb x 31 := by unfold iA; rw [bk_o9 h, bk_k9 h, true_and]
theorem bk_F (h : BK M k n) (hs : mI M (k + 7) 2 = iZ s) : FC M (k + 7) (k + 10) n s := by
  have e : mK M (k + 10) = (20, n) := by unfold BK at h; simp only [h]
  exact ⟨(bk_o7 h).symm ▸ trivial, ⟨by unfold BK at h; omega, by unfold BK at h; omega, by rw [e]⟩, e, bk_q1 h, hs, by unfold BK at h; omega, by unfold BK at h; omega, by omega⟩
theorem nn_0 {P : Nat → Int} {c : Nat} (h : nnE B n b P c = 0) : nmP B n b ∧ tl B n b ≤ 8 ∧ ixO P (nc B b (tl B n b)) c = -1 := by
  unfold nnE at h
  by_cases h1 : nmP B n b
  · rw [if_neg (fun z => z h1)] at h
    by_cases h2 : 8 < tl B n b
    · rw [if_pos h2] at h; omega
    · rw [if_neg h2] at h
      by_cases h3 : ixO P (nc B b (tl B n b)) c = -1
      · exact ⟨h1, by omega, h3⟩
      · rw [if_pos h3] at h; omega
  · rw [if_pos h1] at h; omega
theorem tn_0 {lo hi : Nat} (h : tnE B n b lo hi = 0) : tkd B n b = 2 ∧ lo ≤ dv B b (tl B n b) ∧ dv B b (tl B n b) ≤ hi := by
  unfold tnE at h
  by_cases h1 : tkd B n b = 2
  · rw [if_neg (fun z => z h1)] at h
    by_cases h2 : 5 < tl B n b ∨ dv B b (tl B n b) < lo ∨ hi < dv B b (tl B n b)
    · rw [if_pos h2] at h; omega
    · exact ⟨h1, by omega, by omega⟩
  · rw [if_pos h1] at h; omega
theorem gN_lt {α : Type} {l : List (Int × α)} {i : Nat} (h : i < l.length) : ∃ x, l[i]? = some x ∧ gN l i = x.1 := by
  obtain ⟨x, hx⟩ := ls_get h
  exact ⟨x, hx, gN_at hx⟩
theorem BC_addP {M' : Mem} {nm v : Int} (h : BC M k s q) (h8 : (bP q).length < 8) (h0 : mI M' k = fu (mI M k) 0 (iZ ((bP q).length + 1 : Nat))) (h1 : mI M' (k + 1) = fu (mI M (k + 1)) (bP q).length (iZ v)) (h5 : mJ M' (k + 5) = fu (mJ M (k + 5)) (bP q).length (jZ nm)) (hr : ∀ c, 2 ≤ c → c ≤ 10 → mI M' (k + c) = mI M (k + c)) (h6 : mJ M' (k + 6) = mJ M (k + 6)) (n1 : 0 ≤ nm) (n2 : nm < 1000000000000) (v1 : 1 ≤ v) (v2 : v ≤ 99) : BC M' k s (bP q ++ [(nm, v)], q.2) := by
  obtain ⟨P, R⟩ := q
  simp only [bP] at h8 h0 h1 h5
  obtain ⟨⟨a1, a2, a3⟩, h⟩ := h
  simp only [bP] at a1 a2 a3
  have hk : ∀ j, j ≠ 0 → mI M' k j = mI M k j := fun j hj => by rw [h0]; exact if_neg hj
  refine ⟨⟨?_, ?_, fun i x hx => ?_⟩, ?_⟩
  · show mI M' k 0 = iZ ((P ++ [(nm, v)]).length : Nat)
    rw [h0, List.length_append]
    exact if_pos rfl
  · show (P ++ [(nm, v)]).length ≤ 8
    rw [List.length_append]
    exact h8
  · rw [h1, h5]
    have hx : (P ++ [(nm, v)])[i]? = some x := hx
    by_cases z : i < P.length
    · rw [List.getElem?_append_left z] at hx
      have := a3 i x hx
      have z' : i ≠ P.length := by omega
      rw [show fu (mI M (k + 1)) P.length (iZ v) i = mI M (k + 1) i from if_neg z', show fu (mJ M (k + 5)) P.length (jZ nm) i = mJ M (k + 5) i from if_neg z']
      exact this
    · rw [List.getElem?_append_right (by omega)] at hx
      have z2 : i - P.length = 0 := by
        by_cases y : i - P.length = 0
        · exact y
        · rw [List.getElem?_eq_none (by simp; omega)] at hx; cases hx
      rw [z2] at hx
      simp at hx
      have z3 : i = P.length := by omega
      rw [z3, ← hx]
      exact ⟨if_pos rfl, if_pos rfl, ⟨n1, n2⟩, v1, v2⟩
  · unfold CL at *
    rw [hk 10 (by decide), hk 3 (by decide), hk 5 (by decide), hk 7 (by decide), hk 8 (by decide), hk 11 (by decide), hr 2 (by decide) (by decide), hr 3 (by decide) (by decide), hr 4 (by decide) (by decide), hr 7 (by decide) (by decide), hr 10 (by decide) (by decide), h6]
    exact h
theorem c140 (hst : (gl G).stackTraces = false) (hS : Static M) (hT : TC M B n b) (hB : BK M k n) (hC : BC M k s q) (hs : s ≤ b) (hbn : b < n) : Ev G (d + 8) 140 [aR (some k), aR (some 91)] M 0 (rI fun v M' => QB M B n k (pPart B n q b) v M') nX := by
  have n6 := hT.1.1
  obtain ⟨k1, k2, kk, kk1, kk2, kk3, kk4, kk5, kk6, kk7, kk8, kk9, kk10, p1, p2, p4, p6, p12, p13, p9, p70, p73, p71⟩ := id hB
  obtain ⟨⟨hp0, hp8, hpx⟩, hf, ho, ht, hb5, hl, hcc, hsz⟩ := id hC
  have o6 : oB M k 6 = True := eq_true ⟨by omega, by omega, kk⟩
  have o91 : oB M 91 10 = True := O91 hS
  have nb := nxT_b (B := B) (n := n) (b := b)
  by_cases h8 : 8 ≤ (bP q).length
  · have e1 := c130 (G := G) (d := d + 6) (k := 2) hst hS hT
    have h8' : ¬ (((bP q).length : Nat) : Int) < 8 := by omega
    have hr : pPart B n q b = .inl (2, b) := by unfold pPart; rw [if_pos h8]
    refine Ev_wp 2000 hst (by decide) (Nat.le_of_ble_eq_true rfl) ?_; simp (disch := omega) only [en140, wcQ, wcX, wcG, wcL, wcS, w140_0, w140_1, w140_4, w140_6, w140_9, w140_10, w140_11, toI, toJ, toI64, inb_T, inb_iZ, Int.toNat_natCast, cl_0, cl_1, cl_2, cl_3, cl_4, cl_5, cl_6, cl_7, cl_8, cl_9, cl_10, cl_11, cl_12, cl_13, cl_14, cl_15, cl_16, cl_17, cl_18, cl_19, cl_20, cl_21, cl_22, cl_23, cl_24, cl_25, cl_26, cl_27, cl_28, cl_29, cl_30, cl_31, cl_32, cl_36, cl_40, cl_48, cl_60, cl_108, cl_120, cl_200, cl_201, cl_576, cl_600, cl_864, cl_900, cl_960, cl_5400, cl_8040, j2_0, iN_iZ, iN_lit0, iZ_add, iZ_sub, iZ_mul, iZ_neg, jZ_add, jZ_sub, jZ_mul, jZ_neg, isB0, isB1, isBZ, eq0, eq1, bZ0, vI_, vJ_, vA_, rI_, rJ_, rA_, rV_, nX_, tX_, true_and, and_true, false_and, and_false, and_self, implies_true, forall_const, not_true_eq_false, not_false_eq_true, false_implies, true_implies, ↓reduceIte, Nat.reduceEqDiff, Int.reduceToNat, Int.reduceAdd, Int.reduceSub, Int.reduceLT, Int.reduceLE, Int.reduceEq, Int.add_zero, Int.neg_zero, Int.add_sub_cancel, Int.reduceNeg, Nat.reduceLeDiff, Nat.reduceSub, true_or, or_true, false_or, or_false, setI_d, setJ_d, setP_d, mI_row, mJ_row, mP_row, mI_row_ne, mJ_row_ne, mP_row_ne, rowI_rowI, rowJ_rowJ, rowI_sort, rowJ_sort, rowJ_rowI, rowP_rowI, rowP_rowJ, fu_app, fu_fu, mI_rowJ, mI_rowP, mJ_rowI, mJ_rowP, mP_rowI, mP_rowJ, mK_rowI, mN_rowI, mK_rowJ, mN_rowJ, mK_rowP, mN_rowP, oB_rowI, oB_rowJ, iA_rowI, iA_rowJ, iR_rowI, iR_rowJ, St_rowI, St_rowJ, o6, hp0, h8', o91]
    refine kI e1 (Nat.le_refl _) (fun v M' hq => ?_) (fun e M' h => False.elim h)
    obtain ⟨rfl, rfl⟩ := hq
    simp (disch := omega) only [wcQ, wcX, wcG, wcL, wcS, w140_14, toI, toJ, toI64, inb_T, inb_iZ, Int.toNat_natCast, cl_0, cl_1, cl_2, cl_3, cl_4, cl_5, cl_6, cl_7, cl_8, cl_9, cl_10, cl_11, cl_12, cl_13, cl_14, cl_15, cl_16, cl_17, cl_18, cl_19, cl_20, cl_21, cl_22, cl_23, cl_24, cl_25, cl_26, cl_27, cl_28, cl_29, cl_30, cl_31, cl_32, cl_36, cl_40, cl_48, cl_60, cl_108, cl_120, cl_200, cl_201, cl_576, cl_600, cl_864, cl_900, cl_960, cl_5400, cl_8040, j2_0, iN_iZ, iN_lit0, iZ_add, iZ_sub, iZ_mul, iZ_neg, jZ_add, jZ_sub, jZ_mul, jZ_neg, isB0, isB1, isBZ, eq0, eq1, bZ0, vI_, vJ_, vA_, rI_, rJ_, rA_, rV_, nX_, tX_, true_and, and_true, false_and, and_false, and_self, implies_true, forall_const, not_true_eq_false, not_false_eq_true, false_implies, true_implies, ↓reduceIte, Nat.reduceEqDiff, Int.reduceToNat, Int.reduceAdd, Int.reduceSub, Int.reduceLT, Int.reduceLE, Int.reduceEq, Int.add_zero, Int.neg_zero, Int.add_sub_cancel, Int.reduceNeg, Nat.reduceLeDiff, Nat.reduceSub, true_or, or_true, false_or, or_false, setI_d, setJ_d, setP_d, mI_row, mJ_row, mP_row, mI_row_ne, mJ_row_ne, mP_row_ne, rowI_rowI, rowJ_rowJ, rowI_sort, rowJ_sort, rowJ_rowI, rowP_rowI, rowP_rowJ, fu_app, fu_fu, mI_rowJ, mI_rowP, mJ_rowI, mJ_rowP, mP_rowI, mP_rowJ, mK_rowI, mN_rowI, mK_rowJ, mN_rowJ, mK_rowP, mN_rowP, oB_rowI, oB_rowJ, iA_rowI, iA_rowJ, iR_rowI, iR_rowJ, St_rowI, St_rowJ]
    rw [QB_i hr]
    exact ⟨Fm_rf, rfl, rf_2, rf_3⟩
  · have h8' : (((bP q).length : Nat) : Int) < 8 := by omega
    have e1 := c124t (G := G) (d := d + 6) hst hS hT
    refine Ev_wp 2000 hst (by decide) (Nat.le_of_ble_eq_true rfl) ?_; simp (disch := omega) only [en140, wcQ, wcX, wcG, wcL, wcS, w140_0, w140_1, w140_4, w140_6, w140_15, w140_16, toI, toJ, toI64, inb_T, inb_iZ, Int.toNat_natCast, cl_0, cl_1, cl_2, cl_3, cl_4, cl_5, cl_6, cl_7, cl_8, cl_9, cl_10, cl_11, cl_12, cl_13, cl_14, cl_15, cl_16, cl_17, cl_18, cl_19, cl_20, cl_21, cl_22, cl_23, cl_24, cl_25, cl_26, cl_27, cl_28, cl_29, cl_30, cl_31, cl_32, cl_36, cl_40, cl_48, cl_60, cl_108, cl_120, cl_200, cl_201, cl_576, cl_600, cl_864, cl_900, cl_960, cl_5400, cl_8040, j2_0, iN_iZ, iN_lit0, iZ_add, iZ_sub, iZ_mul, iZ_neg, jZ_add, jZ_sub, jZ_mul, jZ_neg, isB0, isB1, isBZ, eq0, eq1, bZ0, vI_, vJ_, vA_, rI_, rJ_, rA_, rV_, nX_, tX_, true_and, and_true, false_and, and_false, and_self, implies_true, forall_const, not_true_eq_false, not_false_eq_true, false_implies, true_implies, ↓reduceIte, Nat.reduceEqDiff, Int.reduceToNat, Int.reduceAdd, Int.reduceSub, Int.reduceLT, Int.reduceLE, Int.reduceEq, Int.add_zero, Int.neg_zero, Int.add_sub_cancel, Int.reduceNeg, Nat.reduceLeDiff, Nat.reduceSub, true_or, or_true, false_or, or_false, setI_d, setJ_d, setP_d, mI_row, mJ_row, mP_row, mI_row_ne, mJ_row_ne, mP_row_ne, rowI_rowI, rowJ_rowJ, rowI_sort, rowJ_sort, rowJ_rowI, rowP_rowI, rowP_rowJ, fu_app, fu_fu, mI_rowJ, mI_rowP, mJ_rowI, mJ_rowP, mP_rowI, mP_rowJ, mK_rowI, mN_rowI, mK_rowJ, mN_rowJ, mK_rowP, mN_rowP, oB_rowI, oB_rowJ, iA_rowI, iA_rowJ, iR_rowI, iR_rowJ, St_rowI, St_rowJ, o6, hp0, h8', o91]
    refine kV e1 (Nat.le_refl _) (fun M' hq => ?_) (fun e M' h => False.elim h)
    subst hq
    have F1 : Fm M (stM M B n (nxT B n b)) k := Fm_st
    have T1 : TC (stM M B n (nxT B n b)) B n (nxT B n b) := TC_st hT.1 (nb.2.1 (by omega))
    have C1 : BC (stM M B n (nxT B n b)) k s q := BC_91 k1 hC
    generalize hb1 : nxT B n b = b1 at *
    generalize hM1 : stM M B n b1 = M1 at *
    have S1 := Fm_Static F1 hS
    have B1 := Fm_BK F1 hB
    have b1n : b1 ≤ n := by omega
    have b2 := nxT_b (B := B) (n := n) (b := b1)
    obtain ⟨⟨cp0, _, cpx⟩, _⟩ := id C1
    have e2 := c135 (G := G) (d := d) (M := M1) (a := k + 5) (L := 8) (c := (bP q).length) (P := gN (bP q)) hst S1 T1 (by rw [bk_o5 B1]; trivial) (bk_k5 B1) (by omega) (by decide) (fun i hi => by
      obtain ⟨x, x1, x2⟩ := gN_lt hi
      rw [x2]; exact (cpx i x x1).2.1) (fun i hi => by
      obtain ⟨x, x1, x2⟩ := gN_lt hi
      rw [x2]; exact (cpx i x x1).2.2.1)
    have hr : pPart B n q b = if nnE B n b1 (gN (bP q)) (bP q).length ≠ 0 then .inl (nnE B n b1 (gN (bP q)) (bP q).length, b1)
      else if tnE B n (nxT B n b1) 1 99 ≠ 0 then .inl (tnE B n (nxT B n b1) 1 99, nxT B n b1)
      else pSg B n 59 (nxT B n (nxT B n b1)) (bP q ++ [((nc B b1 (tl B n b1) : Int), (dv B (nxT B n b1) (tl B n (nxT B n b1)) : Int))], q.2) := by
      unfold pPart; rw [if_neg h8, hb1]
    simp (disch := omega) only [wcQ, wcX, wcG, wcL, wcS, w140_19, w140_20, w140_21, w140_24, w140_25, w140_28, toI, toJ, toI64, inb_T, inb_iZ, Int.toNat_natCast, cl_0, cl_1, cl_2, cl_3, cl_4, cl_5, cl_6, cl_7, cl_8, cl_9, cl_10, cl_11, cl_12, cl_13, cl_14, cl_15, cl_16, cl_17, cl_18, cl_19, cl_20, cl_21, cl_22, cl_23, cl_24, cl_25, cl_26, cl_27, cl_28, cl_29, cl_30, cl_31, cl_32, cl_36, cl_40, cl_48, cl_60, cl_108, cl_120, cl_200, cl_201, cl_576, cl_600, cl_864, cl_900, cl_960, cl_5400, cl_8040, j2_0, iN_iZ, iN_lit0, iZ_add, iZ_sub, iZ_mul, iZ_neg, jZ_add, jZ_sub, jZ_mul, jZ_neg, isB0, isB1, isBZ, eq0, eq1, bZ0, vI_, vJ_, vA_, rI_, rJ_, rA_, rV_, nX_, tX_, true_and, and_true, false_and, and_false, and_self, implies_true, forall_const, not_true_eq_false, not_false_eq_true, false_implies, true_implies, ↓reduceIte, Nat.reduceEqDiff, Int.reduceToNat, Int.reduceAdd, Int.reduceSub, Int.reduceLT, Int.reduceLE, Int.reduceEq, Int.add_zero, Int.neg_zero, Int.add_sub_cancel, Int.reduceNeg, Nat.reduceLeDiff, Nat.reduceSub, true_or, or_true, false_or, or_false, setI_d, setJ_d, setP_d, mI_row, mJ_row, mP_row, mI_row_ne, mJ_row_ne, mP_row_ne, rowI_rowI, rowJ_rowJ, rowI_sort, rowJ_sort, rowJ_rowI, rowP_rowI, rowP_rowJ, fu_app, fu_fu, mI_rowJ, mI_rowP, mJ_rowI, mJ_rowP, mP_rowI, mP_rowJ, mK_rowI, mN_rowI, mK_rowJ, mN_rowJ, mK_rowP, mN_rowP, oB_rowI, oB_rowJ, iA_rowI, iA_rowJ, iR_rowI, iR_rowJ, St_rowI, St_rowJ, bk_o B1, bk_p12 B1, O91 S1, cp0]
    refine kI e2 (Nat.le_refl _) (fun v Mx hq => ?_) (fun e M' h => False.elim h)
    rcases hq with ⟨e, he, rfl, rfl⟩ | ⟨he, rfl, hMx⟩
    · rw [he, if_pos (by omega)] at hr
      simp (disch := omega) only [wcQ, wcX, wcG, wcL, wcS, w140_31, w140_34, w140_35, toI, toJ, toI64, inb_T, inb_iZ, Int.toNat_natCast, cl_0, cl_1, cl_2, cl_3, cl_4, cl_5, cl_6, cl_7, cl_8, cl_9, cl_10, cl_11, cl_12, cl_13, cl_14, cl_15, cl_16, cl_17, cl_18, cl_19, cl_20, cl_21, cl_22, cl_23, cl_24, cl_25, cl_26, cl_27, cl_28, cl_29, cl_30, cl_31, cl_32, cl_36, cl_40, cl_48, cl_60, cl_108, cl_120, cl_200, cl_201, cl_576, cl_600, cl_864, cl_900, cl_960, cl_5400, cl_8040, j2_0, iN_iZ, iN_lit0, iZ_add, iZ_sub, iZ_mul, iZ_neg, jZ_add, jZ_sub, jZ_mul, jZ_neg, isB0, isB1, isBZ, eq0, eq1, bZ0, vI_, vJ_, vA_, rI_, rJ_, rA_, rV_, nX_, tX_, true_and, and_true, false_and, and_false, and_self, implies_true, forall_const, not_true_eq_false, not_false_eq_true, false_implies, true_implies, ↓reduceIte, Nat.reduceEqDiff, Int.reduceToNat, Int.reduceAdd, Int.reduceSub, Int.reduceLT, Int.reduceLE, Int.reduceEq, Int.add_zero, Int.neg_zero, Int.add_sub_cancel, Int.reduceNeg, Nat.reduceLeDiff, Nat.reduceSub, true_or, or_true, false_or, or_false, setI_d, setJ_d, setP_d, mI_row, mJ_row, mP_row, mI_row_ne, mJ_row_ne, mP_row_ne, rowI_rowI, rowJ_rowJ, rowI_sort, rowJ_sort, rowJ_rowI, rowP_rowI, rowP_rowJ, fu_app, fu_fu, mI_rowJ, mI_rowP, mJ_rowI, mJ_rowP, mP_rowI, mP_rowJ, mK_rowI, mN_rowI, mK_rowJ, mN_rowJ, mK_rowP, mN_rowP, oB_rowI, oB_rowJ, iA_rowI, iA_rowJ, iR_rowI, iR_rowJ, St_rowI, St_rowJ]
      rw [QB_i hr]
      exact ⟨Fm_tr F1 Fm_rf, rfl, rf_2, rf_3⟩
    · have hMx := hMx.symm
      subst hMx
      rw [he, if_neg (by omega)] at hr
      obtain ⟨nm1, nm2, nm3⟩ := nn_0 he
      have b1b := tk_lt (B := B) (n := n) (b := b1) (by have := nm1.1; omega)
      have e3 := c133 (G := G) (d := d + 6) hst S1 T1 nm1.1 nm2
      have nmb := nc_12 (B := B) (n := n) (b := b1) nm1.1 nm2
      simp (disch := omega) only [wcQ, wcX, wcG, wcL, wcS, w140_31, w140_36, w140_37, w140_40, w140_41, w140_44, w140_45, toI, toJ, toI64, inb_T, inb_iZ, Int.toNat_natCast, cl_0, cl_1, cl_2, cl_3, cl_4, cl_5, cl_6, cl_7, cl_8, cl_9, cl_10, cl_11, cl_12, cl_13, cl_14, cl_15, cl_16, cl_17, cl_18, cl_19, cl_20, cl_21, cl_22, cl_23, cl_24, cl_25, cl_26, cl_27, cl_28, cl_29, cl_30, cl_31, cl_32, cl_36, cl_40, cl_48, cl_60, cl_108, cl_120, cl_200, cl_201, cl_576, cl_600, cl_864, cl_900, cl_960, cl_5400, cl_8040, j2_0, iN_iZ, iN_lit0, iZ_add, iZ_sub, iZ_mul, iZ_neg, jZ_add, jZ_sub, jZ_mul, jZ_neg, isB0, isB1, isBZ, eq0, eq1, bZ0, vI_, vJ_, vA_, rI_, rJ_, rA_, rV_, nX_, tX_, true_and, and_true, false_and, and_false, and_self, implies_true, forall_const, not_true_eq_false, not_false_eq_true, false_implies, true_implies, ↓reduceIte, Nat.reduceEqDiff, Int.reduceToNat, Int.reduceAdd, Int.reduceSub, Int.reduceLT, Int.reduceLE, Int.reduceEq, Int.add_zero, Int.neg_zero, Int.add_sub_cancel, Int.reduceNeg, Nat.reduceLeDiff, Nat.reduceSub, true_or, or_true, false_or, or_false, setI_d, setJ_d, setP_d, mI_row, mJ_row, mP_row, mI_row_ne, mJ_row_ne, mP_row_ne, rowI_rowI, rowJ_rowJ, rowI_sort, rowJ_sort, rowJ_rowI, rowP_rowI, rowP_rowJ, fu_app, fu_fu, mI_rowJ, mI_rowP, mJ_rowI, mJ_rowP, mP_rowI, mP_rowJ, mK_rowI, mN_rowI, mK_rowJ, mN_rowJ, mK_rowP, mN_rowP, oB_rowI, oB_rowJ, iA_rowI, iA_rowJ, iR_rowI, iR_rowJ, St_rowI, St_rowJ, bk_o B1, bk_p12 B1, O91 S1, cp0]
      refine kJ0 e3 ?_
      simp (disch := omega) only [wcQ, wcX, wcG, wcL, wcS, w140_48, w140_49, w140_50, toI, toJ, toI64, inb_T, inb_iZ, Int.toNat_natCast, cl_0, cl_1, cl_2, cl_3, cl_4, cl_5, cl_6, cl_7, cl_8, cl_9, cl_10, cl_11, cl_12, cl_13, cl_14, cl_15, cl_16, cl_17, cl_18, cl_19, cl_20, cl_21, cl_22, cl_23, cl_24, cl_25, cl_26, cl_27, cl_28, cl_29, cl_30, cl_31, cl_32, cl_36, cl_40, cl_48, cl_60, cl_108, cl_120, cl_200, cl_201, cl_576, cl_600, cl_864, cl_900, cl_960, cl_5400, cl_8040, j2_0, iN_iZ, iN_lit0, iZ_add, iZ_sub, iZ_mul, iZ_neg, jZ_add, jZ_sub, jZ_mul, jZ_neg, isB0, isB1, isBZ, eq0, eq1, bZ0, vI_, vJ_, vA_, rI_, rJ_, rA_, rV_, nX_, tX_, true_and, and_true, false_and, and_false, and_self, implies_true, forall_const, not_true_eq_false, not_false_eq_true, false_implies, true_implies, ↓reduceIte, Nat.reduceEqDiff, Int.reduceToNat, Int.reduceAdd, Int.reduceSub, Int.reduceLT, Int.reduceLE, Int.reduceEq, Int.add_zero, Int.neg_zero, Int.add_sub_cancel, Int.reduceNeg, Nat.reduceLeDiff, Nat.reduceSub, true_or, or_true, false_or, or_false, setI_d, setJ_d, setP_d, mI_row, mJ_row, mP_row, mI_row_ne, mJ_row_ne, mP_row_ne, rowI_rowI, rowJ_rowJ, rowI_sort, rowJ_sort, rowJ_rowI, rowP_rowI, rowP_rowJ, fu_app, fu_fu, mI_rowJ, mI_rowP, mJ_rowI, mJ_rowP, mP_rowI, mP_rowJ, mK_rowI, mN_rowI, mK_rowJ, mN_rowJ, mK_rowP, mN_rowP, oB_rowI, oB_rowJ, iA_rowI, iA_rowJ, iR_rowI, iR_rowJ, St_rowI, St_rowJ, bk_o B1, bk_p12 B1, O91 S1, cp0, bk_i5 B1, O91 S1]
      have hM2 : Fm M1 (rowJ M1 (k + 5) (fu (mJ M1 (k + 5)) (bP q).length (jZ (nc B b1 (tl B n b1))))) k := Fm_J (by omega) (by omega)
      have T2 : TC (rowJ M1 (k + 5) (fu (mJ M1 (k + 5)) (bP q).length (jZ (nc B b1 (tl B n b1))))) B n b1 := T1
      have S2 := Fm_Static hM2 S1
      have e4 := c124t (G := G) (d := d + 6) hst S2 T2
      refine kV e4 (Nat.le_refl _) (fun M' hq => ?_) (fun e M' h => False.elim h)
      have T3 : TC M' B n (nxT B n b1) := by rw [hq]; exact TC_st T2.1 (b2.2.1 b1n)
      have F3 : Fm M1 M' k := by rw [hq]; exact Fm_tr hM2 Fm_st
      have J5 : mJ M' (k + 5) = fu (mJ M1 (k + 5)) (bP q).length (jZ (nc B b1 (tl B n b1))) := by rw [hq]; unfold stM; rw [mJ_rowI, mJ_row]
      have J6 : mJ M' (k + 6) = mJ M1 (k + 6) := by rw [hq]; unfold stM; rw [mJ_rowI, mJ_row_ne (by omega)]
      have I3 : ∀ c, c ≠ 91 → mI M' c = mI M1 c := fun c hc => by rw [hq]; unfold stM; rw [mI_row_ne hc]; rfl
      have S3 := Fm_Static F3 S1
      have B3 := Fm_BK F3 B1
      generalize hb2 : nxT B n b1 = c2 at *
      have c2n : c2 ≤ n := by omega
      have e5 := c137 (G := G) (d := d + 5) (lo := 1) (hi := 99) hst S3 (by decide) (by decide) T3
      have nb3 := nxT_b (B := B) (n := n) (b := c2)
      have cp3 : mI M' k 0 = iZ (bP q).length := by rw [I3 k (by omega)]; exact cp0
      simp (disch := omega) only [wcQ, wcX, wcG, wcL, wcS, w140_53, w140_54, w140_55, w140_57, toI, toJ, toI64, inb_T, inb_iZ, Int.toNat_natCast, cl_0, cl_1, cl_2, cl_3, cl_4, cl_5, cl_6, cl_7, cl_8, cl_9, cl_10, cl_11, cl_12, cl_13, cl_14, cl_15, cl_16, cl_17, cl_18, cl_19, cl_20, cl_21, cl_22, cl_23, cl_24, cl_25, cl_26, cl_27, cl_28, cl_29, cl_30, cl_31, cl_32, cl_36, cl_40, cl_48, cl_60, cl_108, cl_120, cl_200, cl_201, cl_576, cl_600, cl_864, cl_900, cl_960, cl_5400, cl_8040, j2_0, iN_iZ, iN_lit0, iZ_add, iZ_sub, iZ_mul, iZ_neg, jZ_add, jZ_sub, jZ_mul, jZ_neg, isB0, isB1, isBZ, eq0, eq1, bZ0, vI_, vJ_, vA_, rI_, rJ_, rA_, rV_, nX_, tX_, true_and, and_true, false_and, and_false, and_self, implies_true, forall_const, not_true_eq_false, not_false_eq_true, false_implies, true_implies, ↓reduceIte, Nat.reduceEqDiff, Int.reduceToNat, Int.reduceAdd, Int.reduceSub, Int.reduceLT, Int.reduceLE, Int.reduceEq, Int.add_zero, Int.neg_zero, Int.add_sub_cancel, Int.reduceNeg, Nat.reduceLeDiff, Nat.reduceSub, true_or, or_true, false_or, or_false, setI_d, setJ_d, setP_d, mI_row, mJ_row, mP_row, mI_row_ne, mJ_row_ne, mP_row_ne, rowI_rowI, rowJ_rowJ, rowI_sort, rowJ_sort, rowJ_rowI, rowP_rowI, rowP_rowJ, fu_app, fu_fu, mI_rowJ, mI_rowP, mJ_rowI, mJ_rowP, mP_rowI, mP_rowJ, mK_rowI, mN_rowI, mK_rowJ, mN_rowJ, mK_rowP, mN_rowP, oB_rowI, oB_rowJ, iA_rowI, iA_rowJ, iR_rowI, iR_rowJ, St_rowI, St_rowJ, O91 S3]
      refine kI e5 (Nat.le_refl _) (fun v M'' hq => ?_) (fun e M' h => False.elim h)
      rcases hq with ⟨e, he, rfl, rfl⟩ | ⟨he, rfl, rfl⟩
      · rw [he, if_pos (by omega)] at hr
        have B4 : BK (rfM M' (e + 1) c2) k n := Fm_BK Fm_rf B3
        have cp4 : mI (rfM M' (e + 1) c2) k 0 = iZ (bP q).length := by unfold rfM; rw [mI_row_ne (by omega)]; exact cp3
        simp (disch := omega) only [wcQ, wcX, wcG, wcL, wcS, w140_60, w140_61, w140_62, w140_65, w140_66, w140_69, w140_70, w140_71, w140_72, w140_73, w140_76, w140_77, w140_78, w140_81, w140_82, w140_83, w140_86, w140_87, w140_89, w140_92, w140_95, w140_96, w140_99, w140_100, toI, toJ, toI64, inb_T, inb_iZ, Int.toNat_natCast, cl_0, cl_1, cl_2, cl_3, cl_4, cl_5, cl_6, cl_7, cl_8, cl_9, cl_10, cl_11, cl_12, cl_13, cl_14, cl_15, cl_16, cl_17, cl_18, cl_19, cl_20, cl_21, cl_22, cl_23, cl_24, cl_25, cl_26, cl_27, cl_28, cl_29, cl_30, cl_31, cl_32, cl_36, cl_40, cl_48, cl_60, cl_108, cl_120, cl_200, cl_201, cl_576, cl_600, cl_864, cl_900, cl_960, cl_5400, cl_8040, j2_0, iN_iZ, iN_lit0, iZ_add, iZ_sub, iZ_mul, iZ_neg, jZ_add, jZ_sub, jZ_mul, jZ_neg, isB0, isB1, isBZ, eq0, eq1, bZ0, vI_, vJ_, vA_, rI_, rJ_, rA_, rV_, nX_, tX_, true_and, and_true, false_and, and_false, and_self, implies_true, forall_const, not_true_eq_false, not_false_eq_true, false_implies, true_implies, ↓reduceIte, Nat.reduceEqDiff, Int.reduceToNat, Int.reduceAdd, Int.reduceSub, Int.reduceLT, Int.reduceLE, Int.reduceEq, Int.add_zero, Int.neg_zero, Int.add_sub_cancel, Int.reduceNeg, Nat.reduceLeDiff, Nat.reduceSub, true_or, or_true, false_or, or_false, setI_d, setJ_d, setP_d, mI_row, mJ_row, mP_row, mI_row_ne, mJ_row_ne, mP_row_ne, rowI_rowI, rowJ_rowJ, rowI_sort, rowJ_sort, rowJ_rowI, rowP_rowI, rowP_rowJ, fu_app, fu_fu, mI_rowJ, mI_rowP, mJ_rowI, mJ_rowP, mP_rowI, mP_rowJ, mK_rowI, mN_rowI, mK_rowJ, mN_rowJ, mK_rowP, mN_rowP, oB_rowI, oB_rowJ, iA_rowI, iA_rowJ, iR_rowI, iR_rowJ, St_rowI, St_rowJ, bk_o B4, bk_p1 B4, cp4, bk_i1 B4]
        rw [QB_i hr]
        refine ⟨Fm_tr F1 (Fm_tr F3 (Fm_tr Fm_rf (Fm_tr (Fm_I (by omega) (by omega) k1) (Fm_I (by omega) (by omega) k1)))), rfl, ?_, ?_⟩
        · rw [mI_row_ne (by omega), mI_row_ne (by omega)]; exact rf_2
        · rw [mI_row_ne (by omega), mI_row_ne (by omega)]; exact rf_3
      · rw [he, if_neg (by omega)] at hr
        obtain ⟨t1, t2, t3⟩ := tn_0 he
        have c2b := tk_lt (B := B) (n := n) (b := c2) (by omega)
        have B4 : BK (stM M' B n (nxT B n c2)) k n := Fm_BK Fm_st B3
        have cp4 : mI (stM M' B n (nxT B n c2)) k 0 = iZ (bP q).length := by unfold stM; rw [mI_row_ne (by omega)]; exact cp3
        have hne : ¬ ((dv B c2 (tl B n c2) : Nat) : Int) = -1 := by omega
        simp (disch := omega) only [wcQ, wcX, wcG, wcL, wcS, w140_60, w140_61, w140_62, w140_65, w140_66, w140_69, w140_70, w140_71, w140_72, w140_73, w140_76, w140_77, w140_78, w140_81, w140_82, w140_83, w140_86, w140_87, w140_89, toI, toJ, toI64, inb_T, inb_iZ, Int.toNat_natCast, cl_0, cl_1, cl_2, cl_3, cl_4, cl_5, cl_6, cl_7, cl_8, cl_9, cl_10, cl_11, cl_12, cl_13, cl_14, cl_15, cl_16, cl_17, cl_18, cl_19, cl_20, cl_21, cl_22, cl_23, cl_24, cl_25, cl_26, cl_27, cl_28, cl_29, cl_30, cl_31, cl_32, cl_36, cl_40, cl_48, cl_60, cl_108, cl_120, cl_200, cl_201, cl_576, cl_600, cl_864, cl_900, cl_960, cl_5400, cl_8040, j2_0, iN_iZ, iN_lit0, iZ_add, iZ_sub, iZ_mul, iZ_neg, jZ_add, jZ_sub, jZ_mul, jZ_neg, isB0, isB1, isBZ, eq0, eq1, bZ0, vI_, vJ_, vA_, rI_, rJ_, rA_, rV_, nX_, tX_, true_and, and_true, false_and, and_false, and_self, implies_true, forall_const, not_true_eq_false, not_false_eq_true, false_implies, true_implies, ↓reduceIte, Nat.reduceEqDiff, Int.reduceToNat, Int.reduceAdd, Int.reduceSub, Int.reduceLT, Int.reduceLE, Int.reduceEq, Int.add_zero, Int.neg_zero, Int.add_sub_cancel, Int.reduceNeg, Nat.reduceLeDiff, Nat.reduceSub, true_or, or_true, false_or, or_false, setI_d, setJ_d, setP_d, mI_row, mJ_row, mP_row, mI_row_ne, mJ_row_ne, mP_row_ne, rowI_rowI, rowJ_rowJ, rowI_sort, rowJ_sort, rowJ_rowI, rowP_rowI, rowP_rowJ, fu_app, fu_fu, mI_rowJ, mI_rowP, mJ_rowI, mJ_rowP, mP_rowI, mP_rowJ, mK_rowI, mN_rowI, mK_rowJ, mN_rowJ, mK_rowP, mN_rowP, oB_rowI, oB_rowJ, iA_rowI, iA_rowJ, iR_rowI, iR_rowJ, St_rowI, St_rowJ, bk_o B4, bk_p1 B4, cp4, bk_i1 B4, hne, O91 (Fm_Static (k := k) (Fm_st (B := B) (n := n) (c := nxT B n c2)) S3)]
        have IS : ∀ c, c ≠ 91 → mI (stM M' B n (nxT B n c2)) c = mI M' c := fun c hc => by unfold stM; rw [mI_row_ne hc]
        have T4 : TC (stM M' B n (nxT B n c2)) B n (nxT B n c2) := TC_st T3.1 (nb3.2.1 c2n)
        have F4 : Fm M (stM M' B n (nxT B n c2)) k := Fm_tr F1 (Fm_tr F3 Fm_st)
        have hJS : mJ (stM M' B n (nxT B n c2)) = mJ M' := rfl
        generalize hM4 : stM M' B n (nxT B n c2) = M4 at *
        generalize hb4 : nxT B n c2 = c4 at *
        have c4n : c4 ≤ n := by omega
        have nb4 := nxT_b (B := B) (n := n) (b := c4)
        have F5 : Fm M4 (rowI (rowI M4 k (fu (mI M4 k) 0 (iZ (((bP q).length : Int) + 1)))) (k + 1) (fu (mI M4 (k + 1)) (bP q).length (iZ (dv B c2 (tl B n c2))))) k := Fm_tr (Fm_I (by omega) (by omega) k1) (Fm_I (by omega) (by omega) k1)
        have T5 : TC (rowI (rowI M4 k (fu (mI M4 k) 0 (iZ (((bP q).length : Int) + 1)))) (k + 1) (fu (mI M4 (k + 1)) (bP q).length (iZ (dv B c2 (tl B n c2))))) B n c4 := TC_row (by omega) (by omega) (by omega) (TC_row (by omega) (by omega) (by omega) T4)
        have C5 : BC (rowI (rowI M4 k (fu (mI M4 k) 0 (iZ (((bP q).length : Int) + 1)))) (k + 1) (fu (mI M4 (k + 1)) (bP q).length (iZ (dv B c2 (tl B n c2))))) k s (bP q ++ [((nc B b1 (tl B n b1) : Int), (dv B c2 (tl B n c2) : Int))], q.2) := by
          refine BC_addP C1 (by omega) ?_ ?_ ?_ (fun c h1 h2 => ?_) ?_ (by omega) (by omega) (by omega) (by omega)
          · rw [mI_row_ne (by omega), mI_row, IS k (by omega), I3 k (by omega)]; rfl
          · rw [mI_row, IS (k + 1) (by omega), I3 (k + 1) (by omega)]
          · rw [mJ_rowI, mJ_rowI, hJS, J5]
          · rw [mI_row_ne (by omega), mI_row_ne (by omega), IS (k + c) (by omega), I3 (k + c) (by omega)]
          · rw [mJ_rowI, mJ_rowI, hJS, J6]
        have F6 := Fm_tr F4 F5
        have S6 := Fm_Static F6 hS
        have e6 := c139 (G := G) (d := d + 5) (c := 59) hst S6 (by decide) T5
        refine kI e6 (Nat.le_refl _) (fun v Mx hq => ?_) (fun e M' h => False.elim h)
        rcases hq with ⟨hs5, rfl, rfl⟩ | ⟨hs5, rfl, rfl⟩
        · simp (disch := omega) only [wcQ, wcX, wcG, wcL, wcS, w140_92, w140_95, w140_96, w140_99, w140_100, toI, toJ, toI64, inb_T, inb_iZ, Int.toNat_natCast, cl_0, cl_1, cl_2, cl_3, cl_4, cl_5, cl_6, cl_7, cl_8, cl_9, cl_10, cl_11, cl_12, cl_13, cl_14, cl_15, cl_16, cl_17, cl_18, cl_19, cl_20, cl_21, cl_22, cl_23, cl_24, cl_25, cl_26, cl_27, cl_28, cl_29, cl_30, cl_31, cl_32, cl_36, cl_40, cl_48, cl_60, cl_108, cl_120, cl_200, cl_201, cl_576, cl_600, cl_864, cl_900, cl_960, cl_5400, cl_8040, j2_0, iN_iZ, iN_lit0, iZ_add, iZ_sub, iZ_mul, iZ_neg, jZ_add, jZ_sub, jZ_mul, jZ_neg, isB0, isB1, isBZ, eq0, eq1, bZ0, vI_, vJ_, vA_, rI_, rJ_, rA_, rV_, nX_, tX_, true_and, and_true, false_and, and_false, and_self, implies_true, forall_const, not_true_eq_false, not_false_eq_true, false_implies, true_implies, ↓reduceIte, Nat.reduceEqDiff, Int.reduceToNat, Int.reduceAdd, Int.reduceSub, Int.reduceLT, Int.reduceLE, Int.reduceEq, Int.add_zero, Int.neg_zero, Int.add_sub_cancel, Int.reduceNeg, Nat.reduceLeDiff, Nat.reduceSub, true_or, or_true, false_or, or_false, setI_d, setJ_d, setP_d, mI_row, mJ_row, mP_row, mI_row_ne, mJ_row_ne, mP_row_ne, rowI_rowI, rowJ_rowJ, rowI_sort, rowJ_sort, rowJ_rowI, rowP_rowI, rowP_rowJ, fu_app, fu_fu, mI_rowJ, mI_rowP, mJ_rowI, mJ_rowP, mP_rowI, mP_rowJ, mK_rowI, mN_rowI, mK_rowJ, mN_rowJ, mK_rowP, mN_rowP, oB_rowI, oB_rowJ, iA_rowI, iA_rowJ, iR_rowI, iR_rowJ, St_rowI, St_rowJ]
          have hr2 : pPart B n q b = .inr (nxT B n c4, (bP q ++ [((nc B b1 (tl B n b1) : Int), (dv B c2 (tl B n c2) : Int))], q.2)) := by rw [hr]; unfold pSg; rw [if_pos hs5]
          rw [QB_r hr2]
          exact ⟨Fm_tr F6 Fm_st, rfl, TC_st T5.1 (nb4.2.1 c4n), s, by omega, BC_91 k1 C5⟩
        · simp (disch := omega) only [wcQ, wcX, wcG, wcL, wcS, w140_92, w140_95, w140_96, w140_99, w140_100, toI, toJ, toI64, inb_T, inb_iZ, Int.toNat_natCast, cl_0, cl_1, cl_2, cl_3, cl_4, cl_5, cl_6, cl_7, cl_8, cl_9, cl_10, cl_11, cl_12, cl_13, cl_14, cl_15, cl_16, cl_17, cl_18, cl_19, cl_20, cl_21, cl_22, cl_23, cl_24, cl_25, cl_26, cl_27, cl_28, cl_29, cl_30, cl_31, cl_32, cl_36, cl_40, cl_48, cl_60, cl_108, cl_120, cl_200, cl_201, cl_576, cl_600, cl_864, cl_900, cl_960, cl_5400, cl_8040, j2_0, iN_iZ, iN_lit0, iZ_add, iZ_sub, iZ_mul, iZ_neg, jZ_add, jZ_sub, jZ_mul, jZ_neg, isB0, isB1, isBZ, eq0, eq1, bZ0, vI_, vJ_, vA_, rI_, rJ_, rA_, rV_, nX_, tX_, true_and, and_true, false_and, and_false, and_self, implies_true, forall_const, not_true_eq_false, not_false_eq_true, false_implies, true_implies, ↓reduceIte, Nat.reduceEqDiff, Int.reduceToNat, Int.reduceAdd, Int.reduceSub, Int.reduceLT, Int.reduceLE, Int.reduceEq, Int.add_zero, Int.neg_zero, Int.add_sub_cancel, Int.reduceNeg, Nat.reduceLeDiff, Nat.reduceSub, true_or, or_true, false_or, or_false, setI_d, setJ_d, setP_d, mI_row, mJ_row, mP_row, mI_row_ne, mJ_row_ne, mP_row_ne, rowI_rowI, rowJ_rowJ, rowI_sort, rowJ_sort, rowJ_rowI, rowP_rowI, rowP_rowJ, fu_app, fu_fu, mI_rowJ, mI_rowP, mJ_rowI, mJ_rowP, mP_rowI, mP_rowJ, mK_rowI, mN_rowI, mK_rowJ, mN_rowJ, mK_rowP, mN_rowP, oB_rowI, oB_rowJ, iA_rowI, iA_rowJ, iR_rowI, iR_rowJ, St_rowI, St_rowJ]
          have hr2 : pPart B n q b = .inl (1, c4) := by rw [hr]; unfold pSg; rw [if_neg hs5]
          rw [QB_i hr2]
          exact ⟨Fm_tr F6 Fm_rf, rfl, rf_2, rf_3⟩
end

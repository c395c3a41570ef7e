/-! RULES: a clause; the reference's side. -/
section
variable {G : GE} {d : Nat} {M M' M'' : Mem} {B : Nat → Nat} {n b r s : Nat} {q : Bk}
theorem MC_C {C : Nat} {P : List (Int × Int)} {F : List (Int × List Int)} {O : List (List Int)} {T : List Int} {b' l' : Int} {C' : Nat} (h : MC M r s (P, F, O, T, b', l', C)) (h1 : C ≤ C') (h2 : C' ≤ 20) : MC M r s (P, F, O, T, b', l', C') := by
  obtain ⟨a1, b1, ⟨c1, c2, c3, c4⟩, d1, e1, e2⟩ := h
  exact ⟨a1, b1, ⟨c1, Nat.le_trans c2 h1, h2, c4⟩, d1, e1, e2⟩
theorem MC_setB {v : Int} (h : MC M r s q) (hc : ∀ c, 162 ≤ c → c ≤ 176 → c ≠ 174 → mI M' c = mI M c) (h1 : mI M' 174 r = iZ v) : MC M' r s (bP q, bF q, bO q, bT q, v, bL q, bC q) := by
  obtain ⟨P, F, O, T, b', l', C⟩ := q
  obtain ⟨a1, b1, c1, d1, e1, e2⟩ := h
  have hN : ∀ w x, NM M w x → NM M' w x := fun w x h => NM_fr h (by rw [hc 162 (by decide) (by decide) (by decide)]) (fun j _ => by rw [hc 163 (by decide) (by decide) (by decide)])
  refine ⟨?_, ?_, ?_, ?_, h1, ?_⟩
  · rw [hc 164 (by decide) (by decide) (by decide), hc 165 (by decide) (by decide) (by decide)]
    exact ⟨a1.1, a1.2.1, fun i x hx => ⟨(a1.2.2 i x hx).1, hN _ _ (a1.2.2 i x hx).2.1, (a1.2.2 i x hx).2.2⟩⟩
  · unfold ML at *
    rw [hc 166 (by decide) (by decide) (by decide), hc 167 (by decide) (by decide) (by decide), hc 168 (by decide) (by decide) (by decide), hc 176 (by decide) (by decide) (by decide)]
    exact ⟨b1.1, b1.2.1, fun i x hx => ⟨hN _ _ (b1.2.2 i x hx).1, (b1.2.2 i x hx).2⟩⟩
  · unfold ML at *
    rw [hc 169 (by decide) (by decide) (by decide), hc 170 (by decide) (by decide) (by decide), hc 171 (by decide) (by decide) (by decide), hc 176 (by decide) (by decide) (by decide)]
    exact c1
  · rw [hc 172 (by decide) (by decide) (by decide), hc 173 (by decide) (by decide) (by decide)]; exact d1
  · rw [hc 175 (by decide) (by decide) (by decide)]; exact e2
theorem MC_setL {v : Int} (h : MC M r s q) (hc : ∀ c, 162 ≤ c → c ≤ 176 → c ≠ 175 → mI M' c = mI M c) (h1 : mI M' 175 r = iZ v) : MC M' r s (bP q, bF q, bO q, bT q, bB q, v, bC q) := by
  obtain ⟨P, F, O, T, b', l', C⟩ := q
  obtain ⟨a1, b1, c1, d1, e1, e2⟩ := h
  have hN : ∀ w x, NM M w x → NM M' w x := fun w x h => NM_fr h (by rw [hc 162 (by decide) (by decide) (by decide)]) (fun j _ => by rw [hc 163 (by decide) (by decide) (by decide)])
  refine ⟨?_, ?_, ?_, ?_, ?_, h1⟩
  · rw [hc 164 (by decide) (by decide) (by decide), hc 165 (by decide) (by decide) (by decide)]
    exact ⟨a1.1, a1.2.1, fun i x hx => ⟨(a1.2.2 i x hx).1, hN _ _ (a1.2.2 i x hx).2.1, (a1.2.2 i x hx).2.2⟩⟩
  · unfold ML at *
    rw [hc 166 (by decide) (by decide) (by decide), hc 167 (by decide) (by decide) (by decide), hc 168 (by decide) (by decide) (by decide), hc 176 (by decide) (by decide) (by decide)]
    exact ⟨b1.1, b1.2.1, fun i x hx => ⟨hN _ _ (b1.2.2 i x hx).1, (b1.2.2 i x hx).2⟩⟩
  · unfold ML at *
    rw [hc 169 (by decide) (by decide) (by decide), hc 170 (by decide) (by decide) (by decide), hc 171 (by decide) (by decide) (by decide), hc 176 (by decide) (by decide) (by decide)]
    exact c1
  · rw [hc 172 (by decide) (by decide) (by decide), hc 173 (by decide) (by decide) (by decide)]; exact d1
  · rw [hc 174 (by decide) (by decide) (by decide)]; exact e1
/-- ten faults are there already -/
theorem c52f (hst : (gl G).stackTraces = false) (hS : Static M) (hT : TM M B n b) (h166 : mI M 166 r = iZ 10) (hr : r < 6) : Ev G (d + 2) 52 [aR (some 154), aI (iZ r)] M 0 (rV fun M' => GT M M' ∧ XM M' 2 b) nX := by
  have e1 := c32 (G := G) (d := d) (k := 2) hst hS hT (by decide) (by decide)
  refine Ev_wp 2000 hst (by decide) (Nat.le_of_ble_eq_true rfl) ?_; simp (disch := omega) only [en52, wcQ, wcX, wcG, wcL, wcS, w52_0, w52_1, w52_4, w52_5, w52_6, w52_8, w52_11, w52_12, w52_13, toI, toJ, toI64, inb_T, inb_iZ, Int.toNat_natCast, cl_0, cl_1, cl_2, cl_3, cl_4, cl_5, cl_6, cl_7, cl_8, cl_9, cl_10, cl_11, cl_12, cl_13, cl_14, cl_15, cl_16, cl_17, cl_18, cl_19, cl_20, cl_21, cl_22, cl_23, cl_24, cl_25, cl_26, cl_27, cl_28, cl_29, cl_30, cl_31, cl_32, cl_36, cl_40, cl_48, cl_60, cl_108, cl_120, cl_200, cl_201, cl_576, cl_600, cl_864, cl_900, cl_960, cl_5400, cl_8040, j2_0, iN_iZ, iN_lit0, iZ_add, iZ_sub, iZ_mul, iZ_neg, jZ_add, jZ_sub, jZ_mul, jZ_neg, isB0, isB1, isBZ, eq0, eq1, bZ0, vI_, vJ_, vA_, rI_, rJ_, rA_, rV_, nX_, tX_, true_and, and_true, false_and, and_false, and_self, implies_true, forall_const, not_true_eq_false, not_false_eq_true, false_implies, true_implies, ↓reduceIte, Nat.reduceEqDiff, Int.reduceToNat, Int.reduceAdd, Int.reduceSub, Int.reduceLT, Int.reduceLE, Int.reduceEq, Int.add_zero, Int.neg_zero, Int.add_sub_cancel, Int.reduceNeg, Nat.reduceLeDiff, Nat.reduceSub, true_or, or_true, false_or, or_false, setI_d, setJ_d, setP_d, mI_row, mJ_row, mP_row, mI_row_ne, mJ_row_ne, mP_row_ne, rowI_rowI, rowJ_rowJ, rowI_sort, rowJ_sort, rowJ_rowI, rowP_rowI, rowP_rowJ, fu_app, fu_fu, mI_rowJ, mI_rowP, mJ_rowI, mJ_rowP, mP_rowI, mP_rowJ, mK_rowI, mN_rowI, mK_rowJ, mN_rowJ, mK_rowP, mN_rowP, oB_rowI, oB_rowJ, iA_rowI, iA_rowJ, iR_rowI, iR_rowJ, St_rowI, St_rowJ, K154 hS, O154 hS, P154_0 hS, P154_1 hS, P154_7 hS, P154_8 hS, P154_9 hS, P154_10 hS, P154_11 hS, P154_25 hS, P154_26 hS, P154_27 hS, P154_28 hS, P154_29 hS, P154_30 hS, P154_31 hS, P154_32 hS, P154_33 hS, P154_34 hS, P154_35 hS, P154_36 hS, P154_37 hS, P154_38 hS, P154_39 hS, P154_40 hS, P154_41 hS, P154_46 hS, P154_47 hS, P154_48 hS, P154_49 hS, P154_50 hS, P154_51 hS, P154_52 hS, P154_53 hS, P154_54 hS, P154_55 hS, P154_56 hS, P154_57 hS, P154_58 hS, P154_59 hS, P154_60 hS, P154_61 hS, P154_62 hS, P154_63 hS, P154_64 hS, P154_65 hS, P154_68 hS, P154_69 hS, P154_70 hS, P154_71 hS, P154_72 hS, P154_73 hS, P154_74 hS, P154_75 hS, P154_76 hS, P154_77 hS, P154_78 hS, P154_79 hS, P154_80 hS, P154_81 hS, P154_82 hS, P154_83 hS, P154_84 hS, P154_85 hS, P154_86 hS, P154_87 hS, P154_88 hS, P154_89 hS, K166 hS, O166 hS, A166 hS, h166]
  refine kV e1 (Nat.le_refl _) (fun M1 hq => ?_) (fun e M' h => False.elim h)
  obtain ⟨G1, X1⟩ := hq
  have S1 := GT_S G1 hS
  have g20 := X1.1
  have hz : ¬ ((2 : Nat) : Int) = 0 := by decide
  simp (disch := omega) only [wcQ, wcX, wcG, wcL, wcS, w52_16, w52_17, w52_20, w52_23, toI, toJ, toI64, inb_T, inb_iZ, Int.toNat_natCast, cl_0, cl_1, cl_2, cl_3, cl_4, cl_5, cl_6, cl_7, cl_8, cl_9, cl_10, cl_11, cl_12, cl_13, cl_14, cl_15, cl_16, cl_17, cl_18, cl_19, cl_20, cl_21, cl_22, cl_23, cl_24, cl_25, cl_26, cl_27, cl_28, cl_29, cl_30, cl_31, cl_32, cl_36, cl_40, cl_48, cl_60, cl_108, cl_120, cl_200, cl_201, cl_576, cl_600, cl_864, cl_900, cl_960, cl_5400, cl_8040, j2_0, iN_iZ, iN_lit0, iZ_add, iZ_sub, iZ_mul, iZ_neg, jZ_add, jZ_sub, jZ_mul, jZ_neg, isB0, isB1, isBZ, eq0, eq1, bZ0, vI_, vJ_, vA_, rI_, rJ_, rA_, rV_, nX_, tX_, true_and, and_true, false_and, and_false, and_self, implies_true, forall_const, not_true_eq_false, not_false_eq_true, false_implies, true_implies, ↓reduceIte, Nat.reduceEqDiff, Int.reduceToNat, Int.reduceAdd, Int.reduceSub, Int.reduceLT, Int.reduceLE, Int.reduceEq, Int.add_zero, Int.neg_zero, Int.add_sub_cancel, Int.reduceNeg, Nat.reduceLeDiff, Nat.reduceSub, true_or, or_true, false_or, or_false, setI_d, setJ_d, setP_d, mI_row, mJ_row, mP_row, mI_row_ne, mJ_row_ne, mP_row_ne, rowI_rowI, rowJ_rowJ, rowI_sort, rowJ_sort, rowJ_rowI, rowP_rowI, rowP_rowJ, fu_app, fu_fu, mI_rowJ, mI_rowP, mJ_rowI, mJ_rowP, mP_rowI, mP_rowJ, mK_rowI, mN_rowI, mK_rowJ, mN_rowJ, mK_rowP, mN_rowP, oB_rowI, oB_rowJ, iA_rowI, iA_rowJ, iR_rowI, iR_rowJ, St_rowI, St_rowJ, K154 S1, O154 S1, g20, hz]
  exact ⟨G1, X1⟩
theorem pFl_i {g : List Int → Bk} {F : List (Int × List Int)} {e p : Nat} (h : pFl B n b F = .inl (e, p)) : (if nnE B n b (gN F) F.length ≠ 0 then .inl (nnE B n b (gN F) F.length, b) else if ¬ twd B n (nxT B n b) 14 then .inl (1, nxT B n b) else pExS B n (nxT B n (nxT B n b)) g : BR) = .inl (e, p) := by
  unfold pFl at h
  by_cases h1 : nnE B n b (gN F) F.length ≠ 0
  · rw [if_pos h1] at *; cases h; rfl
  · rw [if_neg h1] at *
    by_cases h2 : ¬ twd B n (nxT B n b) 14
    · rw [if_pos h2] at *; cases h; rfl
    · rw [if_neg h2] at *
      unfold pExS
      rw [h]
theorem pFl_r {g : List Int → Bk} {F : List (Int × List Int)} {c : Nat} {l : List Int} (h : pFl B n b F = .inr (c, l)) : (if nnE B n b (gN F) F.length ≠ 0 then .inl (nnE B n b (gN F) F.length, b) else if ¬ twd B n (nxT B n b) 14 then .inl (1, nxT B n b) else pExS B n (nxT B n (nxT B n b)) g : BR) = pSg B n 59 c (g l) ∧ pEx B n 6 (nxT B n (nxT B n b)) = .inr (c, l) := by
  unfold pFl at h
  by_cases h1 : nnE B n b (gN F) F.length ≠ 0
  · rw [if_pos h1] at h; cases h
  · rw [if_neg h1] at *
    by_cases h2 : ¬ twd B n (nxT B n b) 14
    · rw [if_pos h2] at h; cases h
    · rw [if_neg h2] at *
      unfold pExS
      rw [h]
      exact ⟨rfl, rfl⟩
theorem pTie_b {P : List (Int × Int)} {T T' : List Int} {c : Nat} (h : pTie B n P T b = .inr (c, T')) : c = nxT B n b := by
  obtain ⟨key, h⟩ : ∃ key : Int, (if ¬ twd B n b 19 ∧ ¬ nmP B n b then .inl (1, b) else if 8 ≤ T.length ∨ 8 < tl B n b then .inl (2, b) else if key = -1 then .inl (3, b) else if key ∈ T then .inl (4, b) else .inr (nxT B n b, T ++ [key]) : TR) = .inr (c, T') := ⟨_, h⟩
  split at h
  · cases h
  · split at h
    · cases h
    · split at h
      · cases h
      · split at h
        · cases h
        · cases h; rfl
theorem pTieR_b {P : List (Int × Int)} : ∀ (f b : Nat) (T : List Int) (c : Nat) (T' : List Int), b ≤ n → pTieR B n P f b T = .inr (c, T') → b ≤ c ∧ c ≤ n
  | 0, b, T, c, T', hb, h => by unfold pTieR at h; cases h; exact ⟨Nat.le_refl _, hb⟩
  | f + 1, b, T, c, T', hb, h => by
    have nb := nxT_b (B := B) (n := n) (b := b)
    have nb2 := nxT_b (B := B) (n := n) (b := nxT B n b)
    unfold pTieR at h
    split at h
    · split at h
      · cases h
      · rename_i c1 T1 hx
        have := pTie_b hx
        have := pTieR_b f c1 T1 c T' (by omega) h
        omega
    · cases h; exact ⟨Nat.le_refl _, hb⟩
theorem pTies_b {P : List (Int × Int)} {c : Nat} {T' : List Int} (hb : b ≤ n) (h : pTies B n P b = .inr (c, T')) : b ≤ c ∧ c ≤ n := by
  have nb := nxT_b (B := B) (n := n) (b := b)
  unfold pTies at h
  split at h
  · cases h
  · rename_i c1 T1 hx
    have := pTie_b hx
    have := pTieR_b 8 c1 T1 c T' (by omega) h
    omega
theorem c54x (hst : (gl G).stackTraces = false) (hS : Static M) {R : BR} : ∀ (m e p : Nat) (M1 : Mem), R = .inl (e, p) → Hm M M1 r → XM M1 e p → wp (WCo G (d + 47) 54 (rV fun M' => QM M B n r R M') nX) 54 (m + 100) 157 [aR (some 154), aI (iZ r)] [] M1 0 := by
  intro m e p M1 hp hH hX
  have S1 := Hm_S hH hS
  simp (disch := omega) only [wcQ, wcX, wcG, wcL, wcS, w54_157, w54_158, w54_160, toI, toJ, toI64, inb_T, inb_iZ, Int.toNat_natCast, cl_0, cl_1, cl_2, cl_3, cl_4, cl_5, cl_6, cl_7, cl_8, cl_9, cl_10, cl_11, cl_12, cl_13, cl_14, cl_15, cl_16, cl_17, cl_18, cl_19, cl_20, cl_21, cl_22, cl_23, cl_24, cl_25, cl_26, cl_27, cl_28, cl_29, cl_30, cl_31, cl_32, cl_36, cl_40, cl_48, cl_60, cl_108, cl_120, cl_200, cl_201, cl_576, cl_600, cl_864, cl_900, cl_960, cl_5400, cl_8040, j2_0, iN_iZ, iN_lit0, iZ_add, iZ_sub, iZ_mul, iZ_neg, jZ_add, jZ_sub, jZ_mul, jZ_neg, isB0, isB1, isBZ, eq0, eq1, bZ0, vI_, vJ_, vA_, rI_, rJ_, rA_, rV_, nX_, tX_, true_and, and_true, false_and, and_false, and_self, implies_true, forall_const, not_true_eq_false, not_false_eq_true, false_implies, true_implies, ↓reduceIte, Nat.reduceEqDiff, Int.reduceToNat, Int.reduceAdd, Int.reduceSub, Int.reduceLT, Int.reduceLE, Int.reduceEq, Int.add_zero, Int.neg_zero, Int.add_sub_cancel, Int.reduceNeg, Nat.reduceLeDiff, Nat.reduceSub, true_or, or_true, false_or, or_false, setI_d, setJ_d, setP_d, mI_row, mJ_row, mP_row, mI_row_ne, mJ_row_ne, mP_row_ne, rowI_rowI, rowJ_rowJ, rowI_sort, rowJ_sort, rowJ_rowI, rowP_rowI, rowP_rowJ, fu_app, fu_fu, mI_rowJ, mI_rowP, mJ_rowI, mJ_rowP, mP_rowI, mP_rowJ, mK_rowI, mN_rowI, mK_rowJ, mN_rowJ, mK_rowP, mN_rowP, oB_rowI, oB_rowJ, iA_rowI, iA_rowJ, iR_rowI, iR_rowJ, St_rowI, St_rowJ, O154 S1]
  refine kV (c39x (G := G) (d := d + 44) hst S1 hX (w := iZ 59)) (Nat.le_refl _) (fun M3 hq => ?_) (fun e M' h => False.elim h)
  have hq := hq.symm
  subst hq
  simp (disch := omega) only [wcQ, wcX, wcG, wcL, wcS, w54_163, toI, toJ, toI64, inb_T, inb_iZ, Int.toNat_natCast, cl_0, cl_1, cl_2, cl_3, cl_4, cl_5, cl_6, cl_7, cl_8, cl_9, cl_10, cl_11, cl_12, cl_13, cl_14, cl_15, cl_16, cl_17, cl_18, cl_19, cl_20, cl_21, cl_22, cl_23, cl_24, cl_25, cl_26, cl_27, cl_28, cl_29, cl_30, cl_31, cl_32, cl_36, cl_40, cl_48, cl_60, cl_108, cl_120, cl_200, cl_201, cl_576, cl_600, cl_864, cl_900, cl_960, cl_5400, cl_8040, j2_0, iN_iZ, iN_lit0, iZ_add, iZ_sub, iZ_mul, iZ_neg, jZ_add, jZ_sub, jZ_mul, jZ_neg, isB0, isB1, isBZ, eq0, eq1, bZ0, vI_, vJ_, vA_, rI_, rJ_, rA_, rV_, nX_, tX_, true_and, and_true, false_and, and_false, and_self, implies_true, forall_const, not_true_eq_false, not_false_eq_true, false_implies, true_implies, ↓reduceIte, Nat.reduceEqDiff, Int.reduceToNat, Int.reduceAdd, Int.reduceSub, Int.reduceLT, Int.reduceLE, Int.reduceEq, Int.add_zero, Int.neg_zero, Int.add_sub_cancel, Int.reduceNeg, Nat.reduceLeDiff, Nat.reduceSub, true_or, or_true, false_or, or_false, setI_d, setJ_d, setP_d, mI_row, mJ_row, mP_row, mI_row_ne, mJ_row_ne, mP_row_ne, rowI_rowI, rowJ_rowJ, rowI_sort, rowJ_sort, rowJ_rowI, rowP_rowI, rowP_rowJ, fu_app, fu_fu, mI_rowJ, mI_rowP, mJ_rowI, mJ_rowP, mP_rowI, mP_rowJ, mK_rowI, mN_rowI, mK_rowJ, mN_rowJ, mK_rowP, mN_rowP, oB_rowI, oB_rowJ, iA_rowI, iA_rowJ, iR_rowI, iR_rowJ, St_rowI, St_rowJ]
  rw [QM_i hp]
  exact ⟨hH, hX⟩
theorem c54j (hst : (gl G).stackTraces = false) (hS : Static M) {R : BR} : ∀ (m c s' : Nat) (q' : Bk) (M1 : Mem), R = pSg B n 59 c q' → Hm M M1 r → TM M1 B n c → mI M1 154 23 = iZ s' → 2 * s' ≤ 3 * c → MC M1 r s' q' → wp (WCo G (d + 47) 54 (rV fun M' => QM M B n r R M') nX) 54 (m + 100) 157 [aR (some 154), aI (iZ r)] [] M1 0 := by
  intro m c s' q' M1 hp hH hT1 h23' hs' hC1
  have S1 := Hm_S hH hS
  have nc' := nxT_b (B := B) (n := n) (b := c)
  simp (disch := omega) only [wcQ, wcX, wcG, wcL, wcS, w54_157, w54_158, w54_160, toI, toJ, toI64, inb_T, inb_iZ, Int.toNat_natCast, cl_0, cl_1, cl_2, cl_3, cl_4, cl_5, cl_6, cl_7, cl_8, cl_9, cl_10, cl_11, cl_12, cl_13, cl_14, cl_15, cl_16, cl_17, cl_18, cl_19, cl_20, cl_21, cl_22, cl_23, cl_24, cl_25, cl_26, cl_27, cl_28, cl_29, cl_30, cl_31, cl_32, cl_36, cl_40, cl_48, cl_60, cl_108, cl_120, cl_200, cl_201, cl_576, cl_600, cl_864, cl_900, cl_960, cl_5400, cl_8040, j2_0, iN_iZ, iN_lit0, iZ_add, iZ_sub, iZ_mul, iZ_neg, jZ_add, jZ_sub, jZ_mul, jZ_neg, isB0, isB1, isBZ, eq0, eq1, bZ0, vI_, vJ_, vA_, rI_, rJ_, rA_, rV_, nX_, tX_, true_and, and_true, false_and, and_false, and_self, implies_true, forall_const, not_true_eq_false, not_false_eq_true, false_implies, true_implies, ↓reduceIte, Nat.reduceEqDiff, Int.reduceToNat, Int.reduceAdd, Int.reduceSub, Int.reduceLT, Int.reduceLE, Int.reduceEq, Int.add_zero, Int.neg_zero, Int.add_sub_cancel, Int.reduceNeg, Nat.reduceLeDiff, Nat.reduceSub, true_or, or_true, false_or, or_false, setI_d, setJ_d, setP_d, mI_row, mJ_row, mP_row, mI_row_ne, mJ_row_ne, mP_row_ne, rowI_rowI, rowJ_rowJ, rowI_sort, rowJ_sort, rowJ_rowI, rowP_rowI, rowP_rowJ, fu_app, fu_fu, mI_rowJ, mI_rowP, mJ_rowI, mJ_rowP, mP_rowI, mP_rowJ, mK_rowI, mN_rowI, mK_rowJ, mN_rowJ, mK_rowP, mN_rowP, oB_rowI, oB_rowJ, iA_rowI, iA_rowJ, iR_rowI, iR_rowJ, St_rowI, St_rowJ, O154 S1]
  refine kV (c39 (G := G) (d := d + 44) (c := 59) hst S1 hT1 (by decide)) (Nat.le_refl _) (fun M3 hq => ?_) (fun e M' h => False.elim h)
  obtain ⟨G3, hq⟩ := hq
  have H3 := Hm_tr hH (GT_Hm G3)
  simp (disch := omega) only [wcQ, wcX, wcG, wcL, wcS, w54_163, toI, toJ, toI64, inb_T, inb_iZ, Int.toNat_natCast, cl_0, cl_1, cl_2, cl_3, cl_4, cl_5, cl_6, cl_7, cl_8, cl_9, cl_10, cl_11, cl_12, cl_13, cl_14, cl_15, cl_16, cl_17, cl_18, cl_19, cl_20, cl_21, cl_22, cl_23, cl_24, cl_25, cl_26, cl_27, cl_28, cl_29, cl_30, cl_31, cl_32, cl_36, cl_40, cl_48, cl_60, cl_108, cl_120, cl_200, cl_201, cl_576, cl_600, cl_864, cl_900, cl_960, cl_5400, cl_8040, j2_0, iN_iZ, iN_lit0, iZ_add, iZ_sub, iZ_mul, iZ_neg, jZ_add, jZ_sub, jZ_mul, jZ_neg, isB0, isB1, isBZ, eq0, eq1, bZ0, vI_, vJ_, vA_, rI_, rJ_, rA_, rV_, nX_, tX_, true_and, and_true, false_and, and_false, and_self, implies_true, forall_const, not_true_eq_false, not_false_eq_true, false_implies, true_implies, ↓reduceIte, Nat.reduceEqDiff, Int.reduceToNat, Int.reduceAdd, Int.reduceSub, Int.reduceLT, Int.reduceLE, Int.reduceEq, Int.add_zero, Int.neg_zero, Int.add_sub_cancel, Int.reduceNeg, Nat.reduceLeDiff, Nat.reduceSub, true_or, or_true, false_or, or_false, setI_d, setJ_d, setP_d, mI_row, mJ_row, mP_row, mI_row_ne, mJ_row_ne, mP_row_ne, rowI_rowI, rowJ_rowJ, rowI_sort, rowJ_sort, rowJ_rowI, rowP_rowI, rowP_rowJ, fu_app, fu_fu, mI_rowJ, mI_rowP, mJ_rowI, mJ_rowP, mP_rowI, mP_rowJ, mK_rowI, mN_rowI, mK_rowJ, mN_rowJ, mK_rowP, mN_rowP, oB_rowI, oB_rowJ, iA_rowI, iA_rowJ, iR_rowI, iR_rowJ, St_rowI, St_rowJ]
  rcases hq with ⟨hs5, T3⟩ | ⟨hs5, X3⟩
  · unfold pSg at hp
    rw [if_pos hs5] at hp
    rw [QM_r hp]
    exact ⟨H3, T3, s', by rw [GT_23 G3]; exact h23', by omega, MC_GT hC1 G3⟩
  · unfold pSg at hp
    rw [if_neg hs5] at hp
    rw [QM_i hp]
    exact ⟨H3, X3⟩
theorem c54o (hst : (gl G).stackTraces = false) (hS : Static M) (hr : r < 6) (h20 : bC q < 20) (hs : 2 * s ≤ 3 * b) (hbn : b < n) (hb : b ≤ n) {R : BR} (hp : R = pExS B n (nxT B n b) (fun l => (bP q, bF q, bO q ++ [l], bT q, bB q, bL q, bC q + 1))) {M1 : Mem} (G1 : GT M M1) (T1 : TM M1 B n (nxT B n b)) (C1 : MC M1 r s q) (g23 : mI M1 154 23 = iZ s) : ∀ m, wp (WCo G (d + 47) 54 (rV fun M' => QM M B n r R M') nX) 54 (m + 400) 30 [aR (some 154), aI (iZ r)] [] M1 0 := by
  intro m
  have S1 := GT_S G1 hS
  have nb := nxT_b (B := B) (n := n) (b := b)
  have b1n := nb.2.1
  have Jx := fun (m e p : Nat) (M1 : Mem) => c54x (G := G) (d := d) (n := n) (B := B) (M := M) (r := r) (R := R) hst hS m e p M1
  have J := fun (m c s' : Nat) (q' : Bk) (M1 : Mem) => c54j (G := G) (d := d) (n := n) (B := B) (M := M) (r := r) (R := R) hst hS m c s' q' M1
  obtain ⟨ho0, ho1, ho2, hox⟩ := C1.2.2.1
  have hix : ((20 : Int) * r + ((bO q).length : Nat)).toNat = 20 * r + (bO q).length := by omega
  have w169 : bW 169 = 1 := rfl
  have w170 : bW 170 = 20 := rfl
  have w171 : bW 171 = 20 := rfl
  simp (disch := omega) only [wcQ, wcX, wcG, wcL, wcS, w54_30, w54_31, w54_34, w54_36, w54_37, w54_38, w54_39, w54_42, w54_43, w54_44, w54_45, w54_46, w54_49, w54_50, w54_51, w54_52, w54_53, toI, toJ, toI64, inb_T, inb_iZ, Int.toNat_natCast, cl_0, cl_1, cl_2, cl_3, cl_4, cl_5, cl_6, cl_7, cl_8, cl_9, cl_10, cl_11, cl_12, cl_13, cl_14, cl_15, cl_16, cl_17, cl_18, cl_19, cl_20, cl_21, cl_22, cl_23, cl_24, cl_25, cl_26, cl_27, cl_28, cl_29, cl_30, cl_31, cl_32, cl_36, cl_40, cl_48, cl_60, cl_108, cl_120, cl_200, cl_201, cl_576, cl_600, cl_864, cl_900, cl_960, cl_5400, cl_8040, j2_0, iN_iZ, iN_lit0, iZ_add, iZ_sub, iZ_mul, iZ_neg, jZ_add, jZ_sub, jZ_mul, jZ_neg, isB0, isB1, isBZ, eq0, eq1, bZ0, vI_, vJ_, vA_, rI_, rJ_, rA_, rV_, nX_, tX_, true_and, and_true, false_and, and_false, and_self, implies_true, forall_const, not_true_eq_false, not_false_eq_true, false_implies, true_implies, ↓reduceIte, Nat.reduceEqDiff, Int.reduceToNat, Int.reduceAdd, Int.reduceSub, Int.reduceLT, Int.reduceLE, Int.reduceEq, Int.add_zero, Int.neg_zero, Int.add_sub_cancel, Int.reduceNeg, Nat.reduceLeDiff, Nat.reduceSub, true_or, or_true, false_or, or_false, setI_d, setJ_d, setP_d, mI_row, mJ_row, mP_row, mI_row_ne, mJ_row_ne, mP_row_ne, rowI_rowI, rowJ_rowJ, rowI_sort, rowJ_sort, rowJ_rowI, rowP_rowI, rowP_rowJ, fu_app, fu_fu, mI_rowJ, mI_rowP, mJ_rowI, mJ_rowP, mP_rowI, mP_rowJ, mK_rowI, mN_rowI, mK_rowJ, mN_rowJ, mK_rowP, mN_rowP, oB_rowI, oB_rowJ, iA_rowI, iA_rowJ, iR_rowI, iR_rowJ, St_rowI, St_rowJ, K154 S1, O154 S1, P154_33 S1, P154_32 S1, K170 S1, O170 S1, A170 S1, K169 S1, O169 S1, A169 S1, ho0, hix, g23]
  generalize hM2 : rowI M1 170 (fu (mI M1 170) (20 * r + (bO q).length) (iZ s)) = M2
  have hM2 := hM2.symm
  have S2 : Static M2 := by rw [hM2]; exact S1
  have T2 : TM M2 B n (nxT B n b) := by rw [hM2]; exact TM_row (by decide) (by decide) T1
  have a2 : mI M2 154 23 = iZ s := by rw [hM2, mI_row_ne (by decide)]; exact g23
  have I2 : ∀ c, c ≠ 170 → mI M2 c = mI M1 c := fun c hc => by rw [hM2, mI_row_ne hc]
  have z2 : mI M2 170 = fu (mI M1 170) (20 * r + (bO q).length) (iZ s) := by rw [hM2, mI_row]
  have H2 : Hm M M2 r := by
    rw [hM2]
    refine Hm_tr (GT_Hm G1) (Hm_row (c := 170) (by decide) (by decide) (fun j hj => ?_))
    rw [w170] at hj
    exact if_neg (by omega)
  refine kV (c51 (G := G) (d := d + 3) (B := B) (n := n) hst hr 6 (by decide) M2 (nxT B n b) s S2 T2 a2 (by omega)) (Nat.le_refl _) (fun M5 hq => ?_) (fun e M' h => False.elim h)
  have FN5 : ∀ (M5 : Mem) (v : Int32), Hm M2 M5 r → Hm M5 (rowI (rowI M5 169 (fu (mI M5 169) r (iZ (((bO q).length : Int) + 1)))) 171 (fu (mI M5 171) (20 * r + (bO q).length) v)) r := fun M5 v h => by
    refine Hm_tr (Hm_row (c := 169) (by decide) (by decide) (fun j hj => ?_)) (Hm_row (c := 171) (by decide) (by decide) (fun j hj => ?_))
    · rw [w169] at hj; exact if_neg (by omega)
    · rw [w171] at hj; rw [mI_row_ne (by decide)]; exact if_neg (by omega)
  cases hx : pEx B n 6 (nxT B n b) with
  | inl v =>
    obtain ⟨e, p⟩ := v
    rw [PS_i hx] at hq
    obtain ⟨G5, X5⟩ := hq
    have H5 := GQ_Hm G5
    have S5 := Hm_S H5 S2
    have h1695 : mI M5 169 r = iZ (bO q).length := by rw [G5.2.2.2.2.1 169 (by decide) (by decide), I2 169 (by decide)]; exact ho0
    have hpx : R = .inl (e, p) := by rw [hp]; unfold pExS; rw [hx]
    simp (disch := omega) only [wcQ, wcX, wcG, wcL, wcS, w54_56, w54_57, w54_60, w54_62, w54_63, w54_64, w54_65, w54_68, w54_69, w54_70, w54_71, w54_72, w54_75, w54_76, w54_77, w54_80, w54_81, w54_82, w54_83, w54_84, w54_85, w54_86, toI, toJ, toI64, inb_T, inb_iZ, Int.toNat_natCast, cl_0, cl_1, cl_2, cl_3, cl_4, cl_5, cl_6, cl_7, cl_8, cl_9, cl_10, cl_11, cl_12, cl_13, cl_14, cl_15, cl_16, cl_17, cl_18, cl_19, cl_20, cl_21, cl_22, cl_23, cl_24, cl_25, cl_26, cl_27, cl_28, cl_29, cl_30, cl_31, cl_32, cl_36, cl_40, cl_48, cl_60, cl_108, cl_120, cl_200, cl_201, cl_576, cl_600, cl_864, cl_900, cl_960, cl_5400, cl_8040, j2_0, iN_iZ, iN_lit0, iZ_add, iZ_sub, iZ_mul, iZ_neg, jZ_add, jZ_sub, jZ_mul, jZ_neg, isB0, isB1, isBZ, eq0, eq1, bZ0, vI_, vJ_, vA_, rI_, rJ_, rA_, rV_, nX_, tX_, true_and, and_true, false_and, and_false, and_self, implies_true, forall_const, not_true_eq_false, not_false_eq_true, false_implies, true_implies, ↓reduceIte, Nat.reduceEqDiff, Int.reduceToNat, Int.reduceAdd, Int.reduceSub, Int.reduceLT, Int.reduceLE, Int.reduceEq, Int.add_zero, Int.neg_zero, Int.add_sub_cancel, Int.reduceNeg, Nat.reduceLeDiff, Nat.reduceSub, true_or, or_true, false_or, or_false, setI_d, setJ_d, setP_d, mI_row, mJ_row, mP_row, mI_row_ne, mJ_row_ne, mP_row_ne, rowI_rowI, rowJ_rowJ, rowI_sort, rowJ_sort, rowJ_rowI, rowP_rowI, rowP_rowJ, fu_app, fu_fu, mI_rowJ, mI_rowP, mJ_rowI, mJ_rowP, mP_rowI, mP_rowJ, mK_rowI, mN_rowI, mK_rowJ, mN_rowJ, mK_rowP, mN_rowP, oB_rowI, oB_rowJ, iA_rowI, iA_rowJ, iR_rowI, iR_rowJ, St_rowI, St_rowJ, K154 S5, O154 S5, P154_34 S5, P154_32 S5, K171 S5, O171 S5, A171 S5, K169 S5, O169 S5, A169 S5, h1695, hix]
    refine Jx _ _ _ _ hpx (Hm_tr H2 (Hm_tr H5 (FN5 M5 _ H5))) ?_
    unfold XM at *
    rw [mI_row_ne (by decide), mI_row_ne (by decide)]
    exact X5
  | inr v =>
    obtain ⟨c, l⟩ := v
    rw [PS_r hx] at hq
    obtain ⟨G5, T5, a5, z5⟩ := hq
    have H5 := GQ_Hm G5
    have S5 := Hm_S H5 S2
    have I5 := G5.2.2.2.2.1
    have h1695 : mI M5 169 r = iZ (bO q).length := by rw [I5 169 (by decide) (by decide), I2 169 (by decide)]; exact ho0
    have hpx : R = pSg B n 59 c (bP q, bF q, bO q ++ [l], bT q, bB q, bL q, bC q + 1) := by rw [hp]; unfold pExS; rw [hx]
    have hle := LC_ex (B := B) (n := n) 6 _ _ _ (b1n hb) hx
    have hlp := (LE_ex (B := B) (n := n) 6).1 _ _ _ (b1n hb) hx
    simp (disch := omega) only [wcQ, wcX, wcG, wcL, wcS, w54_56, w54_57, w54_60, w54_62, w54_63, w54_64, w54_65, w54_68, w54_69, w54_70, w54_71, w54_72, w54_75, w54_76, w54_77, w54_80, w54_81, w54_82, w54_83, w54_84, w54_85, w54_86, toI, toJ, toI64, inb_T, inb_iZ, Int.toNat_natCast, cl_0, cl_1, cl_2, cl_3, cl_4, cl_5, cl_6, cl_7, cl_8, cl_9, cl_10, cl_11, cl_12, cl_13, cl_14, cl_15, cl_16, cl_17, cl_18, cl_19, cl_20, cl_21, cl_22, cl_23, cl_24, cl_25, cl_26, cl_27, cl_28, cl_29, cl_30, cl_31, cl_32, cl_36, cl_40, cl_48, cl_60, cl_108, cl_120, cl_200, cl_201, cl_576, cl_600, cl_864, cl_900, cl_960, cl_5400, cl_8040, j2_0, iN_iZ, iN_lit0, iZ_add, iZ_sub, iZ_mul, iZ_neg, jZ_add, jZ_sub, jZ_mul, jZ_neg, isB0, isB1, isBZ, eq0, eq1, bZ0, vI_, vJ_, vA_, rI_, rJ_, rA_, rV_, nX_, tX_, true_and, and_true, false_and, and_false, and_self, implies_true, forall_const, not_true_eq_false, not_false_eq_true, false_implies, true_implies, ↓reduceIte, Nat.reduceEqDiff, Int.reduceToNat, Int.reduceAdd, Int.reduceSub, Int.reduceLT, Int.reduceLE, Int.reduceEq, Int.add_zero, Int.neg_zero, Int.add_sub_cancel, Int.reduceNeg, Nat.reduceLeDiff, Nat.reduceSub, true_or, or_true, false_or, or_false, setI_d, setJ_d, setP_d, mI_row, mJ_row, mP_row, mI_row_ne, mJ_row_ne, mP_row_ne, rowI_rowI, rowJ_rowJ, rowI_sort, rowJ_sort, rowJ_rowI, rowP_rowI, rowP_rowJ, fu_app, fu_fu, mI_rowJ, mI_rowP, mJ_rowI, mJ_rowP, mP_rowI, mP_rowJ, mK_rowI, mN_rowI, mK_rowJ, mN_rowJ, mK_rowP, mN_rowP, oB_rowI, oB_rowJ, iA_rowI, iA_rowJ, iR_rowI, iR_rowJ, St_rowI, St_rowJ, K154 S5, O154 S5, P154_34 S5, P154_32 S5, K171 S5, O171 S5, A171 S5, K169 S5, O169 S5, A169 S5, h1695, hix, a5]
    have HE := FN5 M5 (iZ ((s + (mc l).length : Nat) : Int)) H5
    generalize hME : rowI (rowI M5 169 (fu (mI M5 169) r (iZ (((bO q).length : Int) + 1)))) 171 (fu (mI M5 171) (20 * r + (bO q).length) (iZ ((s + (mc l).length : Nat) : Int))) = ME at *
    have hME := hME.symm
    have IE : ∀ c, c ≠ 154 → c ≠ 169 → c ≠ 171 → c ≠ 176 → c ≠ 170 → mI ME c = mI M1 c := fun c c1 c2 c3 c4 c5 => by rw [hME, mI_row_ne c3, mI_row_ne c2, I5 c c1 c4, I2 c c5]
    refine J _ c _ _ _ hpx (Hm_tr H2 (Hm_tr H5 HE)) ?_ ?_ (by omega) (MC_addO (q := (bP q, bF q, bO q, bT q, bB q, bL q, bC q + 1)) (MC_C (C := bC q) (show MC M1 r s (bP q, bF q, bO q, bT q, bB q, bL q, bC q) from C1) (Nat.le_succ _) h20) (show (bO q).length < bC q + 1 by omega) ?_ ?_ ?_ ?_ (fun c c1 c2 c3 c4 c5 => IE c (by omega) c3 c5 (by omega) c4))
    · rw [hME]; exact TM_row (by decide) (by decide) (TM_row (by decide) (by decide) T5)
    · rw [hME, mI_row_ne (by decide), mI_row_ne (by decide)]; exact a5
    · rw [hME, mI_row_ne (by decide), mI_row]; exact if_pos rfl
    · rw [hME, mI_row_ne (by decide), mI_row_ne (by decide), I5 170 (by decide) (by decide), z2]
    · rw [hME, mI_row, I5 171 (by decide) (by decide), I2 171 (by decide)]
    · rw [hME, mI_row_ne (by decide), mI_row_ne (by decide), z5, I2 176 (by decide)]
theorem c54 (hst : (gl G).stackTraces = false) (hS : Static M) (hT : TM M B n b) (hr : r < 6) (h23 : mI M 154 23 = iZ s) (hs : 2 * s ≤ 3 * b) (hC : MC M r s q) (hw : wix B n b cwL ≠ -1) (h20 : bC q < 20) : Ev G (d + 48) 54 [aR (some 154), aI (iZ r)] M 0 (rV fun M' => QM M B n r (pCl B n q b) M') nX := by
  have n6 := hT.1.1
  have nb := nxT_b (B := B) (n := n) (b := b)
  have h1330 : ((13 : Nat) < 30) = True := eq_true (by decide)
  have h1530 : ((15 : Nat) < 30) = True := eq_true (by decide)
  have h1630 : ((16 : Nat) < 30) = True := eq_true (by decide)
  have h1730 : ((17 : Nat) < 30) = True := eq_true (by decide)
  obtain ⟨t0, t1, t2, t3, t4⟩ := cw_t (B := B) (n := n) (b := b)
  have wb := cw_b (B := B) (n := n) (b := b)
  have hbn : b < n := by
    apply tk_lt (B := B)
    intro z
    apply hw
    unfold wix; rw [z]; rfl
  have hp : pCl B n q b = (if 20 ≤ bC q ∨ (wix B n b cwL = 0 ∧ 10 ≤ (bF q).length) then .inl (2, b)
  else if wix B n b cwL = 0 then
    (if nnE B n (nxT B n b) (gN (bF q)) (bF q).length ≠ 0 then .inl (nnE B n (nxT B n b) (gN (bF q)) (bF q).length, nxT B n b)
     else if ¬ twd B n (nxT B n (nxT B n b)) 14 then .inl (1, nxT B n (nxT B n b))
     else pExS B n (nxT B n (nxT B n (nxT B n b))) (fun l => (bP q, bF q ++ [((nc B (nxT B n b) (tl B n (nxT B n b)) : Int), l)], bO q, bT q, bB q, bL q, bC q + 1)))
  else if wix B n b cwL = 1 then pExS B n (nxT B n b) (fun l => (bP q, bF q, bO q ++ [l], bT q, bB q, bL q, bC q + 1))
  else if wix B n b cwL = 2 then (match pTies B n (bP q) (nxT B n b) with
    | .inl e => .inl e
    | .inr (c, T) => pSg B n 59 c (bP q, bF q, bO q, T, bB q, bL q, bC q + 1))
  else if wix B n b cwL = 3 then (if tnE B n (nxT B n b) 1 20 ≠ 0 then .inl (tnE B n (nxT B n b) 1 20, (nxT B n b)) else pSg B n 59 (nxT B n (nxT B n b)) (bP q, bF q, bO q, bT q, (dv B (nxT B n b) (tl B n (nxT B n b)) : Int), bL q, bC q + 1))
  else (if tnE B n (nxT B n b) 1 9999 ≠ 0 then .inl (tnE B n (nxT B n b) 1 9999, (nxT B n b)) else pSg B n 59 (nxT B n (nxT B n b)) (bP q, bF q, bO q, bT q, bB q, (dv B (nxT B n b) (tl B n (nxT B n b)) : Int), bC q + 1)) : BR) := by
    unfold pCl
    simp only [hw, if_false]
    rfl
  generalize hR : pCl B n q b = R at *
  have Jx := fun (m e p : Nat) (M1 : Mem) => c54x (G := G) (d := d) (n := n) (B := B) (M := M) (r := r) (R := R) hst hS m e p M1
  have J := fun (m c s' : Nat) (q' : Bk) (M1 : Mem) => c54j (G := G) (d := d) (n := n) (B := B) (M := M) (r := r) (R := R) hst hS m c s' q' M1
  have e := fun (a : Nat) (ha : a < 30) => c31 (G := G) (d := d + 42) hst hS hT (a := a) ha
  have en := c29t (G := G) (d := d + 45) hst hS hT
  refine Ev_wp 2000 hst (by decide) (Nat.le_of_ble_eq_true rfl) ?_; simp (disch := omega) only [en54, wcQ, wcX, wcG, wcL, wcS, w54_0, w54_1, w54_3, toI, toJ, toI64, inb_T, inb_iZ, Int.toNat_natCast, cl_0, cl_1, cl_2, cl_3, cl_4, cl_5, cl_6, cl_7, cl_8, cl_9, cl_10, cl_11, cl_12, cl_13, cl_14, cl_15, cl_16, cl_17, cl_18, cl_19, cl_20, cl_21, cl_22, cl_23, cl_24, cl_25, cl_26, cl_27, cl_28, cl_29, cl_30, cl_31, cl_32, cl_36, cl_40, cl_48, cl_60, cl_108, cl_120, cl_200, cl_201, cl_576, cl_600, cl_864, cl_900, cl_960, cl_5400, cl_8040, j2_0, iN_iZ, iN_lit0, iZ_add, iZ_sub, iZ_mul, iZ_neg, jZ_add, jZ_sub, jZ_mul, jZ_neg, isB0, isB1, isBZ, eq0, eq1, bZ0, vI_, vJ_, vA_, rI_, rJ_, rA_, rV_, nX_, tX_, true_and, and_true, false_and, and_false, and_self, implies_true, forall_const, not_true_eq_false, not_false_eq_true, false_implies, true_implies, ↓reduceIte, Nat.reduceEqDiff, Int.reduceToNat, Int.reduceAdd, Int.reduceSub, Int.reduceLT, Int.reduceLE, Int.reduceEq, Int.add_zero, Int.neg_zero, Int.add_sub_cancel, Int.reduceNeg, Nat.reduceLeDiff, Nat.reduceSub, true_or, or_true, false_or, or_false, setI_d, setJ_d, setP_d, mI_row, mJ_row, mP_row, mI_row_ne, mJ_row_ne, mP_row_ne, rowI_rowI, rowJ_rowJ, rowI_sort, rowJ_sort, rowJ_rowI, rowP_rowI, rowP_rowJ, fu_app, fu_fu, mI_rowJ, mI_rowP, mJ_rowI, mJ_rowP, mP_rowI, mP_rowJ, mK_rowI, mN_rowI, mK_rowJ, mN_rowJ, mK_rowP, mN_rowP, oB_rowI, oB_rowJ, iA_rowI, iA_rowJ, iR_rowI, iR_rowJ, St_rowI, St_rowJ, O154 hS, h1330]
  refine kI0 (e 13 (by decide)) ?_
  by_cases w0 : twd B n b 13
  · have w' := eq_true w0
    have x0 := t0.mp w0
    by_cases h10 : 10 ≤ (bF q).length
    · rw [if_pos (Or.inr ⟨x0, h10⟩)] at hp
      have hf := hC.2.1
      have f10 : mI M 166 r = iZ 10 := by rw [hf.1, show (bF q).length = 10 by omega]; rfl
      simp (disch := omega) only [wcQ, wcX, wcG, wcL, wcS, w54_6, w54_9, w54_10, w54_11, toI, toJ, toI64, inb_T, inb_iZ, Int.toNat_natCast, cl_0, cl_1, cl_2, cl_3, cl_4, cl_5, cl_6, cl_7, cl_8, cl_9, cl_10, cl_11, cl_12, cl_13, cl_14, cl_15, cl_16, cl_17, cl_18, cl_19, cl_20, cl_21, cl_22, cl_23, cl_24, cl_25, cl_26, cl_27, cl_28, cl_29, cl_30, cl_31, cl_32, cl_36, cl_40, cl_48, cl_60, cl_108, cl_120, cl_200, cl_201, cl_576, cl_600, cl_864, cl_900, cl_960, cl_5400, cl_8040, j2_0, iN_iZ, iN_lit0, iZ_add, iZ_sub, iZ_mul, iZ_neg, jZ_add, jZ_sub, jZ_mul, jZ_neg, isB0, isB1, isBZ, eq0, eq1, bZ0, vI_, vJ_, vA_, rI_, rJ_, rA_, rV_, nX_, tX_, true_and, and_true, false_and, and_false, and_self, implies_true, forall_const, not_true_eq_false, not_false_eq_true, false_implies, true_implies, ↓reduceIte, Nat.reduceEqDiff, Int.reduceToNat, Int.reduceAdd, Int.reduceSub, Int.reduceLT, Int.reduceLE, Int.reduceEq, Int.add_zero, Int.neg_zero, Int.add_sub_cancel, Int.reduceNeg, Nat.reduceLeDiff, Nat.reduceSub, true_or, or_true, false_or, or_false, setI_d, setJ_d, setP_d, mI_row, mJ_row, mP_row, mI_row_ne, mJ_row_ne, mP_row_ne, rowI_rowI, rowJ_rowJ, rowI_sort, rowJ_sort, rowJ_rowI, rowP_rowI, rowP_rowJ, fu_app, fu_fu, mI_rowJ, mI_rowP, mJ_rowI, mJ_rowP, mP_rowI, mP_rowJ, mK_rowI, mN_rowI, mK_rowJ, mN_rowJ, mK_rowP, mN_rowP, oB_rowI, oB_rowJ, iA_rowI, iA_rowJ, iR_rowI, iR_rowJ, St_rowI, St_rowJ, w', O154 hS]
      refine kV (c52f (G := G) (d := d + 45) hst hS hT f10 hr) (Nat.le_refl _) (fun M1 hq => ?_) (fun e M' h => False.elim h)
      obtain ⟨G1, X1⟩ := hq
      simp (disch := omega) only [wcQ, wcX, wcG, wcL, wcS, w54_14, toI, toJ, toI64, inb_T, inb_iZ, Int.toNat_natCast, cl_0, cl_1, cl_2, cl_3, cl_4, cl_5, cl_6, cl_7, cl_8, cl_9, cl_10, cl_11, cl_12, cl_13, cl_14, cl_15, cl_16, cl_17, cl_18, cl_19, cl_20, cl_21, cl_22, cl_23, cl_24, cl_25, cl_26, cl_27, cl_28, cl_29, cl_30, cl_31, cl_32, cl_36, cl_40, cl_48, cl_60, cl_108, cl_120, cl_200, cl_201, cl_576, cl_600, cl_864, cl_900, cl_960, cl_5400, cl_8040, j2_0, iN_iZ, iN_lit0, iZ_add, iZ_sub, iZ_mul, iZ_neg, jZ_add, jZ_sub, jZ_mul, jZ_neg, isB0, isB1, isBZ, eq0, eq1, bZ0, vI_, vJ_, vA_, rI_, rJ_, rA_, rV_, nX_, tX_, true_and, and_true, false_and, and_false, and_self, implies_true, forall_const, not_true_eq_false, not_false_eq_true, false_implies, true_implies, ↓reduceIte, Nat.reduceEqDiff, Int.reduceToNat, Int.reduceAdd, Int.reduceSub, Int.reduceLT, Int.reduceLE, Int.reduceEq, Int.add_zero, Int.neg_zero, Int.add_sub_cancel, Int.reduceNeg, Nat.reduceLeDiff, Nat.reduceSub, true_or, or_true, false_or, or_false, setI_d, setJ_d, setP_d, mI_row, mJ_row, mP_row, mI_row_ne, mJ_row_ne, mP_row_ne, rowI_rowI, rowJ_rowJ, rowI_sort, rowJ_sort, rowJ_rowI, rowP_rowI, rowP_rowJ, fu_app, fu_fu, mI_rowJ, mI_rowP, mJ_rowI, mJ_rowP, mP_rowI, mP_rowJ, mK_rowI, mN_rowI, mK_rowJ, mN_rowJ, mK_rowP, mN_rowP, oB_rowI, oB_rowJ, iA_rowI, iA_rowJ, iR_rowI, iR_rowJ, St_rowI, St_rowJ]
      exact Jx _ _ _ _ hp (GT_Hm G1) X1
    · rw [if_neg (by omega), if_pos x0] at hp
      simp (disch := omega) only [wcQ, wcX, wcG, wcL, wcS, w54_6, w54_9, w54_10, w54_11, toI, toJ, toI64, inb_T, inb_iZ, Int.toNat_natCast, cl_0, cl_1, cl_2, cl_3, cl_4, cl_5, cl_6, cl_7, cl_8, cl_9, cl_10, cl_11, cl_12, cl_13, cl_14, cl_15, cl_16, cl_17, cl_18, cl_19, cl_20, cl_21, cl_22, cl_23, cl_24, cl_25, cl_26, cl_27, cl_28, cl_29, cl_30, cl_31, cl_32, cl_36, cl_40, cl_48, cl_60, cl_108, cl_120, cl_200, cl_201, cl_576, cl_600, cl_864, cl_900, cl_960, cl_5400, cl_8040, j2_0, iN_iZ, iN_lit0, iZ_add, iZ_sub, iZ_mul, iZ_neg, jZ_add, jZ_sub, jZ_mul, jZ_neg, isB0, isB1, isBZ, eq0, eq1, bZ0, vI_, vJ_, vA_, rI_, rJ_, rA_, rV_, nX_, tX_, true_and, and_true, false_and, and_false, and_self, implies_true, forall_const, not_true_eq_false, not_false_eq_true, false_implies, true_implies, ↓reduceIte, Nat.reduceEqDiff, Int.reduceToNat, Int.reduceAdd, Int.reduceSub, Int.reduceLT, Int.reduceLE, Int.reduceEq, Int.add_zero, Int.neg_zero, Int.add_sub_cancel, Int.reduceNeg, Nat.reduceLeDiff, Nat.reduceSub, true_or, or_true, false_or, or_false, setI_d, setJ_d, setP_d, mI_row, mJ_row, mP_row, mI_row_ne, mJ_row_ne, mP_row_ne, rowI_rowI, rowJ_rowJ, rowI_sort, rowJ_sort, rowJ_rowI, rowP_rowI, rowP_rowJ, fu_app, fu_fu, mI_rowJ, mI_rowP, mJ_rowI, mJ_rowP, mP_rowI, mP_rowJ, mK_rowI, mN_rowI, mK_rowJ, mN_rowJ, mK_rowP, mN_rowP, oB_rowI, oB_rowJ, iA_rowI, iA_rowJ, iR_rowI, iR_rowJ, St_rowI, St_rowJ, w', O154 hS]
      refine kV (c52 (G := G) (d := d + 1) hst hS hT hr h23 hs hC (by omega)) (Nat.le_refl _) (fun M1 hq => ?_) (fun e M' h => False.elim h)
      simp (disch := omega) only [wcQ, wcX, wcG, wcL, wcS, w54_14, toI, toJ, toI64, inb_T, inb_iZ, Int.toNat_natCast, cl_0, cl_1, cl_2, cl_3, cl_4, cl_5, cl_6, cl_7, cl_8, cl_9, cl_10, cl_11, cl_12, cl_13, cl_14, cl_15, cl_16, cl_17, cl_18, cl_19, cl_20, cl_21, cl_22, cl_23, cl_24, cl_25, cl_26, cl_27, cl_28, cl_29, cl_30, cl_31, cl_32, cl_36, cl_40, cl_48, cl_60, cl_108, cl_120, cl_200, cl_201, cl_576, cl_600, cl_864, cl_900, cl_960, cl_5400, cl_8040, j2_0, iN_iZ, iN_lit0, iZ_add, iZ_sub, iZ_mul, iZ_neg, jZ_add, jZ_sub, jZ_mul, jZ_neg, isB0, isB1, isBZ, eq0, eq1, bZ0, vI_, vJ_, vA_, rI_, rJ_, rA_, rV_, nX_, tX_, true_and, and_true, false_and, and_false, and_self, implies_true, forall_const, not_true_eq_false, not_false_eq_true, false_implies, true_implies, ↓reduceIte, Nat.reduceEqDiff, Int.reduceToNat, Int.reduceAdd, Int.reduceSub, Int.reduceLT, Int.reduceLE, Int.reduceEq, Int.add_zero, Int.neg_zero, Int.add_sub_cancel, Int.reduceNeg, Nat.reduceLeDiff, Nat.reduceSub, true_or, or_true, false_or, or_false, setI_d, setJ_d, setP_d, mI_row, mJ_row, mP_row, mI_row_ne, mJ_row_ne, mP_row_ne, rowI_rowI, rowJ_rowJ, rowI_sort, rowJ_sort, rowJ_rowI, rowP_rowI, rowP_rowJ, fu_app, fu_fu, mI_rowJ, mI_rowP, mJ_rowI, mJ_rowP, mP_rowI, mP_rowJ, mK_rowI, mN_rowI, mK_rowJ, mN_rowJ, mK_rowP, mN_rowP, oB_rowI, oB_rowJ, iA_rowI, iA_rowJ, iR_rowI, iR_rowJ, St_rowI, St_rowJ]
      cases hx : pFl B n (nxT B n b) (bF q) with
      | inl v =>
        obtain ⟨e, p⟩ := v
        rw [QF_i hx] at hq
        rw [pFl_i hx] at hp
        exact Jx _ _ _ _ hp hq.1 hq.2
      | inr v =>
        obtain ⟨c, l⟩ := v
        rw [QF_r hx] at hq
        obtain ⟨hp2, hx2⟩ := pFl_r (g := fun l => (bP q, bF q ++ [((nc B (nxT B n b) (tl B n (nxT B n b)) : Int), l)], bO q, bT q, bB q, bL q, bC q + 1)) hx
        rw [hp2] at hp
        have nb1 := nxT_b (B := B) (n := n) (b := nxT B n b)
        have nb2 := nxT_b (B := B) (n := n) (b := nxT B n (nxT B n b))
        have hle := LC_ex (B := B) (n := n) 6 _ _ _ (by omega) hx2
        have hlp := (LE_ex (B := B) (n := n) 6).1 _ _ _ (by omega) hx2
        exact J _ c _ _ _ hp hq.1 hq.2.1 hq.2.2.1 (by omega) (MC_C hq.2.2.2 (Nat.le_succ _) h20)
  · have w' := eq_false w0
    have x0 : ¬ wix B n b cwL = 0 := fun z => w0 (t0.mpr z)
    rw [if_neg (by omega), if_neg x0] at hp
    have b1n := nb.2.1
    simp (disch := omega) only [wcQ, wcX, wcG, wcL, wcS, w54_6, w54_17, w54_18, w54_20, toI, toJ, toI64, inb_T, inb_iZ, Int.toNat_natCast, cl_0, cl_1, cl_2, cl_3, cl_4, cl_5, cl_6, cl_7, cl_8, cl_9, cl_10, cl_11, cl_12, cl_13, cl_14, cl_15, cl_16, cl_17, cl_18, cl_19, cl_20, cl_21, cl_22, cl_23, cl_24, cl_25, cl_26, cl_27, cl_28, cl_29, cl_30, cl_31, cl_32, cl_36, cl_40, cl_48, cl_60, cl_108, cl_120, cl_200, cl_201, cl_576, cl_600, cl_864, cl_900, cl_960, cl_5400, cl_8040, j2_0, iN_iZ, iN_lit0, iZ_add, iZ_sub, iZ_mul, iZ_neg, jZ_add, jZ_sub, jZ_mul, jZ_neg, isB0, isB1, isBZ, eq0, eq1, bZ0, vI_, vJ_, vA_, rI_, rJ_, rA_, rV_, nX_, tX_, true_and, and_true, false_and, and_false, and_self, implies_true, forall_const, not_true_eq_false, not_false_eq_true, false_implies, true_implies, ↓reduceIte, Nat.reduceEqDiff, Int.reduceToNat, Int.reduceAdd, Int.reduceSub, Int.reduceLT, Int.reduceLE, Int.reduceEq, Int.add_zero, Int.neg_zero, Int.add_sub_cancel, Int.reduceNeg, Nat.reduceLeDiff, Nat.reduceSub, true_or, or_true, false_or, or_false, setI_d, setJ_d, setP_d, mI_row, mJ_row, mP_row, mI_row_ne, mJ_row_ne, mP_row_ne, rowI_rowI, rowJ_rowJ, rowI_sort, rowJ_sort, rowJ_rowI, rowP_rowI, rowP_rowJ, fu_app, fu_fu, mI_rowJ, mI_rowP, mJ_rowI, mJ_rowP, mP_rowI, mP_rowJ, mK_rowI, mN_rowI, mK_rowJ, mN_rowJ, mK_rowP, mN_rowP, oB_rowI, oB_rowJ, iA_rowI, iA_rowJ, iR_rowI, iR_rowJ, St_rowI, St_rowJ, w', O154 hS, h1530]
    refine kI0 (e 15 (by decide)) ?_
    by_cases w1 : twd B n b 15
    · have w' := eq_true w1
      have x1 := t1.mp w1
      rw [if_pos x1] at hp
      simp (disch := omega) only [wcQ, wcX, wcG, wcL, wcS, w54_23, w54_26, w54_27, toI, toJ, toI64, inb_T, inb_iZ, Int.toNat_natCast, cl_0, cl_1, cl_2, cl_3, cl_4, cl_5, cl_6, cl_7, cl_8, cl_9, cl_10, cl_11, cl_12, cl_13, cl_14, cl_15, cl_16, cl_17, cl_18, cl_19, cl_20, cl_21, cl_22, cl_23, cl_24, cl_25, cl_26, cl_27, cl_28, cl_29, cl_30, cl_31, cl_32, cl_36, cl_40, cl_48, cl_60, cl_108, cl_120, cl_200, cl_201, cl_576, cl_600, cl_864, cl_900, cl_960, cl_5400, cl_8040, j2_0, iN_iZ, iN_lit0, iZ_add, iZ_sub, iZ_mul, iZ_neg, jZ_add, jZ_sub, jZ_mul, jZ_neg, isB0, isB1, isBZ, eq0, eq1, bZ0, vI_, vJ_, vA_, rI_, rJ_, rA_, rV_, nX_, tX_, true_and, and_true, false_and, and_false, and_self, implies_true, forall_const, not_true_eq_false, not_false_eq_true, false_implies, true_implies, ↓reduceIte, Nat.reduceEqDiff, Int.reduceToNat, Int.reduceAdd, Int.reduceSub, Int.reduceLT, Int.reduceLE, Int.reduceEq, Int.add_zero, Int.neg_zero, Int.add_sub_cancel, Int.reduceNeg, Nat.reduceLeDiff, Nat.reduceSub, true_or, or_true, false_or, or_false, setI_d, setJ_d, setP_d, mI_row, mJ_row, mP_row, mI_row_ne, mJ_row_ne, mP_row_ne, rowI_rowI, rowJ_rowJ, rowI_sort, rowJ_sort, rowJ_rowI, rowP_rowI, rowP_rowJ, fu_app, fu_fu, mI_rowJ, mI_rowP, mJ_rowI, mJ_rowP, mP_rowI, mP_rowJ, mK_rowI, mN_rowI, mK_rowJ, mN_rowJ, mK_rowP, mN_rowP, oB_rowI, oB_rowJ, iA_rowI, iA_rowJ, iR_rowI, iR_rowJ, St_rowI, St_rowJ, w', O154 hS]
      refine kV en (Nat.le_refl _) (fun M1 hq => ?_) (fun e M' h => False.elim h)
      obtain ⟨G1, T1⟩ := hq
      have S1 := GT_S G1 hS
      have C1 := MC_GT hC G1
      have g23 : mI M1 154 23 = iZ s := by rw [GT_23 G1]; exact h23
      exact c54o hst hS hr h20 hs (hbn) hT.2.1 (R := R) hp G1 T1 C1 g23 _
    · have w' := eq_false w1
      have x1 : ¬ wix B n b cwL = 1 := fun z => w1 (t1.mpr z)
      rw [if_neg x1] at hp
      simp (disch := omega) only [wcQ, wcX, wcG, wcL, wcS, w54_23, w54_89, w54_90, w54_92, toI, toJ, toI64, inb_T, inb_iZ, Int.toNat_natCast, cl_0, cl_1, cl_2, cl_3, cl_4, cl_5, cl_6, cl_7, cl_8, cl_9, cl_10, cl_11, cl_12, cl_13, cl_14, cl_15, cl_16, cl_17, cl_18, cl_19, cl_20, cl_21, cl_22, cl_23, cl_24, cl_25, cl_26, cl_27, cl_28, cl_29, cl_30, cl_31, cl_32, cl_36, cl_40, cl_48, cl_60, cl_108, cl_120, cl_200, cl_201, cl_576, cl_600, cl_864, cl_900, cl_960, cl_5400, cl_8040, j2_0, iN_iZ, iN_lit0, iZ_add, iZ_sub, iZ_mul, iZ_neg, jZ_add, jZ_sub, jZ_mul, jZ_neg, isB0, isB1, isBZ, eq0, eq1, bZ0, vI_, vJ_, vA_, rI_, rJ_, rA_, rV_, nX_, tX_, true_and, and_true, false_and, and_false, and_self, implies_true, forall_const, not_true_eq_false, not_false_eq_true, false_implies, true_implies, ↓reduceIte, Nat.reduceEqDiff, Int.reduceToNat, Int.reduceAdd, Int.reduceSub, Int.reduceLT, Int.reduceLE, Int.reduceEq, Int.add_zero, Int.neg_zero, Int.add_sub_cancel, Int.reduceNeg, Nat.reduceLeDiff, Nat.reduceSub, true_or, or_true, false_or, or_false, setI_d, setJ_d, setP_d, mI_row, mJ_row, mP_row, mI_row_ne, mJ_row_ne, mP_row_ne, rowI_rowI, rowJ_rowJ, rowI_sort, rowJ_sort, rowJ_rowI, rowP_rowI, rowP_rowJ, fu_app, fu_fu, mI_rowJ, mI_rowP, mJ_rowI, mJ_rowP, mP_rowI, mP_rowJ, mK_rowI, mN_rowI, mK_rowJ, mN_rowJ, mK_rowP, mN_rowP, oB_rowI, oB_rowJ, iA_rowI, iA_rowJ, iR_rowI, iR_rowJ, St_rowI, St_rowJ, w', O154 hS, h1630]
      refine kI0 (e 16 (by decide)) ?_
      by_cases w2 : twd B n b 16
      · have w' := eq_true w2
        have x2 := t2.mp w2
        rw [if_pos x2] at hp
        simp (disch := omega) only [wcQ, wcX, wcG, wcL, wcS, w54_95, w54_98, w54_99, toI, toJ, toI64, inb_T, inb_iZ, Int.toNat_natCast, cl_0, cl_1, cl_2, cl_3, cl_4, cl_5, cl_6, cl_7, cl_8, cl_9, cl_10, cl_11, cl_12, cl_13, cl_14, cl_15, cl_16, cl_17, cl_18, cl_19, cl_20, cl_21, cl_22, cl_23, cl_24, cl_25, cl_26, cl_27, cl_28, cl_29, cl_30, cl_31, cl_32, cl_36, cl_40, cl_48, cl_60, cl_108, cl_120, cl_200, cl_201, cl_576, cl_600, cl_864, cl_900, cl_960, cl_5400, cl_8040, j2_0, iN_iZ, iN_lit0, iZ_add, iZ_sub, iZ_mul, iZ_neg, jZ_add, jZ_sub, jZ_mul, jZ_neg, isB0, isB1, isBZ, eq0, eq1, bZ0, vI_, vJ_, vA_, rI_, rJ_, rA_, rV_, nX_, tX_, true_and, and_true, false_and, and_false, and_self, implies_true, forall_const, not_true_eq_false, not_false_eq_true, false_implies, true_implies, ↓reduceIte, Nat.reduceEqDiff, Int.reduceToNat, Int.reduceAdd, Int.reduceSub, Int.reduceLT, Int.reduceLE, Int.reduceEq, Int.add_zero, Int.neg_zero, Int.add_sub_cancel, Int.reduceNeg, Nat.reduceLeDiff, Nat.reduceSub, true_or, or_true, false_or, or_false, setI_d, setJ_d, setP_d, mI_row, mJ_row, mP_row, mI_row_ne, mJ_row_ne, mP_row_ne, rowI_rowI, rowJ_rowJ, rowI_sort, rowJ_sort, rowJ_rowI, rowP_rowI, rowP_rowJ, fu_app, fu_fu, mI_rowJ, mI_rowP, mJ_rowI, mJ_rowP, mP_rowI, mP_rowJ, mK_rowI, mN_rowI, mK_rowJ, mN_rowJ, mK_rowP, mN_rowP, oB_rowI, oB_rowJ, iA_rowI, iA_rowJ, iR_rowI, iR_rowJ, St_rowI, St_rowJ, w', O154 hS]
        refine kV en (Nat.le_refl _) (fun M1 hq => ?_) (fun e M' h => False.elim h)
        obtain ⟨G1, T1⟩ := hq
        have S1 := GT_S G1 hS
        have C1 := MC_GT hC G1
        have g23 : mI M1 154 23 = iZ s := by rw [GT_23 G1]; exact h23
        simp (disch := omega) only [wcQ, wcX, wcG, wcL, wcS, w54_102, w54_103, w54_104, toI, toJ, toI64, inb_T, inb_iZ, Int.toNat_natCast, cl_0, cl_1, cl_2, cl_3, cl_4, cl_5, cl_6, cl_7, cl_8, cl_9, cl_10, cl_11, cl_12, cl_13, cl_14, cl_15, cl_16, cl_17, cl_18, cl_19, cl_20, cl_21, cl_22, cl_23, cl_24, cl_25, cl_26, cl_27, cl_28, cl_29, cl_30, cl_31, cl_32, cl_36, cl_40, cl_48, cl_60, cl_108, cl_120, cl_200, cl_201, cl_576, cl_600, cl_864, cl_900, cl_960, cl_5400, cl_8040, j2_0, iN_iZ, iN_lit0, iZ_add, iZ_sub, iZ_mul, iZ_neg, jZ_add, jZ_sub, jZ_mul, jZ_neg, isB0, isB1, isBZ, eq0, eq1, bZ0, vI_, vJ_, vA_, rI_, rJ_, rA_, rV_, nX_, tX_, true_and, and_true, false_and, and_false, and_self, implies_true, forall_const, not_true_eq_false, not_false_eq_true, false_implies, true_implies, ↓reduceIte, Nat.reduceEqDiff, Int.reduceToNat, Int.reduceAdd, Int.reduceSub, Int.reduceLT, Int.reduceLE, Int.reduceEq, Int.add_zero, Int.neg_zero, Int.add_sub_cancel, Int.reduceNeg, Nat.reduceLeDiff, Nat.reduceSub, true_or, or_true, false_or, or_false, setI_d, setJ_d, setP_d, mI_row, mJ_row, mP_row, mI_row_ne, mJ_row_ne, mP_row_ne, rowI_rowI, rowJ_rowJ, rowI_sort, rowJ_sort, rowJ_rowI, rowP_rowI, rowP_rowJ, fu_app, fu_fu, mI_rowJ, mI_rowP, mJ_rowI, mJ_rowP, mP_rowI, mP_rowJ, mK_rowI, mN_rowI, mK_rowJ, mN_rowJ, mK_rowP, mN_rowP, oB_rowI, oB_rowJ, iA_rowI, iA_rowJ, iR_rowI, iR_rowJ, St_rowI, St_rowJ, O154 S1]
        refine kV (c53 (G := G) (d := d + 39) hst S1 T1 hr C1) (Nat.le_refl _) (fun M2 hq => ?_) (fun e M' h => False.elim h)
        simp (disch := omega) only [wcQ, wcX, wcG, wcL, wcS, w54_107, toI, toJ, toI64, inb_T, inb_iZ, Int.toNat_natCast, cl_0, cl_1, cl_2, cl_3, cl_4, cl_5, cl_6, cl_7, cl_8, cl_9, cl_10, cl_11, cl_12, cl_13, cl_14, cl_15, cl_16, cl_17, cl_18, cl_19, cl_20, cl_21, cl_22, cl_23, cl_24, cl_25, cl_26, cl_27, cl_28, cl_29, cl_30, cl_31, cl_32, cl_36, cl_40, cl_48, cl_60, cl_108, cl_120, cl_200, cl_201, cl_576, cl_600, cl_864, cl_900, cl_960, cl_5400, cl_8040, j2_0, iN_iZ, iN_lit0, iZ_add, iZ_sub, iZ_mul, iZ_neg, jZ_add, jZ_sub, jZ_mul, jZ_neg, isB0, isB1, isBZ, eq0, eq1, bZ0, vI_, vJ_, vA_, rI_, rJ_, rA_, rV_, nX_, tX_, true_and, and_true, false_and, and_false, and_self, implies_true, forall_const, not_true_eq_false, not_false_eq_true, false_implies, true_implies, ↓reduceIte, Nat.reduceEqDiff, Int.reduceToNat, Int.reduceAdd, Int.reduceSub, Int.reduceLT, Int.reduceLE, Int.reduceEq, Int.add_zero, Int.neg_zero, Int.add_sub_cancel, Int.reduceNeg, Nat.reduceLeDiff, Nat.reduceSub, true_or, or_true, false_or, or_false, setI_d, setJ_d, setP_d, mI_row, mJ_row, mP_row, mI_row_ne, mJ_row_ne, mP_row_ne, rowI_rowI, rowJ_rowJ, rowI_sort, rowJ_sort, rowJ_rowI, rowP_rowI, rowP_rowJ, fu_app, fu_fu, mI_rowJ, mI_rowP, mJ_rowI, mJ_rowP, mP_rowI, mP_rowJ, mK_rowI, mN_rowI, mK_rowJ, mN_rowJ, mK_rowP, mN_rowP, oB_rowI, oB_rowJ, iA_rowI, iA_rowJ, iR_rowI, iR_rowJ, St_rowI, St_rowJ]
        cases hx : pTies B n (bP q) (nxT B n b) with
        | inl v =>
          obtain ⟨e, p⟩ := v
          rw [QTm_i hx] at hq
          rw [hx] at hp
          exact Jx _ _ _ _ hp (Hm_tr (GT_Hm G1) hq.1) hq.2
        | inr v =>
          obtain ⟨c, T⟩ := v
          rw [QTm_r hx] at hq
          rw [hx] at hp
          have hcb := pTies_b (b1n hT.2.1) hx
          exact J _ c s _ _ hp (Hm_tr (GT_Hm G1) hq.1) hq.2.1 (hq.2.2.1.trans g23) (by omega) (MC_C hq.2.2.2 (Nat.le_succ _) h20)
      · have w' := eq_false w2
        have x2 : ¬ wix B n b cwL = 2 := fun z => w2 (t2.mpr z)
        rw [if_neg x2] at hp
        simp (disch := omega) only [wcQ, wcX, wcG, wcL, wcS, w54_95, w54_110, w54_111, w54_113, toI, toJ, toI64, inb_T, inb_iZ, Int.toNat_natCast, cl_0, cl_1, cl_2, cl_3, cl_4, cl_5, cl_6, cl_7, cl_8, cl_9, cl_10, cl_11, cl_12, cl_13, cl_14, cl_15, cl_16, cl_17, cl_18, cl_19, cl_20, cl_21, cl_22, cl_23, cl_24, cl_25, cl_26, cl_27, cl_28, cl_29, cl_30, cl_31, cl_32, cl_36, cl_40, cl_48, cl_60, cl_108, cl_120, cl_200, cl_201, cl_576, cl_600, cl_864, cl_900, cl_960, cl_5400, cl_8040, j2_0, iN_iZ, iN_lit0, iZ_add, iZ_sub, iZ_mul, iZ_neg, jZ_add, jZ_sub, jZ_mul, jZ_neg, isB0, isB1, isBZ, eq0, eq1, bZ0, vI_, vJ_, vA_, rI_, rJ_, rA_, rV_, nX_, tX_, true_and, and_true, false_and, and_false, and_self, implies_true, forall_const, not_true_eq_false, not_false_eq_true, false_implies, true_implies, ↓reduceIte, Nat.reduceEqDiff, Int.reduceToNat, Int.reduceAdd, Int.reduceSub, Int.reduceLT, Int.reduceLE, Int.reduceEq, Int.add_zero, Int.neg_zero, Int.add_sub_cancel, Int.reduceNeg, Nat.reduceLeDiff, Nat.reduceSub, true_or, or_true, false_or, or_false, setI_d, setJ_d, setP_d, mI_row, mJ_row, mP_row, mI_row_ne, mJ_row_ne, mP_row_ne, rowI_rowI, rowJ_rowJ, rowI_sort, rowJ_sort, rowJ_rowI, rowP_rowI, rowP_rowJ, fu_app, fu_fu, mI_rowJ, mI_rowP, mJ_rowI, mJ_rowP, mP_rowI, mP_rowJ, mK_rowI, mN_rowI, mK_rowJ, mN_rowJ, mK_rowP, mN_rowP, oB_rowI, oB_rowJ, iA_rowI, iA_rowJ, iR_rowI, iR_rowJ, St_rowI, St_rowJ, w', O154 hS, h1730]
        refine kI0 (e 17 (by decide)) ?_
        by_cases w3 : twd B n b 17
        · have w' := eq_true w3
          have x3 := t3.mp w3
          rw [if_pos x3] at hp
          simp (disch := omega) only [wcQ, wcX, wcG, wcL, wcS, w54_116, w54_119, w54_120, toI, toJ, toI64, inb_T, inb_iZ, Int.toNat_natCast, cl_0, cl_1, cl_2, cl_3, cl_4, cl_5, cl_6, cl_7, cl_8, cl_9, cl_10, cl_11, cl_12, cl_13, cl_14, cl_15, cl_16, cl_17, cl_18, cl_19, cl_20, cl_21, cl_22, cl_23, cl_24, cl_25, cl_26, cl_27, cl_28, cl_29, cl_30, cl_31, cl_32, cl_36, cl_40, cl_48, cl_60, cl_108, cl_120, cl_200, cl_201, cl_576, cl_600, cl_864, cl_900, cl_960, cl_5400, cl_8040, j2_0, iN_iZ, iN_lit0, iZ_add, iZ_sub, iZ_mul, iZ_neg, jZ_add, jZ_sub, jZ_mul, jZ_neg, isB0, isB1, isBZ, eq0, eq1, bZ0, vI_, vJ_, vA_, rI_, rJ_, rA_, rV_, nX_, tX_, true_and, and_true, false_and, and_false, and_self, implies_true, forall_const, not_true_eq_false, not_false_eq_true, false_implies, true_implies, ↓reduceIte, Nat.reduceEqDiff, Int.reduceToNat, Int.reduceAdd, Int.reduceSub, Int.reduceLT, Int.reduceLE, Int.reduceEq, Int.add_zero, Int.neg_zero, Int.add_sub_cancel, Int.reduceNeg, Nat.reduceLeDiff, Nat.reduceSub, true_or, or_true, false_or, or_false, setI_d, setJ_d, setP_d, mI_row, mJ_row, mP_row, mI_row_ne, mJ_row_ne, mP_row_ne, rowI_rowI, rowJ_rowJ, rowI_sort, rowJ_sort, rowJ_rowI, rowP_rowI, rowP_rowJ, fu_app, fu_fu, mI_rowJ, mI_rowP, mJ_rowI, mJ_rowP, mP_rowI, mP_rowJ, mK_rowI, mN_rowI, mK_rowJ, mN_rowJ, mK_rowP, mN_rowP, oB_rowI, oB_rowJ, iA_rowI, iA_rowJ, iR_rowI, iR_rowJ, St_rowI, St_rowJ, w', O154 hS]
          refine kV en (Nat.le_refl _) (fun M1 hq => ?_) (fun e M' h => False.elim h)
          obtain ⟨G1, T1⟩ := hq
          have S1 := GT_S G1 hS
          have C1 := MC_GT hC G1
          have g23 : mI M1 154 23 = iZ s := by rw [GT_23 G1]; exact h23
          simp (disch := omega) only [wcQ, wcX, wcG, wcL, wcS, w54_123, w54_124, w54_127, w54_128, w54_129, w54_130, w54_132, toI, toJ, toI64, inb_T, inb_iZ, Int.toNat_natCast, cl_0, cl_1, cl_2, cl_3, cl_4, cl_5, cl_6, cl_7, cl_8, cl_9, cl_10, cl_11, cl_12, cl_13, cl_14, cl_15, cl_16, cl_17, cl_18, cl_19, cl_20, cl_21, cl_22, cl_23, cl_24, cl_25, cl_26, cl_27, cl_28, cl_29, cl_30, cl_31, cl_32, cl_36, cl_40, cl_48, cl_60, cl_108, cl_120, cl_200, cl_201, cl_576, cl_600, cl_864, cl_900, cl_960, cl_5400, cl_8040, j2_0, iN_iZ, iN_lit0, iZ_add, iZ_sub, iZ_mul, iZ_neg, jZ_add, jZ_sub, jZ_mul, jZ_neg, isB0, isB1, isBZ, eq0, eq1, bZ0, vI_, vJ_, vA_, rI_, rJ_, rA_, rV_, nX_, tX_, true_and, and_true, false_and, and_false, and_self, implies_true, forall_const, not_true_eq_false, not_false_eq_true, false_implies, true_implies, ↓reduceIte, Nat.reduceEqDiff, Int.reduceToNat, Int.reduceAdd, Int.reduceSub, Int.reduceLT, Int.reduceLE, Int.reduceEq, Int.add_zero, Int.neg_zero, Int.add_sub_cancel, Int.reduceNeg, Nat.reduceLeDiff, Nat.reduceSub, true_or, or_true, false_or, or_false, setI_d, setJ_d, setP_d, mI_row, mJ_row, mP_row, mI_row_ne, mJ_row_ne, mP_row_ne, rowI_rowI, rowJ_rowJ, rowI_sort, rowJ_sort, rowJ_rowI, rowP_rowI, rowP_rowJ, fu_app, fu_fu, mI_rowJ, mI_rowP, mJ_rowI, mJ_rowP, mP_rowI, mP_rowJ, mK_rowI, mN_rowI, mK_rowJ, mN_rowJ, mK_rowP, mN_rowP, oB_rowI, oB_rowJ, iA_rowI, iA_rowJ, iR_rowI, iR_rowJ, St_rowI, St_rowJ, K154 S1, O154 S1, P154_37 S1, K174 S1, O174 S1, A174 S1]
          refine kI (c37 (G := G) (d := d + 44) (lo := 1) (hi := 20) hst S1 T1 (by decide) (by decide)) (Nat.le_refl _) (fun v M2 hq => ?_) (fun e M' h => False.elim h)
          obtain ⟨G2, hq⟩ := hq
          have S2 := GT_S G2 S1
          have C2 := MC_GT C1 G2
          have H2 : Hm M M2 r := Hm_tr (GT_Hm G1) (GT_Hm G2)
          simp (disch := omega) only [wcQ, wcX, wcG, wcL, wcS, w54_135, w54_136, toI, toJ, toI64, inb_T, inb_iZ, Int.toNat_natCast, cl_0, cl_1, cl_2, cl_3, cl_4, cl_5, cl_6, cl_7, cl_8, cl_9, cl_10, cl_11, cl_12, cl_13, cl_14, cl_15, cl_16, cl_17, cl_18, cl_19, cl_20, cl_21, cl_22, cl_23, cl_24, cl_25, cl_26, cl_27, cl_28, cl_29, cl_30, cl_31, cl_32, cl_36, cl_40, cl_48, cl_60, cl_108, cl_120, cl_200, cl_201, cl_576, cl_600, cl_864, cl_900, cl_960, cl_5400, cl_8040, j2_0, iN_iZ, iN_lit0, iZ_add, iZ_sub, iZ_mul, iZ_neg, jZ_add, jZ_sub, jZ_mul, jZ_neg, isB0, isB1, isBZ, eq0, eq1, bZ0, vI_, vJ_, vA_, rI_, rJ_, rA_, rV_, nX_, tX_, true_and, and_true, false_and, and_false, and_self, implies_true, forall_const, not_true_eq_false, not_false_eq_true, false_implies, true_implies, ↓reduceIte, Nat.reduceEqDiff, Int.reduceToNat, Int.reduceAdd, Int.reduceSub, Int.reduceLT, Int.reduceLE, Int.reduceEq, Int.add_zero, Int.neg_zero, Int.add_sub_cancel, Int.reduceNeg, Nat.reduceLeDiff, Nat.reduceSub, true_or, or_true, false_or, or_false, setI_d, setJ_d, setP_d, mI_row, mJ_row, mP_row, mI_row_ne, mJ_row_ne, mP_row_ne, rowI_rowI, rowJ_rowJ, rowI_sort, rowJ_sort, rowJ_rowI, rowP_rowI, rowP_rowJ, fu_app, fu_fu, mI_rowJ, mI_rowP, mJ_rowI, mJ_rowP, mP_rowI, mP_rowJ, mK_rowI, mN_rowI, mK_rowJ, mN_rowJ, mK_rowP, mN_rowP, oB_rowI, oB_rowJ, iA_rowI, iA_rowJ, iR_rowI, iR_rowJ, St_rowI, St_rowJ, K174 S2, O174 S2, A174 S2]
          have HR : Hm M2 (rowI M2 174 (fu (mI M2 174) r v)) r := Hm_row (c := 174) (by decide) (by decide) (fun j hj => by rw [show bW 174 = 1 from rfl] at hj; exact if_neg (by omega))
          rcases hq with ⟨ht, hv, T2⟩ | ⟨ht, X2⟩
          · rw [ht, if_neg (by omega)] at hp
            refine J _ (nxT B n (nxT B n b)) s _ _ hp (Hm_tr H2 HR) (TM_row (by decide) (by decide) T2) (by rw [mI_row_ne (by decide), GT_23 G2]; exact g23) ?_ (MC_C (MC_setB C2 (fun c c1 c2 c3 => mI_row_ne c3) (by rw [mI_row, hv]; exact if_pos rfl)) (Nat.le_succ _) h20)
            have := nxT_b (B := B) (n := n) (b := nxT B n b)
            omega
          · rw [if_pos ht] at hp
            refine Jx _ _ _ _ hp (Hm_tr H2 HR) ?_
            unfold XM at *
            rw [mI_row_ne (by decide)]
            exact X2
        · have w' := eq_false w3
          have x3 : ¬ wix B n b cwL = 3 := fun z => w3 (t3.mpr z)
          rw [if_neg x3] at hp
          simp (disch := omega) only [wcQ, wcX, wcG, wcL, wcS, w54_116, w54_139, w54_140, toI, toJ, toI64, inb_T, inb_iZ, Int.toNat_natCast, cl_0, cl_1, cl_2, cl_3, cl_4, cl_5, cl_6, cl_7, cl_8, cl_9, cl_10, cl_11, cl_12, cl_13, cl_14, cl_15, cl_16, cl_17, cl_18, cl_19, cl_20, cl_21, cl_22, cl_23, cl_24, cl_25, cl_26, cl_27, cl_28, cl_29, cl_30, cl_31, cl_32, cl_36, cl_40, cl_48, cl_60, cl_108, cl_120, cl_200, cl_201, cl_576, cl_600, cl_864, cl_900, cl_960, cl_5400, cl_8040, j2_0, iN_iZ, iN_lit0, iZ_add, iZ_sub, iZ_mul, iZ_neg, jZ_add, jZ_sub, jZ_mul, jZ_neg, isB0, isB1, isBZ, eq0, eq1, bZ0, vI_, vJ_, vA_, rI_, rJ_, rA_, rV_, nX_, tX_, true_and, and_true, false_and, and_false, and_self, implies_true, forall_const, not_true_eq_false, not_false_eq_true, false_implies, true_implies, ↓reduceIte, Nat.reduceEqDiff, Int.reduceToNat, Int.reduceAdd, Int.reduceSub, Int.reduceLT, Int.reduceLE, Int.reduceEq, Int.add_zero, Int.neg_zero, Int.add_sub_cancel, Int.reduceNeg, Nat.reduceLeDiff, Nat.reduceSub, true_or, or_true, false_or, or_false, setI_d, setJ_d, setP_d, mI_row, mJ_row, mP_row, mI_row_ne, mJ_row_ne, mP_row_ne, rowI_rowI, rowJ_rowJ, rowI_sort, rowJ_sort, rowJ_rowI, rowP_rowI, rowP_rowJ, fu_app, fu_fu, mI_rowJ, mI_rowP, mJ_rowI, mJ_rowP, mP_rowI, mP_rowJ, mK_rowI, mN_rowI, mK_rowJ, mN_rowJ, mK_rowP, mN_rowP, oB_rowI, oB_rowJ, iA_rowI, iA_rowJ, iR_rowI, iR_rowJ, St_rowI, St_rowJ, w', O154 hS]
          refine kV en (Nat.le_refl _) (fun M1 hq => ?_) (fun e M' h => False.elim h)
          obtain ⟨G1, T1⟩ := hq
          have S1 := GT_S G1 hS
          have C1 := MC_GT hC G1
          have g23 : mI M1 154 23 = iZ s := by rw [GT_23 G1]; exact h23
          simp (disch := omega) only [wcQ, wcX, wcG, wcL, wcS, w54_143, w54_144, w54_147, w54_148, w54_149, w54_150, w54_153, toI, toJ, toI64, inb_T, inb_iZ, Int.toNat_natCast, cl_0, cl_1, cl_2, cl_3, cl_4, cl_5, cl_6, cl_7, cl_8, cl_9, cl_10, cl_11, cl_12, cl_13, cl_14, cl_15, cl_16, cl_17, cl_18, cl_19, cl_20, cl_21, cl_22, cl_23, cl_24, cl_25, cl_26, cl_27, cl_28, cl_29, cl_30, cl_31, cl_32, cl_36, cl_40, cl_48, cl_60, cl_108, cl_120, cl_200, cl_201, cl_576, cl_600, cl_864, cl_900, cl_960, cl_5400, cl_8040, j2_0, iN_iZ, iN_lit0, iZ_add, iZ_sub, iZ_mul, iZ_neg, jZ_add, jZ_sub, jZ_mul, jZ_neg, isB0, isB1, isBZ, eq0, eq1, bZ0, vI_, vJ_, vA_, rI_, rJ_, rA_, rV_, nX_, tX_, true_and, and_true, false_and, and_false, and_self, implies_true, forall_const, not_true_eq_false, not_false_eq_true, false_implies, true_implies, ↓reduceIte, Nat.reduceEqDiff, Int.reduceToNat, Int.reduceAdd, Int.reduceSub, Int.reduceLT, Int.reduceLE, Int.reduceEq, Int.add_zero, Int.neg_zero, Int.add_sub_cancel, Int.reduceNeg, Nat.reduceLeDiff, Nat.reduceSub, true_or, or_true, false_or, or_false, setI_d, setJ_d, setP_d, mI_row, mJ_row, mP_row, mI_row_ne, mJ_row_ne, mP_row_ne, rowI_rowI, rowJ_rowJ, rowI_sort, rowJ_sort, rowJ_rowI, rowP_rowI, rowP_rowJ, fu_app, fu_fu, mI_rowJ, mI_rowP, mJ_rowI, mJ_rowP, mP_rowI, mP_rowJ, mK_rowI, mN_rowI, mK_rowJ, mN_rowJ, mK_rowP, mN_rowP, oB_rowI, oB_rowJ, iA_rowI, iA_rowJ, iR_rowI, iR_rowJ, St_rowI, St_rowJ, K154 S1, O154 S1, P154_38 S1, K175 S1, O175 S1, A175 S1]
          refine kI (c37 (G := G) (d := d + 44) (lo := 1) (hi := 9999) hst S1 T1 (by decide) (by decide)) (Nat.le_refl _) (fun v M2 hq => ?_) (fun e M' h => False.elim h)
          obtain ⟨G2, hq⟩ := hq
          have S2 := GT_S G2 S1
          have C2 := MC_GT C1 G2
          have H2 : Hm M M2 r := Hm_tr (GT_Hm G1) (GT_Hm G2)
          simp (disch := omega) only [wcQ, wcX, wcG, wcL, wcS, w54_156, toI, toJ, toI64, inb_T, inb_iZ, Int.toNat_natCast, cl_0, cl_1, cl_2, cl_3, cl_4, cl_5, cl_6, cl_7, cl_8, cl_9, cl_10, cl_11, cl_12, cl_13, cl_14, cl_15, cl_16, cl_17, cl_18, cl_19, cl_20, cl_21, cl_22, cl_23, cl_24, cl_25, cl_26, cl_27, cl_28, cl_29, cl_30, cl_31, cl_32, cl_36, cl_40, cl_48, cl_60, cl_108, cl_120, cl_200, cl_201, cl_576, cl_600, cl_864, cl_900, cl_960, cl_5400, cl_8040, j2_0, iN_iZ, iN_lit0, iZ_add, iZ_sub, iZ_mul, iZ_neg, jZ_add, jZ_sub, jZ_mul, jZ_neg, isB0, isB1, isBZ, eq0, eq1, bZ0, vI_, vJ_, vA_, rI_, rJ_, rA_, rV_, nX_, tX_, true_and, and_true, false_and, and_false, and_self, implies_true, forall_const, not_true_eq_false, not_false_eq_true, false_implies, true_implies, ↓reduceIte, Nat.reduceEqDiff, Int.reduceToNat, Int.reduceAdd, Int.reduceSub, Int.reduceLT, Int.reduceLE, Int.reduceEq, Int.add_zero, Int.neg_zero, Int.add_sub_cancel, Int.reduceNeg, Nat.reduceLeDiff, Nat.reduceSub, true_or, or_true, false_or, or_false, setI_d, setJ_d, setP_d, mI_row, mJ_row, mP_row, mI_row_ne, mJ_row_ne, mP_row_ne, rowI_rowI, rowJ_rowJ, rowI_sort, rowJ_sort, rowJ_rowI, rowP_rowI, rowP_rowJ, fu_app, fu_fu, mI_rowJ, mI_rowP, mJ_rowI, mJ_rowP, mP_rowI, mP_rowJ, mK_rowI, mN_rowI, mK_rowJ, mN_rowJ, mK_rowP, mN_rowP, oB_rowI, oB_rowJ, iA_rowI, iA_rowJ, iR_rowI, iR_rowJ, St_rowI, St_rowJ, K175 S2, O175 S2, A175 S2]
          have HR : Hm M2 (rowI M2 175 (fu (mI M2 175) r v)) r := Hm_row (c := 175) (by decide) (by decide) (fun j hj => by rw [show bW 175 = 1 from rfl] at hj; exact if_neg (by omega))
          rcases hq with ⟨ht, hv, T2⟩ | ⟨ht, X2⟩
          · rw [ht, if_neg (by omega)] at hp
            refine J _ (nxT B n (nxT B n b)) s _ _ hp (Hm_tr H2 HR) (TM_row (by decide) (by decide) T2) (by rw [mI_row_ne (by decide), GT_23 G2]; exact g23) ?_ (MC_C (MC_setL C2 (fun c c1 c2 c3 => mI_row_ne c3) (by rw [mI_row, hv]; exact if_pos rfl)) (Nat.le_succ _) h20)
            have := nxT_b (B := B) (n := n) (b := nxT B n b)
            omega
          · rw [if_pos ht] at hp
            refine Jx _ _ _ _ hp (Hm_tr H2 HR) ?_
            unfold XM at *
            rw [mI_row_ne (by decide)]
            exact X2
end

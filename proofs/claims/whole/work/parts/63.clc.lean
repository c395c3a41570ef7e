/-! RULES: clauses; the class's side. -/
section
variable {G : GE} {d : Nat} {M M' M'' : Mem} {B : Nat → Nat} {n b k s : Nat} {q : Bk}
theorem QB_tr {r : BR} {v : Int32} (h : Fm M M' k) (h' : QB M' B n k r v M'') : QB M B n k r v M'' := ⟨Fm_tr h h'.1, h'.2⟩
theorem Fm_fe {e p s' : Nat} {w : Nat → Int32} (hk : 222 ≤ k) : Fm M (feM M B n (k + 7) (k + 10) e p s' w) k :=
  Fm_tr (Fm_tr (Fm_91 (by unfold tR fu; simp) (by unfold tR fu; simp)) (Fm_I (by omega) (by omega) hk)) (Fm_I (by omega) (by omega) hk)
theorem Fm_fs {c s' : Nat} {w : Nat → Int32} (hk : 222 ≤ k) : Fm M (fsM M B n (k + 7) (k + 10) c s' w) k :=
  Fm_tr (Fm_tr (Fm_91 (by unfold tR fu; simp) (by unfold tR fu; simp)) (Fm_I (by omega) (by omega) hk)) (Fm_I (by omega) (by omega) hk)
theorem fe_I {c e p s' : Nat} {w : Nat → Int32} (h1 : c ≠ 91) (h2 : c ≠ k + 7) (h3 : c ≠ k + 10) : mI (feM M B n (k + 7) (k + 10) e p s' w) c = mI M c := by
  unfold feM; rw [mI_row_ne h3, mI_row_ne h2, mI_row_ne h1]
theorem fs_I {c c' s' : Nat} {w : Nat → Int32} (h1 : c ≠ 91) (h2 : c ≠ k + 7) (h3 : c ≠ k + 10) : mI (fsM M B n (k + 7) (k + 10) c' s' w) c = mI M c := by
  unfold fsM; rw [mI_row_ne h3, mI_row_ne h2, mI_row_ne h1]
theorem fe_2 {e p s' : Nat} {w : Nat → Int32} (hk : 222 ≤ k) : mI (feM M B n (k + 7) (k + 10) e p s' w) 91 2 = iZ e := by
  unfold feM; rw [mI_row_ne (by omega), mI_row_ne (by omega), mI_row]; unfold fu; simp
theorem fe_3 {e p s' : Nat} {w : Nat → Int32} (hk : 222 ≤ k) : mI (feM M B n (k + 7) (k + 10) e p s' w) 91 3 = iZ p := by
  unfold feM; rw [mI_row_ne (by omega), mI_row_ne (by omega), mI_row]; unfold fu; simp
def bkC (q : Bk) (C : Nat) : Bk := (bP q, bF q, bO q, bT q, bB q, bL q, C)
theorem BC_C (h : BC M k s q) (hk : 222 ≤ k) (hC : bC q < 20) : BC (rowI M k (fu (mI M k) 11 (iZ ((bC q + 1 : Nat) : Int)))) k s (bkC q (bC q + 1)) := by
  obtain ⟨P, F, O, T, bb, ll, C⟩ := q
  obtain ⟨a, b', ⟨c1, c2, c3⟩, d, e1, e2, e3, e4⟩ := h
  simp only [bC] at hC c2 ⊢
  have hk : ∀ j, j ≠ 11 → mI (rowI M k (fu (mI M k) 11 (iZ ((C + 1 : Nat) : Int)))) k j = mI M k j := fun j hj => by rw [mI_row]; exact if_neg hj
  have hI : ∀ c, 0 < c → mI (rowI M k (fu (mI M k) 11 (iZ ((C + 1 : Nat) : Int)))) (k + c) = mI M (k + c) := fun c hc => mI_row_ne (by omega)
  unfold BC CL at *
  simp only [mJ_rowI]
  rw [hk 0 (by decide), hk 10 (by decide), hk 3 (by decide), hk 5 (by decide), hk 7 (by decide), hk 8 (by decide), hI 1 (by decide), hI 2 (by decide), hI 3 (by decide), hI 4 (by decide), hI 7 (by decide), hI 10 (by decide)]
  refine ⟨a, b', ⟨c1, ?_, c3⟩, d, e1, e2, ⟨?_, ?_⟩, e4⟩
  · show (bO (P, F, O, T, bb, ll, C)).length ≤ C + 1; omega
  · rw [mI_row]; exact if_pos rfl
  · show C + 1 ≤ 20; omega
theorem cw_am (hst : (gl G).stackTraces = false) (hS : Static M) (hT : TC M B n b) : Ev G (d + 5) 128 [aR (some 91), aR (some 3)] M 0 (vI (iZ (wix B n b cwL)) M) nX := by
  have e := c128 (G := G) (d := d) (M := M) (B := B) (n := n) (b := b) (a := 3) hst hS (by decide) hT
  rw [str_ok.2.1, show jn [sTxt 13, sTxt 15, sTxt 16, sTxt 17, sTxt 18] = jn cwL from rfl, show am B b (te B n b) (jn cwL) 0 b true = wi B b (te B n b) cwL 0 from am_L (fun y hy => by
    simp only [List.mem_cons, List.not_mem_nil, or_false] at hy
    rcases hy with h | h | h | h | h <;> exact ⟨_, by decide, by decide, h⟩)] at e
  exact e
theorem cw_b {b : Nat} : -1 ≤ wix B n b cwL ∧ wix B n b cwL < 5 := by
  unfold wix
  split
  · have := wi_b (B := B) (s := b) (e := te B n b) cwL 0
    simpa [cwL] using this
  · omega
theorem c157_0 (hst : (gl G).stackTraces = false) (hS : Static M) (hT : TC M B n b) (hB : BK M k n) (hC : BC M k s q) (hs : s < b) (h10 : (bF q).length < 10) {Q : QR} {x : AV} {m : Nat}
    (hQ : ∀ v M', QB M B n k (if nnE B n b (gN (bF q)) (bF q).length ≠ 0 then .inl (nnE B n b (gN (bF q)) (bF q).length, b)
     else if ¬ twd B n (nxT B n b) 14 then .inl (1, nxT B n b)
     else pExS B n (nxT B n (nxT B n b)) (fun l => (bP q, bF q ++ [((nc B b (tl B n b) : Int), l)], q.2.2))) v M' → Q (some (aI v)) M') :
    wp (WCo G (d + 51) 157 Q nX) 157 (m + 500) 92 [aR (some k), aR (some 91), x] [] M 0 := by
  have n6 := hT.1.1
  obtain ⟨k1, k2, _⟩ := id hB
  have nb := nxT_b (B := B) (n := n) (b := b)
  have nb' := nxT_b (B := B) (n := n) (b := nxT B n b)
  have e1 := c142 (G := G) (d := d + 43) hst hS hT hB hC h10
  simp (disch := omega) only [wcQ, wcX, wcG, wcL, wcS, w157_92, w157_93, w157_94, toI, toJ, toI64, inb_T, inb_iZ, Int.toNat_natCast, cl_0, cl_1, cl_2, cl_3, cl_4, cl_5, cl_6, cl_7, cl_8, cl_9, cl_10, cl_11, cl_12, cl_13, cl_14, cl_15, cl_16, cl_17, cl_18, cl_19, cl_20, cl_21, cl_22, cl_23, cl_24, cl_25, cl_26, cl_27, cl_28, cl_29, cl_30, cl_31, cl_32, cl_36, cl_40, cl_48, cl_60, cl_108, cl_120, cl_200, cl_201, cl_576, cl_600, cl_864, cl_900, cl_960, cl_5400, cl_8040, j2_0, iN_iZ, iN_lit0, iZ_add, iZ_sub, iZ_mul, iZ_neg, jZ_add, jZ_sub, jZ_mul, jZ_neg, isB0, isB1, isBZ, eq0, eq1, bZ0, vI_, vJ_, vA_, rI_, rJ_, rA_, rV_, nX_, tX_, true_and, and_true, false_and, and_false, and_self, implies_true, forall_const, not_true_eq_false, not_false_eq_true, false_implies, true_implies, ↓reduceIte, Nat.reduceEqDiff, Int.reduceToNat, Int.reduceAdd, Int.reduceSub, Int.reduceLT, Int.reduceLE, Int.reduceEq, Int.add_zero, Int.neg_zero, Int.add_sub_cancel, Int.reduceNeg, Nat.reduceLeDiff, Nat.reduceSub, true_or, or_true, false_or, or_false, setI_d, setJ_d, setP_d, mI_row, mJ_row, mP_row, mI_row_ne, mJ_row_ne, mP_row_ne, rowI_rowI, rowJ_rowJ, rowI_sort, rowJ_sort, rowJ_rowI, rowP_rowI, rowP_rowJ, fu_app, fu_fu, mI_rowJ, mI_rowP, mJ_rowI, mJ_rowP, mP_rowI, mP_rowJ, mK_rowI, mN_rowI, mK_rowJ, mN_rowJ, mK_rowP, mN_rowP, oB_rowI, oB_rowJ, iA_rowI, iA_rowJ, iR_rowI, iR_rowJ, St_rowI, St_rowJ, bk_o hB, O91 hS]
  refine kI e1 (Nat.le_refl _) (fun v M1 hq => ?_) (fun e M' h => False.elim h)
  obtain ⟨F1, hq⟩ := hq
  rcases hq with ⟨e, p, hr, rfl, g2, g3⟩ | ⟨hr, rfl, T1, J6, J5, I1⟩
  · simp (disch := omega) only [wcQ, wcX, wcG, wcL, wcS, w157_97, w157_128, w157_129, toI, toJ, toI64, inb_T, inb_iZ, Int.toNat_natCast, cl_0, cl_1, cl_2, cl_3, cl_4, cl_5, cl_6, cl_7, cl_8, cl_9, cl_10, cl_11, cl_12, cl_13, cl_14, cl_15, cl_16, cl_17, cl_18, cl_19, cl_20, cl_21, cl_22, cl_23, cl_24, cl_25, cl_26, cl_27, cl_28, cl_29, cl_30, cl_31, cl_32, cl_36, cl_40, cl_48, cl_60, cl_108, cl_120, cl_200, cl_201, cl_576, cl_600, cl_864, cl_900, cl_960, cl_5400, cl_8040, j2_0, iN_iZ, iN_lit0, iZ_add, iZ_sub, iZ_mul, iZ_neg, jZ_add, jZ_sub, jZ_mul, jZ_neg, isB0, isB1, isBZ, eq0, eq1, bZ0, vI_, vJ_, vA_, rI_, rJ_, rA_, rV_, nX_, tX_, true_and, and_true, false_and, and_false, and_self, implies_true, forall_const, not_true_eq_false, not_false_eq_true, false_implies, true_implies, ↓reduceIte, Nat.reduceEqDiff, Int.reduceToNat, Int.reduceAdd, Int.reduceSub, Int.reduceLT, Int.reduceLE, Int.reduceEq, Int.add_zero, Int.neg_zero, Int.add_sub_cancel, Int.reduceNeg, Nat.reduceLeDiff, Nat.reduceSub, true_or, or_true, false_or, or_false, setI_d, setJ_d, setP_d, mI_row, mJ_row, mP_row, mI_row_ne, mJ_row_ne, mP_row_ne, rowI_rowI, rowJ_rowJ, rowI_sort, rowJ_sort, rowJ_rowI, rowP_rowI, rowP_rowJ, fu_app, fu_fu, mI_rowJ, mI_rowP, mJ_rowI, mJ_rowP, mP_rowI, mP_rowJ, mK_rowI, mN_rowI, mK_rowJ, mN_rowJ, mK_rowP, mN_rowP, oB_rowI, oB_rowJ, iA_rowI, iA_rowJ, iR_rowI, iR_rowJ, St_rowI, St_rowJ]
    apply hQ
    unfold fnE at hr
    by_cases z : nnE B n b (gN (bF q)) (bF q).length ≠ 0
    · rw [if_pos z] at hr
      rw [if_pos z, QB_i rfl]
      have h1 := congrArg Prod.fst hr
      have h2 := congrArg Prod.snd hr
      simp only at h1 h2
      rw [h1, h2]
      exact ⟨F1, rfl, g2, g3⟩
    · rw [if_neg z] at hr
      rw [if_neg z]
      by_cases y : ¬ twd B n (nxT B n b) 14
      · rw [if_pos y] at hr
        rw [if_pos y, QB_i rfl]
        have h1 := congrArg Prod.fst hr
        have h2 := congrArg Prod.snd hr
        simp only at h1 h2
        rw [h1, h2]
        exact ⟨F1, rfl, g2, g3⟩
      · rw [if_neg y] at hr
        have h1 := congrArg Prod.fst hr
        simp at h1
  · unfold fnE at hr
    by_cases z : nnE B n b (gN (bF q)) (bF q).length ≠ 0
    · rw [if_pos z] at hr; exact absurd hr z
    · rw [if_neg z] at hr hQ
      by_cases y : ¬ twd B n (nxT B n b) 14
      · rw [if_pos y] at hr; simp at hr
      · rw [if_neg y] at hQ
        have hw := Classical.not_not.mp y
        obtain ⟨nm1, nm2, _⟩ := nn_0 (Classical.not_not.mp z)
        have nmb := nc_12 (B := B) (n := n) (b := b) nm1.1 nm2
        have bn := tk_lt (B := B) (n := n) (b := b) (by have := nm1.1; omega)
        have bn' := tk_lt (B := B) (n := n) (b := nxT B n b) (by have := hw.1; omega)
        have S1 := Fm_Static F1 hS
        have B1 := Fm_BK F1 hB
        have hsz : mI M1 (k + 7) 2 = iZ s := by rw [I1 (k + 7) (by omega)]; exact hC.2.2.2.2.2.2.2
        have hf0 : mI M1 k 10 = iZ (bF q).length := by rw [I1 k (by omega)]; exact hC.2.1.1
        have FC1 := bk_F B1 hsz
        have e2 := c151 (G := G) (d := d) (b := nxT B n (nxT B n b)) hst S1 T1 FC1 (by omega)
        generalize hc0 : nxT B n (nxT B n b) = c0 at *
        simp (disch := omega) only [wcQ, wcX, wcG, wcL, wcS, w157_97, w157_100, w157_101, w157_102, w157_105, w157_106, toI, toJ, toI64, inb_T, inb_iZ, Int.toNat_natCast, cl_0, cl_1, cl_2, cl_3, cl_4, cl_5, cl_6, cl_7, cl_8, cl_9, cl_10, cl_11, cl_12, cl_13, cl_14, cl_15, cl_16, cl_17, cl_18, cl_19, cl_20, cl_21, cl_22, cl_23, cl_24, cl_25, cl_26, cl_27, cl_28, cl_29, cl_30, cl_31, cl_32, cl_36, cl_40, cl_48, cl_60, cl_108, cl_120, cl_200, cl_201, cl_576, cl_600, cl_864, cl_900, cl_960, cl_5400, cl_8040, j2_0, iN_iZ, iN_lit0, iZ_add, iZ_sub, iZ_mul, iZ_neg, jZ_add, jZ_sub, jZ_mul, jZ_neg, isB0, isB1, isBZ, eq0, eq1, bZ0, vI_, vJ_, vA_, rI_, rJ_, rA_, rV_, nX_, tX_, true_and, and_true, false_and, and_false, and_self, implies_true, forall_const, not_true_eq_false, not_false_eq_true, false_implies, true_implies, ↓reduceIte, Nat.reduceEqDiff, Int.reduceToNat, Int.reduceAdd, Int.reduceSub, Int.reduceLT, Int.reduceLE, Int.reduceEq, Int.add_zero, Int.neg_zero, Int.add_sub_cancel, Int.reduceNeg, Nat.reduceLeDiff, Nat.reduceSub, true_or, or_true, false_or, or_false, setI_d, setJ_d, setP_d, mI_row, mJ_row, mP_row, mI_row_ne, mJ_row_ne, mP_row_ne, rowI_rowI, rowJ_rowJ, rowI_sort, rowJ_sort, rowJ_rowI, rowP_rowI, rowP_rowJ, fu_app, fu_fu, mI_rowJ, mI_rowP, mJ_rowI, mJ_rowP, mP_rowI, mP_rowJ, mK_rowI, mN_rowI, mK_rowJ, mN_rowJ, mK_rowP, mN_rowP, oB_rowI, oB_rowJ, iA_rowI, iA_rowJ, iR_rowI, iR_rowJ, St_rowI, St_rowJ, bk_o B1, bk_p9 B1, bk_o7 B1, O91 S1]
        refine kI e2 (Nat.le_refl _) (fun v M2 hq => ?_) (fun e M' h => False.elim h)
        match hp : pEx B n 6 c0 with
        | .inl (e, p) =>
          rw [hp] at hq
          obtain ⟨rfl, s', w', rfl⟩ := hq
          have F2 : Fm M1 (feM M1 B n (k + 7) (k + 10) e p s' w') k := Fm_fe k1
          have B2 := Fm_BK F2 B1
          have e3 := c152 (G := G) (d := d + 50) (m := (bF q).length) (x := -1) hst B2 (by rw [fe_I (by omega) (by omega) (by omega)]; exact hf0) h10 (by decide) (by decide)
          simp (disch := omega) only [wcQ, wcX, wcG, wcL, wcS, w157_109, toI, toJ, toI64, inb_T, inb_iZ, Int.toNat_natCast, cl_0, cl_1, cl_2, cl_3, cl_4, cl_5, cl_6, cl_7, cl_8, cl_9, cl_10, cl_11, cl_12, cl_13, cl_14, cl_15, cl_16, cl_17, cl_18, cl_19, cl_20, cl_21, cl_22, cl_23, cl_24, cl_25, cl_26, cl_27, cl_28, cl_29, cl_30, cl_31, cl_32, cl_36, cl_40, cl_48, cl_60, cl_108, cl_120, cl_200, cl_201, cl_576, cl_600, cl_864, cl_900, cl_960, cl_5400, cl_8040, j2_0, iN_iZ, iN_lit0, iZ_add, iZ_sub, iZ_mul, iZ_neg, jZ_add, jZ_sub, jZ_mul, jZ_neg, isB0, isB1, isBZ, eq0, eq1, bZ0, vI_, vJ_, vA_, rI_, rJ_, rA_, rV_, nX_, tX_, true_and, and_true, false_and, and_false, and_self, implies_true, forall_const, not_true_eq_false, not_false_eq_true, false_implies, true_implies, ↓reduceIte, Nat.reduceEqDiff, Int.reduceToNat, Int.reduceAdd, Int.reduceSub, Int.reduceLT, Int.reduceLE, Int.reduceEq, Int.add_zero, Int.neg_zero, Int.add_sub_cancel, Int.reduceNeg, Nat.reduceLeDiff, Nat.reduceSub, true_or, or_true, false_or, or_false, setI_d, setJ_d, setP_d, mI_row, mJ_row, mP_row, mI_row_ne, mJ_row_ne, mP_row_ne, rowI_rowI, rowJ_rowJ, rowI_sort, rowJ_sort, rowJ_rowI, rowP_rowI, rowP_rowJ, fu_app, fu_fu, mI_rowJ, mI_rowP, mJ_rowI, mJ_rowP, mP_rowI, mP_rowJ, mK_rowI, mN_rowI, mK_rowJ, mN_rowJ, mK_rowP, mN_rowP, oB_rowI, oB_rowJ, iA_rowI, iA_rowJ, iR_rowI, iR_rowJ, St_rowI, St_rowJ, bk_o B2]
          refine kI e3 (Nat.le_refl _) (fun v M3 hq => ?_) (fun e M' h => False.elim h)
          obtain ⟨rfl, rfl⟩ := hq
          have hne : ((-1 : Int) ≠ -1) = False := eq_false (fun z => z rfl)
          simp (disch := omega) only [wcQ, wcX, wcG, wcL, wcS, w157_112, w157_128, w157_129, toI, toJ, toI64, inb_T, inb_iZ, Int.toNat_natCast, cl_0, cl_1, cl_2, cl_3, cl_4, cl_5, cl_6, cl_7, cl_8, cl_9, cl_10, cl_11, cl_12, cl_13, cl_14, cl_15, cl_16, cl_17, cl_18, cl_19, cl_20, cl_21, cl_22, cl_23, cl_24, cl_25, cl_26, cl_27, cl_28, cl_29, cl_30, cl_31, cl_32, cl_36, cl_40, cl_48, cl_60, cl_108, cl_120, cl_200, cl_201, cl_576, cl_600, cl_864, cl_900, cl_960, cl_5400, cl_8040, j2_0, iN_iZ, iN_lit0, iZ_add, iZ_sub, iZ_mul, iZ_neg, jZ_add, jZ_sub, jZ_mul, jZ_neg, isB0, isB1, isBZ, eq0, eq1, bZ0, vI_, vJ_, vA_, rI_, rJ_, rA_, rV_, nX_, tX_, true_and, and_true, false_and, and_false, and_self, implies_true, forall_const, not_true_eq_false, not_false_eq_true, false_implies, true_implies, ↓reduceIte, Nat.reduceEqDiff, Int.reduceToNat, Int.reduceAdd, Int.reduceSub, Int.reduceLT, Int.reduceLE, Int.reduceEq, Int.add_zero, Int.neg_zero, Int.add_sub_cancel, Int.reduceNeg, Nat.reduceLeDiff, Nat.reduceSub, true_or, or_true, false_or, or_false, setI_d, setJ_d, setP_d, mI_row, mJ_row, mP_row, mI_row_ne, mJ_row_ne, mP_row_ne, rowI_rowI, rowJ_rowJ, rowI_sort, rowJ_sort, rowJ_rowI, rowP_rowI, rowP_rowJ, fu_app, fu_fu, mI_rowJ, mI_rowP, mJ_rowI, mJ_rowP, mP_rowI, mP_rowJ, mK_rowI, mN_rowI, mK_rowJ, mN_rowJ, mK_rowP, mN_rowP, oB_rowI, oB_rowJ, iA_rowI, iA_rowJ, iR_rowI, iR_rowJ, St_rowI, St_rowJ, hne]
          apply hQ
          unfold pExS
          rw [hp, QB_i rfl]
          refine ⟨Fm_tr F1 (Fm_tr F2 (Fm_tr (Fm_I (by omega) (by omega) k1) (Fm_I (by omega) (by omega) k1))), rfl, ?_, ?_⟩
          · rw [mI_row_ne (by omega), mI_row_ne (by omega)]; exact fe_2 k1
          · rw [mI_row_ne (by omega), mI_row_ne (by omega)]; exact fe_3 k1
        | .inr (c, l) =>
          rw [hp] at hq
          obtain ⟨rfl, rfl⟩ := hq
          have lp := (LE_ex (B := B) (n := n) 6).1 _ _ _ T1.2.1 hp
          have F2 : Fm M1 (fsM M1 B n (k + 7) (k + 10) c (s + l.length + 1) (apL (mI M1 (k + 10)) s (l ++ [-1]))) k := Fm_fs k1
          have T2 : TC (fsM M1 B n (k + 7) (k + 10) c (s + l.length + 1) (apL (mI M1 (k + 10)) s (l ++ [-1]))) B n c := TC_fs T1 lp.2.1 (by omega) (by omega)
          have I2 : ∀ x, x ≠ 91 → x ≠ k + 7 → x ≠ k + 10 → mI (fsM M1 B n (k + 7) (k + 10) c (s + l.length + 1) (apL (mI M1 (k + 10)) s (l ++ [-1]))) x = mI M1 x := fun x => fs_I
          have I7 : mI (fsM M1 B n (k + 7) (k + 10) c (s + l.length + 1) (apL (mI M1 (k + 10)) s (l ++ [-1]))) (k + 7) 2 = iZ ((s + l.length + 1 : Nat) : Int) := by rw [fs_f (by omega)]; exact if_pos rfl
          have I10 : mI (fsM M1 B n (k + 7) (k + 10) c (s + l.length + 1) (apL (mI M1 (k + 10)) s (l ++ [-1]))) (k + 10) = apL (mI M (k + 10)) s (l ++ [-1]) := by rw [mI_fs, I1 (k + 10) (by omega)]
          have J2 : mJ (fsM M1 B n (k + 7) (k + 10) c (s + l.length + 1) (apL (mI M1 (k + 10)) s (l ++ [-1]))) = mJ M1 := rfl
          generalize hM2 : fsM M1 B n (k + 7) (k + 10) c (s + l.length + 1) (apL (mI M1 (k + 10)) s (l ++ [-1])) = M2 at *
          have B2 := Fm_BK F2 B1
          have S2 := Fm_Static F2 S1
          have e3 := c152 (G := G) (d := d + 50) (m := (bF q).length) (x := (s : Int)) hst B2 (by rw [I2 k (by omega) (by omega) (by omega)]; exact hf0) h10 (by omega) (by omega)
          have F3 : Fm M2 (rowI (rowI M2 k (fu (mI M2 k) 10 (iZ (((bF q).length + 1 : Nat) : Int)))) (k + 2) (fu (mI M2 (k + 2)) (bF q).length (iZ s))) k := Fm_tr (Fm_I (by omega) (by omega) k1) (Fm_I (by omega) (by omega) k1)
          have T3 : TC (rowI (rowI M2 k (fu (mI M2 k) 10 (iZ (((bF q).length + 1 : Nat) : Int)))) (k + 2) (fu (mI M2 (k + 2)) (bF q).length (iZ s))) B n c := TC_row (by omega) (by omega) (by omega) (TC_row (by omega) (by omega) (by omega) T2)
          have C3 : BC (rowI (rowI M2 k (fu (mI M2 k) 10 (iZ (((bF q).length + 1 : Nat) : Int)))) (k + 2) (fu (mI M2 (k + 2)) (bF q).length (iZ s))) k (s + l.length + 1) (bP q, bF q ++ [((nc B b (tl B n b) : Int), l)], q.2.2) := by
            refine BC_addF hC h10 ?_ ?_ ?_ ?_ ?_ ?_ ?_ ?_ ?_ (by omega) (by omega)
            · rw [mI_row_ne (by omega), mI_row, I2 k (by omega) (by omega) (by omega), I1 k (by omega)]
            · rw [mI_row, I2 (k + 2) (by omega) (by omega) (by omega), I1 (k + 2) (by omega)]
            · rw [mJ_rowI, mJ_rowI, J2, J6]
            · rw [mJ_rowI, mJ_rowI, J2, J5]
            · rw [mI_row_ne (by omega), mI_row_ne (by omega), I2 (k + 1) (by omega) (by omega) (by omega), I1 (k + 1) (by omega)]
            · rw [mI_row_ne (by omega), mI_row_ne (by omega), I2 (k + 3) (by omega) (by omega) (by omega), I1 (k + 3) (by omega)]
            · rw [mI_row_ne (by omega), mI_row_ne (by omega), I2 (k + 4) (by omega) (by omega) (by omega), I1 (k + 4) (by omega)]
            · rw [mI_row_ne (by omega), mI_row_ne (by omega)]; exact I7
            · rw [mI_row_ne (by omega), mI_row_ne (by omega)]; exact I10
          have hne : ((s : Int) ≠ -1) = True := eq_true (by omega)
          have F4 := Fm_tr F1 (Fm_tr F2 F3)
          have S4 := Fm_Static F4 hS
          have e4 := c139 (G := G) (d := d + 49) (c := 59) hst S4 (by decide) T3
          have nb4 := nxT_b (B := B) (n := n) (b := c)
          simp (disch := omega) only [wcQ, wcX, wcG, wcL, wcS, w157_109, toI, toJ, toI64, inb_T, inb_iZ, Int.toNat_natCast, cl_0, cl_1, cl_2, cl_3, cl_4, cl_5, cl_6, cl_7, cl_8, cl_9, cl_10, cl_11, cl_12, cl_13, cl_14, cl_15, cl_16, cl_17, cl_18, cl_19, cl_20, cl_21, cl_22, cl_23, cl_24, cl_25, cl_26, cl_27, cl_28, cl_29, cl_30, cl_31, cl_32, cl_36, cl_40, cl_48, cl_60, cl_108, cl_120, cl_200, cl_201, cl_576, cl_600, cl_864, cl_900, cl_960, cl_5400, cl_8040, j2_0, iN_iZ, iN_lit0, iZ_add, iZ_sub, iZ_mul, iZ_neg, jZ_add, jZ_sub, jZ_mul, jZ_neg, isB0, isB1, isBZ, eq0, eq1, bZ0, vI_, vJ_, vA_, rI_, rJ_, rA_, rV_, nX_, tX_, true_and, and_true, false_and, and_false, and_self, implies_true, forall_const, not_true_eq_false, not_false_eq_true, false_implies, true_implies, ↓reduceIte, Nat.reduceEqDiff, Int.reduceToNat, Int.reduceAdd, Int.reduceSub, Int.reduceLT, Int.reduceLE, Int.reduceEq, Int.add_zero, Int.neg_zero, Int.add_sub_cancel, Int.reduceNeg, Nat.reduceLeDiff, Nat.reduceSub, true_or, or_true, false_or, or_false, setI_d, setJ_d, setP_d, mI_row, mJ_row, mP_row, mI_row_ne, mJ_row_ne, mP_row_ne, rowI_rowI, rowJ_rowJ, rowI_sort, rowJ_sort, rowJ_rowI, rowP_rowI, rowP_rowJ, fu_app, fu_fu, mI_rowJ, mI_rowP, mJ_rowI, mJ_rowP, mP_rowI, mP_rowJ, mK_rowI, mN_rowI, mK_rowJ, mN_rowJ, mK_rowP, mN_rowP, oB_rowI, oB_rowJ, iA_rowI, iA_rowJ, iR_rowI, iR_rowJ, St_rowI, St_rowJ, bk_o B2]
          refine kI e3 (Nat.le_refl _) (fun v M3 hq => ?_) (fun e M' h => False.elim h)
          obtain ⟨rfl, rfl⟩ := hq
          simp (disch := omega) only [wcQ, wcX, wcG, wcL, wcS, w157_112, w157_115, w157_116, w157_118, toI, toJ, toI64, inb_T, inb_iZ, Int.toNat_natCast, cl_0, cl_1, cl_2, cl_3, cl_4, cl_5, cl_6, cl_7, cl_8, cl_9, cl_10, cl_11, cl_12, cl_13, cl_14, cl_15, cl_16, cl_17, cl_18, cl_19, cl_20, cl_21, cl_22, cl_23, cl_24, cl_25, cl_26, cl_27, cl_28, cl_29, cl_30, cl_31, cl_32, cl_36, cl_40, cl_48, cl_60, cl_108, cl_120, cl_200, cl_201, cl_576, cl_600, cl_864, cl_900, cl_960, cl_5400, cl_8040, j2_0, iN_iZ, iN_lit0, iZ_add, iZ_sub, iZ_mul, iZ_neg, jZ_add, jZ_sub, jZ_mul, jZ_neg, isB0, isB1, isBZ, eq0, eq1, bZ0, vI_, vJ_, vA_, rI_, rJ_, rA_, rV_, nX_, tX_, true_and, and_true, false_and, and_false, and_self, implies_true, forall_const, not_true_eq_false, not_false_eq_true, false_implies, true_implies, ↓reduceIte, Nat.reduceEqDiff, Int.reduceToNat, Int.reduceAdd, Int.reduceSub, Int.reduceLT, Int.reduceLE, Int.reduceEq, Int.add_zero, Int.neg_zero, Int.add_sub_cancel, Int.reduceNeg, Nat.reduceLeDiff, Nat.reduceSub, true_or, or_true, false_or, or_false, setI_d, setJ_d, setP_d, mI_row, mJ_row, mP_row, mI_row_ne, mJ_row_ne, mP_row_ne, rowI_rowI, rowJ_rowJ, rowI_sort, rowJ_sort, rowJ_rowI, rowP_rowI, rowP_rowJ, fu_app, fu_fu, mI_rowJ, mI_rowP, mJ_rowI, mJ_rowP, mP_rowI, mP_rowJ, mK_rowI, mN_rowI, mK_rowJ, mN_rowJ, mK_rowP, mN_rowP, oB_rowI, oB_rowJ, iA_rowI, iA_rowJ, iR_rowI, iR_rowJ, St_rowI, St_rowJ, hne, O91 S4]
          refine kI e4 (Nat.le_refl _) (fun v Mx hq => ?_) (fun e M' h => False.elim h)
          rcases hq with ⟨hs5, rfl, rfl⟩ | ⟨hs5, rfl, rfl⟩
          · simp (disch := omega) only [wcQ, wcX, wcG, wcL, wcS, w157_121, w157_124, w157_125, w157_128, w157_129, toI, toJ, toI64, inb_T, inb_iZ, Int.toNat_natCast, cl_0, cl_1, cl_2, cl_3, cl_4, cl_5, cl_6, cl_7, cl_8, cl_9, cl_10, cl_11, cl_12, cl_13, cl_14, cl_15, cl_16, cl_17, cl_18, cl_19, cl_20, cl_21, cl_22, cl_23, cl_24, cl_25, cl_26, cl_27, cl_28, cl_29, cl_30, cl_31, cl_32, cl_36, cl_40, cl_48, cl_60, cl_108, cl_120, cl_200, cl_201, cl_576, cl_600, cl_864, cl_900, cl_960, cl_5400, cl_8040, j2_0, iN_iZ, iN_lit0, iZ_add, iZ_sub, iZ_mul, iZ_neg, jZ_add, jZ_sub, jZ_mul, jZ_neg, isB0, isB1, isBZ, eq0, eq1, bZ0, vI_, vJ_, vA_, rI_, rJ_, rA_, rV_, nX_, tX_, true_and, and_true, false_and, and_false, and_self, implies_true, forall_const, not_true_eq_false, not_false_eq_true, false_implies, true_implies, ↓reduceIte, Nat.reduceEqDiff, Int.reduceToNat, Int.reduceAdd, Int.reduceSub, Int.reduceLT, Int.reduceLE, Int.reduceEq, Int.add_zero, Int.neg_zero, Int.add_sub_cancel, Int.reduceNeg, Nat.reduceLeDiff, Nat.reduceSub, true_or, or_true, false_or, or_false, setI_d, setJ_d, setP_d, mI_row, mJ_row, mP_row, mI_row_ne, mJ_row_ne, mP_row_ne, rowI_rowI, rowJ_rowJ, rowI_sort, rowJ_sort, rowJ_rowI, rowP_rowI, rowP_rowJ, fu_app, fu_fu, mI_rowJ, mI_rowP, mJ_rowI, mJ_rowP, mP_rowI, mP_rowJ, mK_rowI, mN_rowI, mK_rowJ, mN_rowJ, mK_rowP, mN_rowP, oB_rowI, oB_rowJ, iA_rowI, iA_rowJ, iR_rowI, iR_rowJ, St_rowI, St_rowJ]
            apply hQ
            have hpe : pExS B n c0 (fun l => (bP q, bF q ++ [((nc B b (tl B n b) : Int), l)], q.2.2)) = .inr (nxT B n c, (bP q, bF q ++ [((nc B b (tl B n b) : Int), l)], q.2.2)) := by unfold pExS; rw [hp]; unfold pSg; exact if_pos hs5
            rw [QB_r hpe]
            exact ⟨Fm_tr F4 Fm_st, rfl, TC_st T3.1 (nb4.2.1 lp.2.1), _, by omega, BC_91 k1 C3⟩
          · simp (disch := omega) only [wcQ, wcX, wcG, wcL, wcS, w157_121, w157_124, w157_125, w157_128, w157_129, toI, toJ, toI64, inb_T, inb_iZ, Int.toNat_natCast, cl_0, cl_1, cl_2, cl_3, cl_4, cl_5, cl_6, cl_7, cl_8, cl_9, cl_10, cl_11, cl_12, cl_13, cl_14, cl_15, cl_16, cl_17, cl_18, cl_19, cl_20, cl_21, cl_22, cl_23, cl_24, cl_25, cl_26, cl_27, cl_28, cl_29, cl_30, cl_31, cl_32, cl_36, cl_40, cl_48, cl_60, cl_108, cl_120, cl_200, cl_201, cl_576, cl_600, cl_864, cl_900, cl_960, cl_5400, cl_8040, j2_0, iN_iZ, iN_lit0, iZ_add, iZ_sub, iZ_mul, iZ_neg, jZ_add, jZ_sub, jZ_mul, jZ_neg, isB0, isB1, isBZ, eq0, eq1, bZ0, vI_, vJ_, vA_, rI_, rJ_, rA_, rV_, nX_, tX_, true_and, and_true, false_and, and_false, and_self, implies_true, forall_const, not_true_eq_false, not_false_eq_true, false_implies, true_implies, ↓reduceIte, Nat.reduceEqDiff, Int.reduceToNat, Int.reduceAdd, Int.reduceSub, Int.reduceLT, Int.reduceLE, Int.reduceEq, Int.add_zero, Int.neg_zero, Int.add_sub_cancel, Int.reduceNeg, Nat.reduceLeDiff, Nat.reduceSub, true_or, or_true, false_or, or_false, setI_d, setJ_d, setP_d, mI_row, mJ_row, mP_row, mI_row_ne, mJ_row_ne, mP_row_ne, rowI_rowI, rowJ_rowJ, rowI_sort, rowJ_sort, rowJ_rowI, rowP_rowI, rowP_rowJ, fu_app, fu_fu, mI_rowJ, mI_rowP, mJ_rowI, mJ_rowP, mP_rowI, mP_rowJ, mK_rowI, mN_rowI, mK_rowJ, mN_rowJ, mK_rowP, mN_rowP, oB_rowI, oB_rowJ, iA_rowI, iA_rowJ, iR_rowI, iR_rowJ, St_rowI, St_rowJ]
            apply hQ
            have hpe : pExS B n c0 (fun l => (bP q, bF q ++ [((nc B b (tl B n b) : Int), l)], q.2.2)) = .inl (1, c) := by unfold pExS; rw [hp]; unfold pSg; exact if_neg hs5
            rw [QB_i hpe]
            exact ⟨Fm_tr F4 Fm_rf, rfl, rf_2, rf_3⟩
end

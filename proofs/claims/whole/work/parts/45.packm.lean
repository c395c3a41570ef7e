/-! packets: the reference's side. -/
section
variable {G : GE} {d : Nat} {M : Mem}
theorem sp2 {P A B : Prop} (h1 : P → A) (h2 : ¬ P → B) : (P → A) ∧ (¬ P → B) := ⟨h1, h2⟩
theorem iZ_ne0 {z : Int} (h1 : 0 < z) (h2 : z < 2147483648) : (iZ z = 0) = False := eq_false fun h => by
  have := congrArg Int32.toInt h
  rw [toI (by omega) h2] at this
  simp at this
  omega
theorem shl_ {a j : Nat} (hj : j < 31) (h : a * 2 ^ j < 2147483648) : iZ a <<< (iZ j &&& 31) = iZ ((a * 2 ^ j : Nat) : Int) := by
  apply Int32.toBitVec_inj.mp
  have ha : a < 2147483648 := Nat.lt_of_le_of_lt (Nat.le_mul_of_pos_right a (Nat.pow_pos (by decide))) h
  rw [Int32.toBitVec_shiftLeft, iZ_natB _ h, iZ_natB _ ha]
  rw [BitVec.shiftLeft_eq', shA (by omega)]
  apply BitVec.eq_of_toNat_eq
  rw [BitVec.toNat_shiftLeft, BitVec.toNat_ofNat, BitVec.toNat_ofNat, Nat.shiftLeft_eq, Nat.mod_eq_of_lt (a := a) (by omega)]
theorem ua_b {D : Nat → Nat} {p : Nat} : ∀ k, -1 ≤ uaD D k p ∧ uaD D k p < k
  | 0 => ⟨Int.le_refl _, by show (-1 : Int) < 0; decide⟩
  | k + 1 => by
    have := ua_b (D := D) (p := p) k
    unfold uaD
    split <;> omega
theorem us_b {D : Nat → Nat} {p : Nat} : ∀ k, usD D k p ≤ k
  | 0 => Nat.le_refl _
  | k + 1 => by
    have := us_b (D := D) (p := p) k
    unfold usD
    split <;> omega
theorem ud_b {D : Nat → Nat} : ∀ k, udD D k ≤ k
  | 0 => Nat.le_refl _
  | k + 1 => by
    have := ud_b (D := D) k
    unfold udD
    split <;> omega
theorem rs_b {D : Nat → Nat} : ∀ k, 1 ≤ rsD D k ∧ rsD D k ≤ 9
  | 0 => ⟨by show (1 : Int) ≤ 9; decide, Int.le_refl _⟩
  | k + 1 => by
    have h := rs_b (D := D) k
    have h2 := ua_b (D := D) (p := D k) k
    unfold rsD
    split <;> omega
/-- the loop over a row's RUNS: one step -/
theorem c89k (hst : (gl G).stackTraces = false) (hS : Static M) {qr : QR} {qx : QX} {n m u x k : Nat} {A U : Nat → Int32} {i4 i5 i6 i7 i8 : Int32} {p0 : AV} (n8 : n ≤ 8) (m1 : 1 ≤ m) (m4 : m ≤ 4) (u8 : u ≤ 8) (hx : x < m ^ n) (hk : k < n) (hA : ∀ p, p < m → A p = iZ (uaD (dg n m x) k p)) (hU : ∀ p, p < m → U p = iZ (usD (dg n m x) k p))
    (K : ∀ p' A' U', (∀ p, p < m → A' p = iZ (uaD (dg n m x) (k + 1) p)) → (∀ p, p < m → U' p = iZ (usD (dg n m x) (k + 1) p)) → Go G (d + 1) 89 qr qx 141 [aR (some 154), aI (iZ n), aI (iZ m), aI (iZ u), aI i4, aI i5, aI i6, aI i7, aI i8, aI (iZ (btD (dg n m x) (k + 1))), aI (iZ (rsD (dg n m x) (k + 1))), aI (iZ (udD (dg n m x) (k + 1))), aI (bZ (cnD (dg n m x) u (k + 1) = true)), aI (iZ ((m ^ (n - (k + 1)) : Nat) : Int)), aI (iZ (qd n m x (k + 1))), aI (iZ ((k + 1 : Nat) : Int)), p'] [] (rowI (rowI (rowI M 154 (fu (mI M 154) 2 (iZ 0))) 213 A') 214 U') 0) :
    Go G (d + 1) 89 qr qx 141 [aR (some 154), aI (iZ n), aI (iZ m), aI (iZ u), aI i4, aI i5, aI i6, aI i7, aI i8, aI (iZ (btD (dg n m x) k)), aI (iZ (rsD (dg n m x) k)), aI (iZ (udD (dg n m x) k)), aI (bZ (cnD (dg n m x) u k = true)), aI (iZ ((m ^ (n - k) : Nat) : Int)), aI (iZ (qd n m x k)), aI (iZ k), p0] [] (rowI (rowI (rowI M 154 (fu (mI M 154) 2 (iZ 0))) 213 A) 214 U) 0 := by
  have hk' : (k : Int) < n := by omega
  have hw : m ^ (n - k) = m * m ^ (n - 1 - k) := by rw [show n - k = n - 1 - k + 1 by omega, Nat.pow_succ, Nat.mul_comm]
  have hq0 := qd_lt (n := n) (m := m) (by omega) k (by omega) hx
  have hD := dg_lt (n := n) (m := m) (by omega) hk hx
  have hq1 : qd n m x (k + 1) = qd n m x k % m ^ (n - 1 - k) := rfl
  have hd1 : dg n m x k = qd n m x k / m ^ (n - 1 - k) := rfl
  have hw1 : 0 < m ^ (n - 1 - k) := Nat.pow_pos (by omega)
  have hw2 : m ^ (n - 1 - k) ≤ 4 ^ 7 := Nat.le_trans (Nat.pow_le_pow_left m4 _) (Nat.pow_le_pow_right (by decide) (by omega))
  have hb := bt_lt (D := dg n m x) k (fun j hj => by have := dg_lt (n := n) (m := m) (by omega) (show j < n by omega) hx; omega)
  have hb2 : 2 ^ (2 * k) ≤ 2 ^ 14 := Nat.pow_le_pow_right (by decide) (by omega)
  have hwe : m ^ (n - (k + 1)) = m ^ (n - 1 - k) := by rw [show n - (k + 1) = n - 1 - k by omega]
  have hbt : btD (dg n m x) (k + 1) = btD (dg n m x) k ||| (dg n m x k * 2 ^ (2 * k)) := rfl
  have hrs : rsD (dg n m x) (k + 1) = if uaD (dg n m x) k (dg n m x k) = -1 then rsD (dg n m x) k else min (rsD (dg n m x) k) (k - uaD (dg n m x) k (dg n m x k)) := rfl
  have hud : udD (dg n m x) (k + 1) = if uaD (dg n m x) k (dg n m x k) = -1 then udD (dg n m x) k + 1 else udD (dg n m x) k := rfl
  have hcn : cnD (dg n m x) u (k + 1) = (cnD (dg n m x) u k && decide (usD (dg n m x) (k + 1) (dg n m x k) ≤ u)) := rfl
  have hus : usD (dg n m x) (k + 1) (dg n m x k) = usD (dg n m x) k (dg n m x k) + 1 := if_pos rfl
  have hA1 := hA _ hD
  have hU1 := hU _ hD
  have b1 := ua_b (D := dg n m x) (p := dg n m x k) k
  have b2 := us_b (D := dg n m x) (p := dg n m x k) k
  have b3 := ud_b (D := dg n m x) k
  have b4 := rs_b (D := dg n m x) k
  rw [hwe] at K
  have KA : ∀ p, p < m → fu A (dg n m x k) (iZ k) p = iZ (uaD (dg n m x) (k + 1) p) := fun p hp => by
    unfold fu
    show _ = iZ (if dg n m x k = p then (k : Int) else uaD (dg n m x) k p)
    by_cases z : p = dg n m x k
    · rw [if_pos z, if_pos z.symm]
    · rw [if_neg z, if_neg (fun y => z y.symm)]; exact hA p hp
  have KU : ∀ p, p < m → fu U (dg n m x k) (iZ ((usD (dg n m x) k (dg n m x k) : Int) + 1)) p = iZ (usD (dg n m x) (k + 1) p) := fun p hp => by
    unfold fu
    show _ = iZ ((if dg n m x k = p then usD (dg n m x) k p + 1 else usD (dg n m x) k p : Nat) : Int)
    by_cases z : p = dg n m x k
    · rw [if_pos z, if_pos z.symm, z]; rfl
    · rw [if_neg z, if_neg (fun y => z y.symm)]; exact hU p hp
  have K := fun p' => K p' _ _ KA KU
  rw [hbt, hud, hq1, hcn, hus] at K
  generalize hDe : dg n m x k = D at *
  generalize hqe : qd n m x k = q at *
  generalize hwe2 : m ^ (n - 1 - k) = w at *
  generalize hae : uaD (dg n m x) k D = a at *
  generalize hse : usD (dg n m x) k D = s at *
  generalize hre : rsD (dg n m x) k = r at *
  generalize hde : udD (dg n m x) k = e at *
  generalize hce : cnD (dg n m x) u k = c at *
  generalize hbe : btD (dg n m x) k = b at *
  rw [hw]
  have hdb : D * 2 ^ (2 * k) ≤ 3 * 2 ^ 14 := Nat.mul_le_mul (by omega) hb2
  have hmw : m * w ≤ 4 * 4 ^ 7 := Nat.mul_le_mul m4 hw2
  have f1 : ((m * w : Nat) : Int).tdiv m = w := by
    rw [Int.natCast_mul, Int.mul_tdiv_cancel_left _ (by omega)]
  have f2 : (q : Int).tdiv w = D := by
    rw [Int.tdiv_eq_ediv_of_nonneg (by omega), hd1]; rfl
  have f3 : (q : Int) - D * w = ((q % w : Nat) : Int) := by
    have h := Nat.div_add_mod q w
    rw [← hd1, Nat.mul_comm] at h
    have h2 : ((D * w : Nat) : Int) = (D : Int) * w := Int.natCast_mul _ _
    omega
  have f4 : 2 * (k : Int) = ((2 * k : Nat) : Int) := by omega
  have j5 := jd5 (G := G) (d := d) (M := rowI (rowI (rowI M 154 (fu (mI M 154) 2 (iZ 0))) 213 A) 214 U) (x := r) (y := k - a) hst (by omega) (by omega) (by omega) (by omega)
  have z0 : ¬ (c = true ∧ s + 1 ≤ u) → bZ ((c && decide (s + 1 ≤ u)) = true) = iZ 0 := fun h => by
    unfold bZ
    rw [if_neg]
    rw [Bool.and_eq_true, decide_eq_true_iff]
    exact h
  have z1 : (c = true ∧ s + 1 ≤ u) → bZ ((c && decide (s + 1 ≤ u)) = true) = iZ 1 := fun h => by
    unfold bZ
    rw [if_pos]
    rw [Bool.and_eq_true, decide_eq_true_iff]
    exact h
  refine wp1_go (n := 2000) ?_
  by_cases z : a = -1
  · simp (disch := omega) only [wcQ, wcX, wcG, wcL, wcS, h89_141, w89_141, w89_143, w89_144, w89_147, w89_149, w89_150, w89_151, w89_153, w89_155, w89_157, w89_158, w89_160, w89_162, w89_164, w89_165, w89_167, w89_169, w89_171, w89_172, w89_174, w89_175, w89_176, w89_177, w89_179, w89_180, w89_183, w89_185, w89_186, w89_187, w89_190, w89_193, w89_196, w89_198, w89_200, w89_201, w89_204, w89_206, w89_207, w89_208, w89_211, w89_213, w89_214, w89_217, w89_219, w89_221, w89_222, w89_223, w89_226, w89_228, w89_229, w89_230, w89_231, w89_232, w89_233, w89_235, w89_238, w89_239, w89_242, w89_244, w89_245, w89_246, w89_249, w89_250, w89_253, w89_254, w89_256, w89_259, toI, toJ, toI64, inb_T, inb_iZ, Int.toNat_natCast, cl_0, cl_1, cl_2, cl_3, cl_4, cl_5, cl_6, cl_7, cl_8, cl_9, cl_10, cl_11, cl_12, cl_13, cl_14, cl_15, cl_16, cl_17, cl_18, cl_19, cl_20, cl_21, cl_22, cl_23, cl_24, cl_25, cl_26, cl_27, cl_28, cl_29, cl_30, cl_31, cl_32, cl_36, cl_40, cl_48, cl_60, cl_108, cl_120, cl_200, cl_201, cl_576, cl_600, cl_864, cl_900, cl_960, cl_5400, cl_8040, j2_0, iN_iZ, iN_lit0, iZ_add, iZ_sub, iZ_mul, iZ_neg, jZ_add, jZ_sub, jZ_mul, jZ_neg, isB0, isB1, isBZ, eq0, eq1, bZ0, vI_, vJ_, vA_, rI_, rJ_, rA_, rV_, nX_, tX_, true_and, and_true, false_and, and_false, and_self, implies_true, forall_const, not_true_eq_false, not_false_eq_true, false_implies, true_implies, ↓reduceIte, Nat.reduceEqDiff, Int.reduceToNat, Int.reduceAdd, Int.reduceSub, Int.reduceLT, Int.reduceLE, Int.reduceEq, Int.add_zero, Int.neg_zero, Int.add_sub_cancel, Int.reduceNeg, Nat.reduceLeDiff, Nat.reduceSub, true_or, or_true, false_or, or_false, setI_d, setJ_d, setP_d, mI_row, mJ_row, mP_row, mI_row_ne, mJ_row_ne, mP_row_ne, rowI_rowI, rowJ_rowJ, rowI_sort, rowJ_sort, rowJ_rowI, rowP_rowI, rowP_rowJ, fu_app, fu_fu, mI_rowJ, mI_rowP, mJ_rowI, mJ_rowP, mP_rowI, mP_rowJ, mK_rowI, mN_rowI, mK_rowJ, mN_rowJ, mK_rowP, mN_rowP, oB_rowI, oB_rowJ, iA_rowI, iA_rowJ, iR_rowI, iR_rowJ, St_rowI, St_rowJ, K154 hS, O154 hS, P154_0 hS, P154_1 hS, P154_7 hS, P154_8 hS, P154_9 hS, P154_10 hS, P154_11 hS, P154_25 hS, P154_26 hS, P154_27 hS, P154_28 hS, P154_29 hS, P154_30 hS, P154_31 hS, P154_32 hS, P154_33 hS, P154_34 hS, P154_35 hS, P154_36 hS, P154_37 hS, P154_38 hS, P154_39 hS, P154_40 hS, P154_41 hS, P154_46 hS, P154_47 hS, P154_48 hS, P154_49 hS, P154_50 hS, P154_51 hS, P154_52 hS, P154_53 hS, P154_54 hS, P154_55 hS, P154_56 hS, P154_57 hS, P154_58 hS, P154_59 hS, P154_60 hS, P154_61 hS, P154_62 hS, P154_63 hS, P154_64 hS, P154_65 hS, P154_68 hS, P154_69 hS, P154_70 hS, P154_71 hS, P154_72 hS, P154_73 hS, P154_74 hS, P154_75 hS, P154_76 hS, P154_77 hS, P154_78 hS, P154_79 hS, P154_80 hS, P154_81 hS, P154_82 hS, P154_83 hS, P154_84 hS, P154_85 hS, P154_86 hS, P154_87 hS, P154_88 hS, P154_89 hS, K213 hS, O213 hS, A213 hS, K214 hS, O214 hS, A214 hS, hk', iZ_div, iZ_ne0, f1, f2, f3, f4, shl_, bit_or, hA1, hU1, z]
    rw [hrs, if_pos z, if_pos z] at K
    exact ⟨fun h => by rw [z0 (fun y => h y.1)] at K; exact K _, fun h => ⟨fun h2 => by rw [z0 (fun y => by omega)] at K; exact K _, fun h2 => by rw [z1 ⟨Classical.not_not.mp h, by omega⟩] at K; exact K _⟩⟩
  · simp (disch := omega) only [wcQ, wcX, wcG, wcL, wcS, h89_141, w89_141, w89_143, w89_144, w89_147, w89_149, w89_150, w89_151, w89_153, w89_155, w89_157, w89_158, w89_160, w89_162, w89_164, w89_165, w89_167, w89_169, w89_171, w89_172, w89_174, w89_175, w89_176, w89_177, w89_179, w89_180, w89_183, w89_185, w89_186, w89_187, w89_190, w89_193, w89_196, w89_198, w89_200, w89_201, w89_204, w89_206, w89_207, w89_208, toI, toJ, toI64, inb_T, inb_iZ, Int.toNat_natCast, cl_0, cl_1, cl_2, cl_3, cl_4, cl_5, cl_6, cl_7, cl_8, cl_9, cl_10, cl_11, cl_12, cl_13, cl_14, cl_15, cl_16, cl_17, cl_18, cl_19, cl_20, cl_21, cl_22, cl_23, cl_24, cl_25, cl_26, cl_27, cl_28, cl_29, cl_30, cl_31, cl_32, cl_36, cl_40, cl_48, cl_60, cl_108, cl_120, cl_200, cl_201, cl_576, cl_600, cl_864, cl_900, cl_960, cl_5400, cl_8040, j2_0, iN_iZ, iN_lit0, iZ_add, iZ_sub, iZ_mul, iZ_neg, jZ_add, jZ_sub, jZ_mul, jZ_neg, isB0, isB1, isBZ, eq0, eq1, bZ0, vI_, vJ_, vA_, rI_, rJ_, rA_, rV_, nX_, tX_, true_and, and_true, false_and, and_false, and_self, implies_true, forall_const, not_true_eq_false, not_false_eq_true, false_implies, true_implies, ↓reduceIte, Nat.reduceEqDiff, Int.reduceToNat, Int.reduceAdd, Int.reduceSub, Int.reduceLT, Int.reduceLE, Int.reduceEq, Int.add_zero, Int.neg_zero, Int.add_sub_cancel, Int.reduceNeg, Nat.reduceLeDiff, Nat.reduceSub, true_or, or_true, false_or, or_false, setI_d, setJ_d, setP_d, mI_row, mJ_row, mP_row, mI_row_ne, mJ_row_ne, mP_row_ne, rowI_rowI, rowJ_rowJ, rowI_sort, rowJ_sort, rowJ_rowI, rowP_rowI, rowP_rowJ, fu_app, fu_fu, mI_rowJ, mI_rowP, mJ_rowI, mJ_rowP, mP_rowI, mP_rowJ, mK_rowI, mN_rowI, mK_rowJ, mN_rowJ, mK_rowP, mN_rowP, oB_rowI, oB_rowJ, iA_rowI, iA_rowJ, iR_rowI, iR_rowJ, St_rowI, St_rowJ, K154 hS, O154 hS, P154_0 hS, P154_1 hS, P154_7 hS, P154_8 hS, P154_9 hS, P154_10 hS, P154_11 hS, P154_25 hS, P154_26 hS, P154_27 hS, P154_28 hS, P154_29 hS, P154_30 hS, P154_31 hS, P154_32 hS, P154_33 hS, P154_34 hS, P154_35 hS, P154_36 hS, P154_37 hS, P154_38 hS, P154_39 hS, P154_40 hS, P154_41 hS, P154_46 hS, P154_47 hS, P154_48 hS, P154_49 hS, P154_50 hS, P154_51 hS, P154_52 hS, P154_53 hS, P154_54 hS, P154_55 hS, P154_56 hS, P154_57 hS, P154_58 hS, P154_59 hS, P154_60 hS, P154_61 hS, P154_62 hS, P154_63 hS, P154_64 hS, P154_65 hS, P154_68 hS, P154_69 hS, P154_70 hS, P154_71 hS, P154_72 hS, P154_73 hS, P154_74 hS, P154_75 hS, P154_76 hS, P154_77 hS, P154_78 hS, P154_79 hS, P154_80 hS, P154_81 hS, P154_82 hS, P154_83 hS, P154_84 hS, P154_85 hS, P154_86 hS, P154_87 hS, P154_88 hS, P154_89 hS, K213 hS, O213 hS, A213 hS, K214 hS, O214 hS, A214 hS, hk', iZ_div, iZ_ne0, f1, f2, f3, f4, shl_, bit_or, hA1, hU1, z]
    refine kI0 j5 ?_
    simp (disch := omega) only [wcQ, wcX, wcG, wcL, wcS, w89_211, w89_213, w89_214, w89_217, w89_219, w89_221, w89_222, w89_223, w89_226, w89_228, w89_229, w89_230, w89_231, w89_232, w89_233, w89_235, w89_238, w89_239, w89_242, w89_244, w89_245, w89_246, w89_249, w89_250, w89_253, w89_254, w89_256, w89_259, toI, toJ, toI64, inb_T, inb_iZ, Int.toNat_natCast, cl_0, cl_1, cl_2, cl_3, cl_4, cl_5, cl_6, cl_7, cl_8, cl_9, cl_10, cl_11, cl_12, cl_13, cl_14, cl_15, cl_16, cl_17, cl_18, cl_19, cl_20, cl_21, cl_22, cl_23, cl_24, cl_25, cl_26, cl_27, cl_28, cl_29, cl_30, cl_31, cl_32, cl_36, cl_40, cl_48, cl_60, cl_108, cl_120, cl_200, cl_201, cl_576, cl_600, cl_864, cl_900, cl_960, cl_5400, cl_8040, j2_0, iN_iZ, iN_lit0, iZ_add, iZ_sub, iZ_mul, iZ_neg, jZ_add, jZ_sub, jZ_mul, jZ_neg, isB0, isB1, isBZ, eq0, eq1, bZ0, vI_, vJ_, vA_, rI_, rJ_, rA_, rV_, nX_, tX_, true_and, and_true, false_and, and_false, and_self, implies_true, forall_const, not_true_eq_false, not_false_eq_true, false_implies, true_implies, ↓reduceIte, Nat.reduceEqDiff, Int.reduceToNat, Int.reduceAdd, Int.reduceSub, Int.reduceLT, Int.reduceLE, Int.reduceEq, Int.add_zero, Int.neg_zero, Int.add_sub_cancel, Int.reduceNeg, Nat.reduceLeDiff, Nat.reduceSub, true_or, or_true, false_or, or_false, setI_d, setJ_d, setP_d, mI_row, mJ_row, mP_row, mI_row_ne, mJ_row_ne, mP_row_ne, rowI_rowI, rowJ_rowJ, rowI_sort, rowJ_sort, rowJ_rowI, rowP_rowI, rowP_rowJ, fu_app, fu_fu, mI_rowJ, mI_rowP, mJ_rowI, mJ_rowP, mP_rowI, mP_rowJ, mK_rowI, mN_rowI, mK_rowJ, mN_rowJ, mK_rowP, mN_rowP, oB_rowI, oB_rowJ, iA_rowI, iA_rowJ, iR_rowI, iR_rowJ, St_rowI, St_rowJ, K154 hS, O154 hS, P154_0 hS, P154_1 hS, P154_7 hS, P154_8 hS, P154_9 hS, P154_10 hS, P154_11 hS, P154_25 hS, P154_26 hS, P154_27 hS, P154_28 hS, P154_29 hS, P154_30 hS, P154_31 hS, P154_32 hS, P154_33 hS, P154_34 hS, P154_35 hS, P154_36 hS, P154_37 hS, P154_38 hS, P154_39 hS, P154_40 hS, P154_41 hS, P154_46 hS, P154_47 hS, P154_48 hS, P154_49 hS, P154_50 hS, P154_51 hS, P154_52 hS, P154_53 hS, P154_54 hS, P154_55 hS, P154_56 hS, P154_57 hS, P154_58 hS, P154_59 hS, P154_60 hS, P154_61 hS, P154_62 hS, P154_63 hS, P154_64 hS, P154_65 hS, P154_68 hS, P154_69 hS, P154_70 hS, P154_71 hS, P154_72 hS, P154_73 hS, P154_74 hS, P154_75 hS, P154_76 hS, P154_77 hS, P154_78 hS, P154_79 hS, P154_80 hS, P154_81 hS, P154_82 hS, P154_83 hS, P154_84 hS, P154_85 hS, P154_86 hS, P154_87 hS, P154_88 hS, P154_89 hS, K213 hS, O213 hS, A213 hS, K214 hS, O214 hS, A214 hS, hk', hA1, hU1]
    rw [hrs, if_neg z, if_neg z, show min r ((k : Int) - a) = if (k : Int) - a < r then (k : Int) - a else r by split <;> omega] at K
    exact ⟨fun h => by rw [z0 (fun y => h y.1)] at K; exact K _, fun h => ⟨fun h2 => by rw [z0 (fun y => by omega)] at K; exact K _, fun h2 => by rw [z1 ⟨Classical.not_not.mp h, by omega⟩] at K; exact K _⟩⟩
theorem c89 (hst : (gl G).stackTraces = false) (hS : Static M) {n m u : Nat} (n1 : 1 ≤ n) (n8 : n ≤ 8) (m1 : 1 ≤ m) (m4 : m ≤ 4) (u1 : 1 ≤ u) (u8 : u ≤ 8) : Ev G (d + 2) 89 [aR (some 154), aI (iZ n), aI (iZ m), aI (iZ u)] M 0 (rI fun v M' => v = iZ (if n ≤ m * u then ((btD (cyc m) n : Nat) : Int) else -1) ∧ ∃ A U, M' = rowI (rowI (rowI M 154 (fu (mI M 154) 2 (iZ 0))) 213 A) 214 U) nX := by
  have e1 : ¬ (n : Int) < 1 := by omega
  have e2 : ¬ (8 : Int) < n := by omega
  have e3 : ¬ (m : Int) < 1 := by omega
  have e4 : ¬ (4 : Int) < m := by omega
  have e5 : ¬ (u : Int) < 1 := by omega
  have e6 : ¬ (8 : Int) < u := by omega
  have hpow : ∀ k, k ≤ n → m ^ k ≤ 4 ^ 8 := fun k hk => Nat.le_trans (Nat.pow_le_pow_left m4 _) (Nat.pow_le_pow_right (by decide) (by omega))
  have hp0 := hpow n (Nat.le_refl _)
  have hself : rowI M 154 (fu (mI M 154) 2 (iZ 0)) = rowI (rowI (rowI M 154 (fu (mI M 154) 2 (iZ 0))) 213 (mI M 213)) 214 (mI M 214) := by
    rw [show rowI (rowI M 154 (fu (mI M 154) 2 (iZ 0))) 213 (mI M 213) = rowI M 154 (fu (mI M 154) 2 (iZ 0)) from @rowI_mI (rowI M 154 (fu (mI M 154) 2 (iZ 0))) 213]
    exact (@rowI_mI (rowI M 154 (fu (mI M 154) 2 (iZ 0))) 214).symm
  obtain ⟨a1, a2, a3, a4, a5, a6⟩ := pk_all n1 n8 m1 m4
  have hX : btD (dg n m (X_ n m)) n = btD (cyc m) n := (D_congr n (fun j hj => a3 j hj)).2.2.2.2.2
  have hXr : rsD (dg n m (X_ n m)) n = R_ n m := by rw [(D_congr n (fun j hj => a3 j hj)).2.2.1]; exact a4
  have hXu : udD (dg n m (X_ n m)) n = U_ n m := by rw [(D_congr n (fun j hj => a3 j hj)).2.2.2.1]; exact a5
  have hXc : cnD (dg n m (X_ n m)) u n = decide (n ≤ m * u) := by rw [(D_congr n (fun j hj => a3 j hj)).2.2.2.2.1]; exact a6 u u1 u8
  refine Ev_wp 2000 hst (by decide) (Nat.le_of_ble_eq_true rfl) ?_; simp (disch := omega) only [en89, wcQ, wcX, wcG, wcL, wcS, w89_0, w89_1, w89_2, w89_5, w89_6, w89_7, w89_10, w89_11, w89_13, w89_16, w89_17, w89_18, w89_21, w89_22, w89_23, w89_26, w89_27, w89_28, w89_31, w89_32, w89_34, w89_37, w89_38, w89_39, w89_42, w89_43, w89_44, w89_46, w89_47, toI, toJ, toI64, inb_T, inb_iZ, Int.toNat_natCast, cl_0, cl_1, cl_2, cl_3, cl_4, cl_5, cl_6, cl_7, cl_8, cl_9, cl_10, cl_11, cl_12, cl_13, cl_14, cl_15, cl_16, cl_17, cl_18, cl_19, cl_20, cl_21, cl_22, cl_23, cl_24, cl_25, cl_26, cl_27, cl_28, cl_29, cl_30, cl_31, cl_32, cl_36, cl_40, cl_48, cl_60, cl_108, cl_120, cl_200, cl_201, cl_576, cl_600, cl_864, cl_900, cl_960, cl_5400, cl_8040, j2_0, iN_iZ, iN_lit0, iZ_add, iZ_sub, iZ_mul, iZ_neg, jZ_add, jZ_sub, jZ_mul, jZ_neg, isB0, isB1, isBZ, eq0, eq1, bZ0, vI_, vJ_, vA_, rI_, rJ_, rA_, rV_, nX_, tX_, true_and, and_true, false_and, and_false, and_self, implies_true, forall_const, not_true_eq_false, not_false_eq_true, false_implies, true_implies, ↓reduceIte, Nat.reduceEqDiff, Int.reduceToNat, Int.reduceAdd, Int.reduceSub, Int.reduceLT, Int.reduceLE, Int.reduceEq, Int.add_zero, Int.neg_zero, Int.add_sub_cancel, Int.reduceNeg, Nat.reduceLeDiff, Nat.reduceSub, true_or, or_true, false_or, or_false, setI_d, setJ_d, setP_d, mI_row, mJ_row, mP_row, mI_row_ne, mJ_row_ne, mP_row_ne, rowI_rowI, rowJ_rowJ, rowI_sort, rowJ_sort, rowJ_rowI, rowP_rowI, rowP_rowJ, fu_app, fu_fu, mI_rowJ, mI_rowP, mJ_rowI, mJ_rowP, mP_rowI, mP_rowJ, mK_rowI, mN_rowI, mK_rowJ, mN_rowJ, mK_rowP, mN_rowP, oB_rowI, oB_rowJ, iA_rowI, iA_rowJ, iR_rowI, iR_rowJ, St_rowI, St_rowJ, K154 hS, O154 hS, P154_0 hS, P154_1 hS, P154_7 hS, P154_8 hS, P154_9 hS, P154_10 hS, P154_11 hS, P154_25 hS, P154_26 hS, P154_27 hS, P154_28 hS, P154_29 hS, P154_30 hS, P154_31 hS, P154_32 hS, P154_33 hS, P154_34 hS, P154_35 hS, P154_36 hS, P154_37 hS, P154_38 hS, P154_39 hS, P154_40 hS, P154_41 hS, P154_46 hS, P154_47 hS, P154_48 hS, P154_49 hS, P154_50 hS, P154_51 hS, P154_52 hS, P154_53 hS, P154_54 hS, P154_55 hS, P154_56 hS, P154_57 hS, P154_58 hS, P154_59 hS, P154_60 hS, P154_61 hS, P154_62 hS, P154_63 hS, P154_64 hS, P154_65 hS, P154_68 hS, P154_69 hS, P154_70 hS, P154_71 hS, P154_72 hS, P154_73 hS, P154_74 hS, P154_75 hS, P154_76 hS, P154_77 hS, P154_78 hS, P154_79 hS, P154_80 hS, P154_81 hS, P154_82 hS, P154_83 hS, P154_84 hS, P154_85 hS, P154_86 hS, P154_87 hS, P154_88 hS, P154_89 hS, e1, e2, e3, e4, e5, e6]
  refine loopN n (fun k ls M' => ls = [aR (some 154), aI (iZ n), aI (iZ m), aI (iZ u), aI (iZ ((m ^ k : Nat) : Int)), aI (iZ k), aU, aU, aU, aU, aU, aU, aU, aU, aU, aU, aU] ∧ M' = rowI M 154 (fu (mI M 154) 2 (iZ 0))) ⟨rfl, rfl⟩ ?_ ?_
  · intro k hk ls M' ⟨hl, hM⟩ K
    subst hl hM
    have hk' : (k : Int) < n := by omega
    refine wp1_go (n := 2000) ?_
    simp (disch := omega) only [wcQ, wcX, wcG, wcL, wcS, h89_49, w89_49, w89_51, w89_52, w89_55, w89_57, w89_58, w89_59, w89_61, w89_64, toI, toJ, toI64, inb_T, inb_iZ, Int.toNat_natCast, cl_0, cl_1, cl_2, cl_3, cl_4, cl_5, cl_6, cl_7, cl_8, cl_9, cl_10, cl_11, cl_12, cl_13, cl_14, cl_15, cl_16, cl_17, cl_18, cl_19, cl_20, cl_21, cl_22, cl_23, cl_24, cl_25, cl_26, cl_27, cl_28, cl_29, cl_30, cl_31, cl_32, cl_36, cl_40, cl_48, cl_60, cl_108, cl_120, cl_200, cl_201, cl_576, cl_600, cl_864, cl_900, cl_960, cl_5400, cl_8040, j2_0, iN_iZ, iN_lit0, iZ_add, iZ_sub, iZ_mul, iZ_neg, jZ_add, jZ_sub, jZ_mul, jZ_neg, isB0, isB1, isBZ, eq0, eq1, bZ0, vI_, vJ_, vA_, rI_, rJ_, rA_, rV_, nX_, tX_, true_and, and_true, false_and, and_false, and_self, implies_true, forall_const, not_true_eq_false, not_false_eq_true, false_implies, true_implies, ↓reduceIte, Nat.reduceEqDiff, Int.reduceToNat, Int.reduceAdd, Int.reduceSub, Int.reduceLT, Int.reduceLE, Int.reduceEq, Int.add_zero, Int.neg_zero, Int.add_sub_cancel, Int.reduceNeg, Nat.reduceLeDiff, Nat.reduceSub, true_or, or_true, false_or, or_false, setI_d, setJ_d, setP_d, mI_row, mJ_row, mP_row, mI_row_ne, mJ_row_ne, mP_row_ne, rowI_rowI, rowJ_rowJ, rowI_sort, rowJ_sort, rowJ_rowI, rowP_rowI, rowP_rowJ, fu_app, fu_fu, mI_rowJ, mI_rowP, mJ_rowI, mJ_rowP, mP_rowI, mP_rowJ, mK_rowI, mN_rowI, mK_rowJ, mN_rowJ, mK_rowP, mN_rowP, oB_rowI, oB_rowJ, iA_rowI, iA_rowJ, iR_rowI, iR_rowJ, St_rowI, St_rowJ, K154 hS, O154 hS, P154_0 hS, P154_1 hS, P154_7 hS, P154_8 hS, P154_9 hS, P154_10 hS, P154_11 hS, P154_25 hS, P154_26 hS, P154_27 hS, P154_28 hS, P154_29 hS, P154_30 hS, P154_31 hS, P154_32 hS, P154_33 hS, P154_34 hS, P154_35 hS, P154_36 hS, P154_37 hS, P154_38 hS, P154_39 hS, P154_40 hS, P154_41 hS, P154_46 hS, P154_47 hS, P154_48 hS, P154_49 hS, P154_50 hS, P154_51 hS, P154_52 hS, P154_53 hS, P154_54 hS, P154_55 hS, P154_56 hS, P154_57 hS, P154_58 hS, P154_59 hS, P154_60 hS, P154_61 hS, P154_62 hS, P154_63 hS, P154_64 hS, P154_65 hS, P154_68 hS, P154_69 hS, P154_70 hS, P154_71 hS, P154_72 hS, P154_73 hS, P154_74 hS, P154_75 hS, P154_76 hS, P154_77 hS, P154_78 hS, P154_79 hS, P154_80 hS, P154_81 hS, P154_82 hS, P154_83 hS, P154_84 hS, P154_85 hS, P154_86 hS, P154_87 hS, P154_88 hS, P154_89 hS, hk']
    rw [show ((m ^ k : Nat) : Int) * m = ((m ^ (k + 1) : Nat) : Int) by rw [Nat.pow_succ, Int.natCast_mul]]
    exact K _ _ ⟨rfl, rfl⟩
  · intro ls M' ⟨hl, hM⟩
    subst hl hM
    refine wp1_go (n := 2000) ?_
    simp (disch := omega) only [wcQ, wcX, wcG, wcL, wcS, h89_49, w89_49, w89_51, w89_52, w89_55, w89_57, w89_58, w89_59, w89_61, w89_64, w89_67, w89_68, w89_70, w89_71, w89_73, w89_74, w89_76, w89_77, toI, toJ, toI64, inb_T, inb_iZ, Int.toNat_natCast, cl_0, cl_1, cl_2, cl_3, cl_4, cl_5, cl_6, cl_7, cl_8, cl_9, cl_10, cl_11, cl_12, cl_13, cl_14, cl_15, cl_16, cl_17, cl_18, cl_19, cl_20, cl_21, cl_22, cl_23, cl_24, cl_25, cl_26, cl_27, cl_28, cl_29, cl_30, cl_31, cl_32, cl_36, cl_40, cl_48, cl_60, cl_108, cl_120, cl_200, cl_201, cl_576, cl_600, cl_864, cl_900, cl_960, cl_5400, cl_8040, j2_0, iN_iZ, iN_lit0, iZ_add, iZ_sub, iZ_mul, iZ_neg, jZ_add, jZ_sub, jZ_mul, jZ_neg, isB0, isB1, isBZ, eq0, eq1, bZ0, vI_, vJ_, vA_, rI_, rJ_, rA_, rV_, nX_, tX_, true_and, and_true, false_and, and_false, and_self, implies_true, forall_const, not_true_eq_false, not_false_eq_true, false_implies, true_implies, ↓reduceIte, Nat.reduceEqDiff, Int.reduceToNat, Int.reduceAdd, Int.reduceSub, Int.reduceLT, Int.reduceLE, Int.reduceEq, Int.add_zero, Int.neg_zero, Int.add_sub_cancel, Int.reduceNeg, Nat.reduceLeDiff, Nat.reduceSub, true_or, or_true, false_or, or_false, setI_d, setJ_d, setP_d, mI_row, mJ_row, mP_row, mI_row_ne, mJ_row_ne, mP_row_ne, rowI_rowI, rowJ_rowJ, rowI_sort, rowJ_sort, rowJ_rowI, rowP_rowI, rowP_rowJ, fu_app, fu_fu, mI_rowJ, mI_rowP, mJ_rowI, mJ_rowP, mP_rowI, mP_rowJ, mK_rowI, mN_rowI, mK_rowJ, mN_rowJ, mK_rowP, mN_rowP, oB_rowI, oB_rowJ, iA_rowI, iA_rowJ, iR_rowI, iR_rowJ, St_rowI, St_rowJ, K154 hS, O154 hS, P154_0 hS, P154_1 hS, P154_7 hS, P154_8 hS, P154_9 hS, P154_10 hS, P154_11 hS, P154_25 hS, P154_26 hS, P154_27 hS, P154_28 hS, P154_29 hS, P154_30 hS, P154_31 hS, P154_32 hS, P154_33 hS, P154_34 hS, P154_35 hS, P154_36 hS, P154_37 hS, P154_38 hS, P154_39 hS, P154_40 hS, P154_41 hS, P154_46 hS, P154_47 hS, P154_48 hS, P154_49 hS, P154_50 hS, P154_51 hS, P154_52 hS, P154_53 hS, P154_54 hS, P154_55 hS, P154_56 hS, P154_57 hS, P154_58 hS, P154_59 hS, P154_60 hS, P154_61 hS, P154_62 hS, P154_63 hS, P154_64 hS, P154_65 hS, P154_68 hS, P154_69 hS, P154_70 hS, P154_71 hS, P154_72 hS, P154_73 hS, P154_74 hS, P154_75 hS, P154_76 hS, P154_77 hS, P154_78 hS, P154_79 hS, P154_80 hS, P154_81 hS, P154_82 hS, P154_83 hS, P154_84 hS, P154_85 hS, P154_86 hS, P154_87 hS, P154_88 hS, P154_89 hS, Int.lt_irrefl]
    refine loopN (m ^ n) (fun x ls M' => ∃ (b r f : Int) (t1 t2 t3 t4 t5 t6 t7 t8 : AV) (A U : Nat → Int32), ls = [aR (some 154), aI (iZ n), aI (iZ m), aI (iZ u), aI (iZ ((m ^ n : Nat) : Int)), aI (iZ b), aI (iZ r), aI (iZ f), aI (iZ x), t1, t2, t3, t4, t5, t6, t7, t8] ∧ M' = rowI (rowI (rowI M 154 (fu (mI M 154) 2 (iZ 0))) 213 A) 214 U ∧ (-1 ≤ b ∧ b < 65536 ∧ 0 ≤ r ∧ r ≤ 9 ∧ 0 ≤ f ∧ f ≤ 8) ∧ (¬ n ≤ m * u → b = -1) ∧ (n ≤ m * u → x ≤ X_ n m → b = -1 ∨ r < R_ n m) ∧ (n ≤ m * u → X_ n m < x → b = btD (cyc m) n ∧ r = R_ n m ∧ f = U_ n m)) ?_ ?_ ?_
    · exact ⟨-1, 0, 0, aU, aU, aU, aU, aU, aU, aU, aU, _, _, rfl, hself, by omega, fun _ => rfl, fun _ _ => Or.inl rfl, fun _ h => absurd h (by omega)⟩
    · intro x hx ls M' ⟨b, r, f, t1, t2, t3, t4, t5, t6, t7, t8, A, U, hl, hM, hb, h1, h2, h3⟩ K
      subst hl hM
      have hx' : (x : Int) < ((m ^ n : Nat) : Int) := by omega
      refine wp1_go (n := 2000) ?_
      simp (disch := omega) only [wcQ, wcX, wcG, wcL, wcS, h89_79, w89_79, w89_81, w89_83, w89_86, w89_87, w89_89, w89_91, w89_93, w89_94, w89_96, w89_97, w89_99, w89_100, h89_102, w89_102, toI, toJ, toI64, inb_T, inb_iZ, Int.toNat_natCast, cl_0, cl_1, cl_2, cl_3, cl_4, cl_5, cl_6, cl_7, cl_8, cl_9, cl_10, cl_11, cl_12, cl_13, cl_14, cl_15, cl_16, cl_17, cl_18, cl_19, cl_20, cl_21, cl_22, cl_23, cl_24, cl_25, cl_26, cl_27, cl_28, cl_29, cl_30, cl_31, cl_32, cl_36, cl_40, cl_48, cl_60, cl_108, cl_120, cl_200, cl_201, cl_576, cl_600, cl_864, cl_900, cl_960, cl_5400, cl_8040, j2_0, iN_iZ, iN_lit0, iZ_add, iZ_sub, iZ_mul, iZ_neg, jZ_add, jZ_sub, jZ_mul, jZ_neg, isB0, isB1, isBZ, eq0, eq1, bZ0, vI_, vJ_, vA_, rI_, rJ_, rA_, rV_, nX_, tX_, true_and, and_true, false_and, and_false, and_self, implies_true, forall_const, not_true_eq_false, not_false_eq_true, false_implies, true_implies, ↓reduceIte, Nat.reduceEqDiff, Int.reduceToNat, Int.reduceAdd, Int.reduceSub, Int.reduceLT, Int.reduceLE, Int.reduceEq, Int.add_zero, Int.neg_zero, Int.add_sub_cancel, Int.reduceNeg, Nat.reduceLeDiff, Nat.reduceSub, true_or, or_true, false_or, or_false, setI_d, setJ_d, setP_d, mI_row, mJ_row, mP_row, mI_row_ne, mJ_row_ne, mP_row_ne, rowI_rowI, rowJ_rowJ, rowI_sort, rowJ_sort, rowJ_rowI, rowP_rowI, rowP_rowJ, fu_app, fu_fu, mI_rowJ, mI_rowP, mJ_rowI, mJ_rowP, mP_rowI, mP_rowJ, mK_rowI, mN_rowI, mK_rowJ, mN_rowJ, mK_rowP, mN_rowP, oB_rowI, oB_rowJ, iA_rowI, iA_rowJ, iR_rowI, iR_rowJ, St_rowI, St_rowJ, K154 hS, O154 hS, P154_0 hS, P154_1 hS, P154_7 hS, P154_8 hS, P154_9 hS, P154_10 hS, P154_11 hS, P154_25 hS, P154_26 hS, P154_27 hS, P154_28 hS, P154_29 hS, P154_30 hS, P154_31 hS, P154_32 hS, P154_33 hS, P154_34 hS, P154_35 hS, P154_36 hS, P154_37 hS, P154_38 hS, P154_39 hS, P154_40 hS, P154_41 hS, P154_46 hS, P154_47 hS, P154_48 hS, P154_49 hS, P154_50 hS, P154_51 hS, P154_52 hS, P154_53 hS, P154_54 hS, P154_55 hS, P154_56 hS, P154_57 hS, P154_58 hS, P154_59 hS, P154_60 hS, P154_61 hS, P154_62 hS, P154_63 hS, P154_64 hS, P154_65 hS, P154_68 hS, P154_69 hS, P154_70 hS, P154_71 hS, P154_72 hS, P154_73 hS, P154_74 hS, P154_75 hS, P154_76 hS, P154_77 hS, P154_78 hS, P154_79 hS, P154_80 hS, P154_81 hS, P154_82 hS, P154_83 hS, P154_84 hS, P154_85 hS, P154_86 hS, P154_87 hS, P154_88 hS, P154_89 hS, hx']
      refine loopN m (fun p ls M' => ∃ t6 t7 t8 A U, ls = [aR (some 154), aI (iZ n), aI (iZ m), aI (iZ u), aI (iZ ((m ^ n : Nat) : Int)), aI (iZ b), aI (iZ r), aI (iZ f), aI (iZ x), aI (iZ 0), aI (iZ 9), aI (iZ 0), aI (iZ 1), aI (iZ p), t6, t7, t8] ∧ M' = rowI (rowI (rowI M 154 (fu (mI M 154) 2 (iZ 0))) 213 A) 214 U ∧ ∀ q, q < p → A q = iZ (-1) ∧ U q = iZ 0) ⟨_, _, _, _, _, rfl, rfl, fun q hq => absurd hq (by omega)⟩ ?_ ?_
      · intro p hp ls M' ⟨t6, t7, t8, A, U, hl, hM, hAU⟩ K
        subst hl hM
        have hp' : (p : Int) < m := by omega
        refine wp1_go (n := 2000) ?_
        simp (disch := omega) only [wcQ, wcX, wcG, wcL, wcS, h89_102, w89_102, w89_104, w89_105, w89_108, w89_109, w89_112, w89_114, w89_115, w89_116, w89_117, w89_120, w89_122, w89_123, w89_124, w89_127, toI, toJ, toI64, inb_T, inb_iZ, Int.toNat_natCast, cl_0, cl_1, cl_2, cl_3, cl_4, cl_5, cl_6, cl_7, cl_8, cl_9, cl_10, cl_11, cl_12, cl_13, cl_14, cl_15, cl_16, cl_17, cl_18, cl_19, cl_20, cl_21, cl_22, cl_23, cl_24, cl_25, cl_26, cl_27, cl_28, cl_29, cl_30, cl_31, cl_32, cl_36, cl_40, cl_48, cl_60, cl_108, cl_120, cl_200, cl_201, cl_576, cl_600, cl_864, cl_900, cl_960, cl_5400, cl_8040, j2_0, iN_iZ, iN_lit0, iZ_add, iZ_sub, iZ_mul, iZ_neg, jZ_add, jZ_sub, jZ_mul, jZ_neg, isB0, isB1, isBZ, eq0, eq1, bZ0, vI_, vJ_, vA_, rI_, rJ_, rA_, rV_, nX_, tX_, true_and, and_true, false_and, and_false, and_self, implies_true, forall_const, not_true_eq_false, not_false_eq_true, false_implies, true_implies, ↓reduceIte, Nat.reduceEqDiff, Int.reduceToNat, Int.reduceAdd, Int.reduceSub, Int.reduceLT, Int.reduceLE, Int.reduceEq, Int.add_zero, Int.neg_zero, Int.add_sub_cancel, Int.reduceNeg, Nat.reduceLeDiff, Nat.reduceSub, true_or, or_true, false_or, or_false, setI_d, setJ_d, setP_d, mI_row, mJ_row, mP_row, mI_row_ne, mJ_row_ne, mP_row_ne, rowI_rowI, rowJ_rowJ, rowI_sort, rowJ_sort, rowJ_rowI, rowP_rowI, rowP_rowJ, fu_app, fu_fu, mI_rowJ, mI_rowP, mJ_rowI, mJ_rowP, mP_rowI, mP_rowJ, mK_rowI, mN_rowI, mK_rowJ, mN_rowJ, mK_rowP, mN_rowP, oB_rowI, oB_rowJ, iA_rowI, iA_rowJ, iR_rowI, iR_rowJ, St_rowI, St_rowJ, K154 hS, O154 hS, P154_0 hS, P154_1 hS, P154_7 hS, P154_8 hS, P154_9 hS, P154_10 hS, P154_11 hS, P154_25 hS, P154_26 hS, P154_27 hS, P154_28 hS, P154_29 hS, P154_30 hS, P154_31 hS, P154_32 hS, P154_33 hS, P154_34 hS, P154_35 hS, P154_36 hS, P154_37 hS, P154_38 hS, P154_39 hS, P154_40 hS, P154_41 hS, P154_46 hS, P154_47 hS, P154_48 hS, P154_49 hS, P154_50 hS, P154_51 hS, P154_52 hS, P154_53 hS, P154_54 hS, P154_55 hS, P154_56 hS, P154_57 hS, P154_58 hS, P154_59 hS, P154_60 hS, P154_61 hS, P154_62 hS, P154_63 hS, P154_64 hS, P154_65 hS, P154_68 hS, P154_69 hS, P154_70 hS, P154_71 hS, P154_72 hS, P154_73 hS, P154_74 hS, P154_75 hS, P154_76 hS, P154_77 hS, P154_78 hS, P154_79 hS, P154_80 hS, P154_81 hS, P154_82 hS, P154_83 hS, P154_84 hS, P154_85 hS, P154_86 hS, P154_87 hS, P154_88 hS, P154_89 hS, K213 hS, O213 hS, A213 hS, K214 hS, O214 hS, A214 hS, hp']
        refine K _ _ ⟨_, _, _, _, _, rfl, rfl, fun q hq => ?_⟩
        unfold fu
        by_cases z : q = p
        · rw [if_pos z, if_pos z]; exact ⟨rfl, rfl⟩
        · rw [if_neg z, if_neg z]; exact hAU q (by omega)
      · intro ls M' ⟨t6, t7, t8, A, U, hl, hM, hAU⟩
        subst hl hM
        refine wp1_go (n := 2000) ?_
        simp (disch := omega) only [wcQ, wcX, wcG, wcL, wcS, h89_102, w89_102, w89_104, w89_105, w89_130, w89_132, w89_134, w89_136, w89_138, w89_139, h89_141, w89_141, toI, toJ, toI64, inb_T, inb_iZ, Int.toNat_natCast, cl_0, cl_1, cl_2, cl_3, cl_4, cl_5, cl_6, cl_7, cl_8, cl_9, cl_10, cl_11, cl_12, cl_13, cl_14, cl_15, cl_16, cl_17, cl_18, cl_19, cl_20, cl_21, cl_22, cl_23, cl_24, cl_25, cl_26, cl_27, cl_28, cl_29, cl_30, cl_31, cl_32, cl_36, cl_40, cl_48, cl_60, cl_108, cl_120, cl_200, cl_201, cl_576, cl_600, cl_864, cl_900, cl_960, cl_5400, cl_8040, j2_0, iN_iZ, iN_lit0, iZ_add, iZ_sub, iZ_mul, iZ_neg, jZ_add, jZ_sub, jZ_mul, jZ_neg, isB0, isB1, isBZ, eq0, eq1, bZ0, vI_, vJ_, vA_, rI_, rJ_, rA_, rV_, nX_, tX_, true_and, and_true, false_and, and_false, and_self, implies_true, forall_const, not_true_eq_false, not_false_eq_true, false_implies, true_implies, ↓reduceIte, Nat.reduceEqDiff, Int.reduceToNat, Int.reduceAdd, Int.reduceSub, Int.reduceLT, Int.reduceLE, Int.reduceEq, Int.add_zero, Int.neg_zero, Int.add_sub_cancel, Int.reduceNeg, Nat.reduceLeDiff, Nat.reduceSub, true_or, or_true, false_or, or_false, setI_d, setJ_d, setP_d, mI_row, mJ_row, mP_row, mI_row_ne, mJ_row_ne, mP_row_ne, rowI_rowI, rowJ_rowJ, rowI_sort, rowJ_sort, rowJ_rowI, rowP_rowI, rowP_rowJ, fu_app, fu_fu, mI_rowJ, mI_rowP, mJ_rowI, mJ_rowP, mP_rowI, mP_rowJ, mK_rowI, mN_rowI, mK_rowJ, mN_rowJ, mK_rowP, mN_rowP, oB_rowI, oB_rowJ, iA_rowI, iA_rowJ, iR_rowI, iR_rowJ, St_rowI, St_rowJ, K154 hS, O154 hS, P154_0 hS, P154_1 hS, P154_7 hS, P154_8 hS, P154_9 hS, P154_10 hS, P154_11 hS, P154_25 hS, P154_26 hS, P154_27 hS, P154_28 hS, P154_29 hS, P154_30 hS, P154_31 hS, P154_32 hS, P154_33 hS, P154_34 hS, P154_35 hS, P154_36 hS, P154_37 hS, P154_38 hS, P154_39 hS, P154_40 hS, P154_41 hS, P154_46 hS, P154_47 hS, P154_48 hS, P154_49 hS, P154_50 hS, P154_51 hS, P154_52 hS, P154_53 hS, P154_54 hS, P154_55 hS, P154_56 hS, P154_57 hS, P154_58 hS, P154_59 hS, P154_60 hS, P154_61 hS, P154_62 hS, P154_63 hS, P154_64 hS, P154_65 hS, P154_68 hS, P154_69 hS, P154_70 hS, P154_71 hS, P154_72 hS, P154_73 hS, P154_74 hS, P154_75 hS, P154_76 hS, P154_77 hS, P154_78 hS, P154_79 hS, P154_80 hS, P154_81 hS, P154_82 hS, P154_83 hS, P154_84 hS, P154_85 hS, P154_86 hS, P154_87 hS, P154_88 hS, P154_89 hS, Int.lt_irrefl]
        refine loopN n (fun k ls M' => ∃ p0 A U, ls = [aR (some 154), aI (iZ n), aI (iZ m), aI (iZ u), aI (iZ ((m ^ n : Nat) : Int)), aI (iZ b), aI (iZ r), aI (iZ f), aI (iZ x), aI (iZ (btD (dg n m x) k)), aI (iZ (rsD (dg n m x) k)), aI (iZ (udD (dg n m x) k)), aI (bZ (cnD (dg n m x) u k = true)), aI (iZ ((m ^ (n - k) : Nat) : Int)), aI (iZ (qd n m x k)), aI (iZ k), p0] ∧ M' = rowI (rowI (rowI M 154 (fu (mI M 154) 2 (iZ 0))) 213 A) 214 U ∧ (∀ p, p < m → A p = iZ (uaD (dg n m x) k p)) ∧ ∀ p, p < m → U p = iZ (usD (dg n m x) k p)) ?_ ?_ ?_
        · exact ⟨_, _, _, rfl, rfl, fun p hp => (hAU p hp).1, fun p hp => (hAU p hp).2⟩
        · intro k hk ls M' ⟨p0, A, U, hl, hM, hA, hU⟩ K
          subst hl hM
          exact c89k hst hS n8 m1 m4 u8 hx hk hA hU (fun p' A' U' hA' hU' => K _ _ ⟨_, _, _, rfl, rfl, hA', hU'⟩)
        · intro ls M' ⟨p0, A, U, hl, hM, hA, hU⟩
          subst hl hM
          obtain ⟨x1, x2⟩ := a1 x hx
          have x3 : ¬ n ≤ m * u → cnD (dg n m x) u n = false := fun h => pk_no m1 m4 (by omega) hx
          have x4 : n ≤ m * u → x = X_ n m → cnD (dg n m x) u n = true ∧ btD (dg n m x) n = btD (cyc m) n ∧ rsD (dg n m x) n = R_ n m ∧ udD (dg n m x) n = U_ n m := fun h e => by
            rw [e, hXc, hX, hXr, hXu]
            exact ⟨decide_eq_true h, rfl, rfl, rfl⟩
          have x5 := bt_lt (D := dg n m x) n (fun j hj => by have := dg_lt (n := n) (m := m) (by omega) hj hx; omega)
          have x6 : 2 ^ (2 * n) ≤ 2 ^ 16 := Nat.pow_le_pow_right (by decide) (by omega)
          have x7 := ud_b (D := dg n m x) n
          have x8 := rs_b (D := dg n m x) n
          generalize hC : cnD (dg n m x) u n = C at *
          generalize hBt : btD (dg n m x) n = bt at *
          generalize hRs : rsD (dg n m x) n = rs at *
          generalize hUd : udD (dg n m x) n = ud at *
          have kS : ∀ (t1 t2 t3 t4 t5 t6 t7 t8 : AV), ¬ (C = true ∧ (b = -1 ∨ (¬ rs < r ∧ (rs = r → (ud : Int) < f)))) → Go G (d + 1) 89 (rI fun v M' => v = iZ (if n ≤ m * u then ((btD (cyc m) n : Nat) : Int) else -1) ∧ ∃ A U, M' = rowI (rowI (rowI M 154 (fu (mI M 154) 2 (iZ 0))) 213 A) 214 U) nX 79 [aR (some 154), aI (iZ n), aI (iZ m), aI (iZ u), aI (iZ ((m ^ n : Nat) : Int)), aI (iZ b), aI (iZ r), aI (iZ f), aI (iZ ((x + 1 : Nat) : Int)), t1, t2, t3, t4, t5, t6, t7, t8] [] (rowI (rowI (rowI M 154 (fu (mI M 154) 2 (iZ 0))) 213 A) 214 U) 0 := fun t1 t2 t3 t4 t5 t6 t7 t8 hno => by
            refine K _ _ ⟨b, r, f, _, _, _, _, _, _, _, _, _, _, rfl, rfl, hb, h1, fun w hX' => h2 w (by omega), fun w hX' => ?_⟩
            by_cases e : x = X_ n m
            · exfalso
              obtain ⟨y1, y2, y3, y4⟩ := x4 w e
              have := h2 w (by omega)
              refine hno ⟨y1, ?_⟩
              rcases this with this | this
              · exact Or.inl this
              · exact Or.inr ⟨by omega, fun _ => by omega⟩
            · exact h3 w (by omega)
          have kT : ∀ (t1 t2 t3 t4 t5 t6 t7 t8 : AV), (C = true ∧ (b = -1 ∨ (¬ rs < r ∧ (rs = r → (ud : Int) < f)))) → Go G (d + 1) 89 (rI fun v M' => v = iZ (if n ≤ m * u then ((btD (cyc m) n : Nat) : Int) else -1) ∧ ∃ A U, M' = rowI (rowI (rowI M 154 (fu (mI M 154) 2 (iZ 0))) 213 A) 214 U) nX 79 [aR (some 154), aI (iZ n), aI (iZ m), aI (iZ u), aI (iZ ((m ^ n : Nat) : Int)), aI (iZ bt), aI (iZ rs), aI (iZ ud), aI (iZ ((x + 1 : Nat) : Int)), t1, t2, t3, t4, t5, t6, t7, t8] [] (rowI (rowI (rowI M 154 (fu (mI M 154) 2 (iZ 0))) 213 A) 214 U) 0 := fun t1 t2 t3 t4 t5 t6 t7 t8 hyes => by
            have w : n ≤ m * u := Classical.byContradiction fun w => by rw [x3 w] at hyes; cases hyes.1
            refine K _ _ ⟨bt, rs, ud, _, _, _, _, _, _, _, _, _, _, rfl, rfl, by omega, fun h => absurd w h, fun _ hX' => Or.inr ?_, fun _ hX' => ?_⟩
            · have := x2; omega
            · by_cases e : x = X_ n m
              · obtain ⟨y1, y2, y3, y4⟩ := x4 w e
                exact ⟨by omega, y3, by omega⟩
              · exfalso
                have := h3 w (by omega)
                rcases hyes.2 with y | ⟨y1, y2⟩
                · omega
                · have := x2; omega
          refine wp1_go (n := 2000) ?_
          simp (disch := omega) only [wcQ, wcX, wcG, wcL, wcS, h89_141, w89_141, w89_143, w89_144, w89_262, w89_264, w89_267, w89_269, w89_270, w89_273, w89_275, w89_277, w89_280, w89_282, w89_284, w89_287, w89_289, w89_291, w89_294, w89_297, w89_299, w89_301, w89_303, w89_305, w89_307, w89_309, w89_312, toI, toJ, toI64, inb_T, inb_iZ, Int.toNat_natCast, cl_0, cl_1, cl_2, cl_3, cl_4, cl_5, cl_6, cl_7, cl_8, cl_9, cl_10, cl_11, cl_12, cl_13, cl_14, cl_15, cl_16, cl_17, cl_18, cl_19, cl_20, cl_21, cl_22, cl_23, cl_24, cl_25, cl_26, cl_27, cl_28, cl_29, cl_30, cl_31, cl_32, cl_36, cl_40, cl_48, cl_60, cl_108, cl_120, cl_200, cl_201, cl_576, cl_600, cl_864, cl_900, cl_960, cl_5400, cl_8040, j2_0, iN_iZ, iN_lit0, iZ_add, iZ_sub, iZ_mul, iZ_neg, jZ_add, jZ_sub, jZ_mul, jZ_neg, isB0, isB1, isBZ, eq0, eq1, bZ0, vI_, vJ_, vA_, rI_, rJ_, rA_, rV_, nX_, tX_, true_and, and_true, false_and, and_false, and_self, implies_true, forall_const, not_true_eq_false, not_false_eq_true, false_implies, true_implies, ↓reduceIte, Nat.reduceEqDiff, Int.reduceToNat, Int.reduceAdd, Int.reduceSub, Int.reduceLT, Int.reduceLE, Int.reduceEq, Int.add_zero, Int.neg_zero, Int.add_sub_cancel, Int.reduceNeg, Nat.reduceLeDiff, Nat.reduceSub, true_or, or_true, false_or, or_false, setI_d, setJ_d, setP_d, mI_row, mJ_row, mP_row, mI_row_ne, mJ_row_ne, mP_row_ne, rowI_rowI, rowJ_rowJ, rowI_sort, rowJ_sort, rowJ_rowI, rowP_rowI, rowP_rowJ, fu_app, fu_fu, mI_rowJ, mI_rowP, mJ_rowI, mJ_rowP, mP_rowI, mP_rowJ, mK_rowI, mN_rowI, mK_rowJ, mN_rowJ, mK_rowP, mN_rowP, oB_rowI, oB_rowJ, iA_rowI, iA_rowJ, iR_rowI, iR_rowJ, St_rowI, St_rowJ, K154 hS, O154 hS, P154_0 hS, P154_1 hS, P154_7 hS, P154_8 hS, P154_9 hS, P154_10 hS, P154_11 hS, P154_25 hS, P154_26 hS, P154_27 hS, P154_28 hS, P154_29 hS, P154_30 hS, P154_31 hS, P154_32 hS, P154_33 hS, P154_34 hS, P154_35 hS, P154_36 hS, P154_37 hS, P154_38 hS, P154_39 hS, P154_40 hS, P154_41 hS, P154_46 hS, P154_47 hS, P154_48 hS, P154_49 hS, P154_50 hS, P154_51 hS, P154_52 hS, P154_53 hS, P154_54 hS, P154_55 hS, P154_56 hS, P154_57 hS, P154_58 hS, P154_59 hS, P154_60 hS, P154_61 hS, P154_62 hS, P154_63 hS, P154_64 hS, P154_65 hS, P154_68 hS, P154_69 hS, P154_70 hS, P154_71 hS, P154_72 hS, P154_73 hS, P154_74 hS, P154_75 hS, P154_76 hS, P154_77 hS, P154_78 hS, P154_79 hS, P154_80 hS, P154_81 hS, P154_82 hS, P154_83 hS, P154_84 hS, P154_85 hS, P154_86 hS, P154_87 hS, P154_88 hS, P154_89 hS, Int.lt_irrefl]
          repeat' (first | (apply sp2 <;> intro _))
          all_goals first
            | (refine kT _ _ _ _ _ _ _ _ ?_; refine ⟨Classical.not_not.mp ‹¬¬C = true›, ?_⟩; omega)
            | (refine kS _ _ _ _ _ _ _ _ ?_; rintro ⟨w1, w2⟩; exact absurd w1 ‹¬C = true›)
            | (refine kS _ _ _ _ _ _ _ _ ?_; rintro ⟨w1, w2⟩; omega)
    · intro ls M' ⟨b, r, f, t1, t2, t3, t4, t5, t6, t7, t8, A, U, hl, hM, hb, h1, h2, h3⟩
      subst hl hM
      refine wp1_go (n := 2000) ?_
      simp (disch := omega) only [wcQ, wcX, wcG, wcL, wcS, h89_79, w89_79, w89_81, w89_83, w89_315, w89_317, toI, toJ, toI64, inb_T, inb_iZ, Int.toNat_natCast, cl_0, cl_1, cl_2, cl_3, cl_4, cl_5, cl_6, cl_7, cl_8, cl_9, cl_10, cl_11, cl_12, cl_13, cl_14, cl_15, cl_16, cl_17, cl_18, cl_19, cl_20, cl_21, cl_22, cl_23, cl_24, cl_25, cl_26, cl_27, cl_28, cl_29, cl_30, cl_31, cl_32, cl_36, cl_40, cl_48, cl_60, cl_108, cl_120, cl_200, cl_201, cl_576, cl_600, cl_864, cl_900, cl_960, cl_5400, cl_8040, j2_0, iN_iZ, iN_lit0, iZ_add, iZ_sub, iZ_mul, iZ_neg, jZ_add, jZ_sub, jZ_mul, jZ_neg, isB0, isB1, isBZ, eq0, eq1, bZ0, vI_, vJ_, vA_, rI_, rJ_, rA_, rV_, nX_, tX_, true_and, and_true, false_and, and_false, and_self, implies_true, forall_const, not_true_eq_false, not_false_eq_true, false_implies, true_implies, ↓reduceIte, Nat.reduceEqDiff, Int.reduceToNat, Int.reduceAdd, Int.reduceSub, Int.reduceLT, Int.reduceLE, Int.reduceEq, Int.add_zero, Int.neg_zero, Int.add_sub_cancel, Int.reduceNeg, Nat.reduceLeDiff, Nat.reduceSub, true_or, or_true, false_or, or_false, setI_d, setJ_d, setP_d, mI_row, mJ_row, mP_row, mI_row_ne, mJ_row_ne, mP_row_ne, rowI_rowI, rowJ_rowJ, rowI_sort, rowJ_sort, rowJ_rowI, rowP_rowI, rowP_rowJ, fu_app, fu_fu, mI_rowJ, mI_rowP, mJ_rowI, mJ_rowP, mP_rowI, mP_rowJ, mK_rowI, mN_rowI, mK_rowJ, mN_rowJ, mK_rowP, mN_rowP, oB_rowI, oB_rowJ, iA_rowI, iA_rowJ, iR_rowI, iR_rowJ, St_rowI, St_rowJ, K154 hS, O154 hS, P154_0 hS, P154_1 hS, P154_7 hS, P154_8 hS, P154_9 hS, P154_10 hS, P154_11 hS, P154_25 hS, P154_26 hS, P154_27 hS, P154_28 hS, P154_29 hS, P154_30 hS, P154_31 hS, P154_32 hS, P154_33 hS, P154_34 hS, P154_35 hS, P154_36 hS, P154_37 hS, P154_38 hS, P154_39 hS, P154_40 hS, P154_41 hS, P154_46 hS, P154_47 hS, P154_48 hS, P154_49 hS, P154_50 hS, P154_51 hS, P154_52 hS, P154_53 hS, P154_54 hS, P154_55 hS, P154_56 hS, P154_57 hS, P154_58 hS, P154_59 hS, P154_60 hS, P154_61 hS, P154_62 hS, P154_63 hS, P154_64 hS, P154_65 hS, P154_68 hS, P154_69 hS, P154_70 hS, P154_71 hS, P154_72 hS, P154_73 hS, P154_74 hS, P154_75 hS, P154_76 hS, P154_77 hS, P154_78 hS, P154_79 hS, P154_80 hS, P154_81 hS, P154_82 hS, P154_83 hS, P154_84 hS, P154_85 hS, P154_86 hS, P154_87 hS, P154_88 hS, P154_89 hS, Int.lt_irrefl]
      refine ⟨?_, A, U, rfl⟩
      by_cases w : n ≤ m * u
      · rw [if_pos w, (h3 w a2).1]
      · rw [if_neg w, h1 w]
end

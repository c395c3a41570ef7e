/-! CARDS: the reference's call. -/
section
variable {G : GE} {d : Nat} {M M' M'' : Mem} {B : Nat → Nat} {n b r s m p u tr : Nat} {q : Bk} {last D t : Int} {rows : Rw} {re : Bool}
def hasP (rows : Rw) (j : Nat) : Prop := ∃ l, (j, l) ∈ rows
/-- which parts are on the card -/
def MB (M : Mem) (m : Nat) (rows : Rw) : Prop := ∃ z : Nat, z < 256 ∧ mI M 190 m = iZ z ∧ ∀ j, j < 8 → (z / 2 ^ j % 2 = 1 ↔ hasP rows j)
/-- a card as the reference keeps it -/
def MCd (M : Mem) (m u : Nat) (D : Int) (rows : Rw) (t : Int) (re : Bool) : Prop := mI M 186 m = iZ u ∧ mI M 187 m = iZ D ∧ mI M 188 m = iZ t ∧ MF M m (flt rows) ∧ MB M m rows ∧ mI M 194 m = if re then iZ 1 else iZ 0
/-- but for the scanner and card m all is as it was -/
def Hk (M M' : Mem) (m : Nat) : Prop := mK M' = mK M ∧ mN M' = mN M ∧ mP M' = mP M ∧ mJ M' = mJ M ∧ (∀ c, c ≠ 154 → (c < 186 ∨ 194 < c) → mI M' c = mI M c) ∧ (∀ j, j ≠ 2 → j ≠ 12 → j ≠ 44 → (j < 13 ∨ 22 < j) → mI M' 154 j = mI M 154 j) ∧ (∀ c, 186 ≤ c → c ≤ 194 → c ≠ 191 → c ≠ 192 → c ≠ 193 → ∀ j, j ≠ m → mI M' c j = mI M c j) ∧ ∀ j, j < 40 * m → mI M' 191 j = mI M 191 j ∧ mI M' 192 j = mI M 192 j ∧ mI M' 193 j = mI M 193 j
theorem Hk_tr (h : Hk M M' m) (h' : Hk M' M'' m) : Hk M M'' m := by
  obtain ⟨a1, a2, a3, a4, a5, a6, a7, a8⟩ := h
  obtain ⟨b1, b2, b3, b4, b5, b6, b7, b8⟩ := h'
  exact ⟨b1.trans a1, b2.trans a2, b3.trans a3, b4.trans a4, fun c h1 h2 => (b5 c h1 h2).trans (a5 c h1 h2), fun j h1 h2 h3 h4 => (b6 j h1 h2 h3 h4).trans (a6 j h1 h2 h3 h4), fun c h1 h2 h3 h4 h5 j h6 => (b7 c h1 h2 h3 h4 h5 j h6).trans (a7 c h1 h2 h3 h4 h5 j h6), fun j h => ⟨((b8 j h).1).trans (a8 j h).1, ((b8 j h).2.1).trans (a8 j h).2.1, ((b8 j h).2.2).trans (a8 j h).2.2⟩⟩
theorem Hf_Hk (h : Hf M M' m) : Hk M M' m := by
  obtain ⟨a1, a2, a3, a4, a5, a6, a7, a8⟩ := h
  refine ⟨a1, a2, a3, a4, fun c h1 h2 => a5 c h1 (by omega) (by omega) (by omega) (by omega), fun j h1 h2 h3 h4 => a6 j (by omega), fun c h1 h2 h3 h4 h5 j h6 => ?_, a8⟩
  by_cases z : c = 189
  · subst z; exact a7 j h6
  · rw [a5 c (by omega) z h3 h4 h5]
theorem Hk_row {c : Nat} {v : Int32} (h1 : 186 ≤ c) (h2 : c ≤ 194) (h3 : c ≠ 191) (h4 : c ≠ 192) (h5 : c ≠ 193) : Hk M (rowI M c (fu (mI M c) m v)) m := by
  refine ⟨rfl, rfl, rfl, rfl, fun a a1 a2 => mI_row_ne (by omega), fun j _ _ _ _ => by rw [mI_row_ne (by omega)], fun a a1 a2 a3 a4 a5 j hj => ?_, fun j _ => by rw [mI_row_ne (fun z => h3 z.symm), mI_row_ne (fun z => h4 z.symm), mI_row_ne (fun z => h5 z.symm)]; exact ⟨rfl, rfl, rfl⟩⟩
  by_cases z : a = c
  · subst z; rw [mI_row]; exact if_neg hj
  · rw [mI_row_ne z]
theorem Hk_154 {g : Nat → Int32} (hg : ∀ j, j ≠ 2 → j ≠ 12 → j ≠ 44 → (j < 13 ∨ 22 < j) → g j = mI M 154 j) : Hk M (rowI M 154 g) m :=
  ⟨rfl, rfl, rfl, rfl, fun a a1 a2 => mI_row_ne a1, fun j h1 h2 h3 h4 => by rw [mI_row]; exact hg j h1 h2 h3 h4, fun a a1 a2 _ _ _ j _ => by rw [mI_row_ne (by omega)], fun j _ => by rw [mI_row_ne (by decide), mI_row_ne (by decide), mI_row_ne (by decide)]; exact ⟨rfl, rfl, rfl⟩⟩
theorem Hk_S (h : Hk M M' m) (hS : Static M) : Static M' := by
  obtain ⟨a1, a2, a3, _⟩ := h
  unfold Static at *
  rw [a1, a2, a3]
  exact hS
theorem MC_Hk (h : MC M r s q) (hG : Hk M M' m) : MC M' r s q := by
  have e := hG.2.2.2.2.1
  have e := fun c (h : c < 186) (h1 : c ≠ 154) => e c h1 (Or.inl h)
  unfold MC ML NM at *
  rw [e 162 (by decide) (by decide), e 163 (by decide) (by decide), e 164 (by decide) (by decide), e 165 (by decide) (by decide), e 166 (by decide) (by decide), e 167 (by decide) (by decide), e 168 (by decide) (by decide), e 169 (by decide) (by decide), e 170 (by decide) (by decide), e 171 (by decide) (by decide), e 172 (by decide) (by decide), e 173 (by decide) (by decide), e 174 (by decide) (by decide), e 175 (by decide) (by decide), e 176 (by decide) (by decide)]
  exact h
/-- while the card is read -/
def HkS (M M' : Mem) (m u : Nat) (D : Int) : Prop := Hk M M' m ∧ mI M' 154 2 = iZ 0 ∧ mI M' 154 12 = iZ 0 ∧ mI M' 154 22 = iZ (-1) ∧ mI M' 154 44 = iZ m ∧ mI M' 186 m = iZ u ∧ mI M' 187 m = iZ D
theorem HkS_Hf (h : HkS M M' m u D) (h' : Hf M' M'' m) : HkS M M'' m u D := by
  obtain ⟨a1, a2, a3, a4, a5, a6, a7⟩ := h
  have e := h'.2.2.2.2.2.1
  have e2 := h'.2.2.2.2.1
  refine ⟨Hk_tr a1 (Hf_Hk h'), ?_, ?_, ?_, ?_, ?_, ?_⟩
  · rw [e 2 (by omega)]; exact a2
  · rw [e 12 (by omega)]; exact a3
  · rw [e 22 (by omega)]; exact a4
  · rw [e 44 (by omega)]; exact a5
  · rw [e2 186 (by decide) (by decide) (by decide) (by decide) (by decide)]; exact a6
  · rw [e2 187 (by decide) (by decide) (by decide) (by decide) (by decide)]; exact a7
theorem HkS_row {c : Nat} {v : Int32} (h : HkS M M' m u D) (h1 : 188 ≤ c) (h2 : c ≤ 194) (h3 : c ≠ 191) (h4 : c ≠ 192) (h5 : c ≠ 193) : HkS M (rowI M' c (fu (mI M' c) m v)) m u D := by
  obtain ⟨a1, a2, a3, a4, a5, a6, a7⟩ := h
  refine ⟨Hk_tr a1 (Hk_row (by omega) h2 h3 h4 h5), ?_⟩
  rw [mI_row_ne (by omega), mI_row_ne (by omega), mI_row_ne (by omega)]
  exact ⟨a2, a3, a4, a5, a6, a7⟩
/-- what the call leaves -/
def QK (M : Mem) (m u : Nat) (D : Int) (x : (Nat × Nat) ⊕ (Rw × Int × Bool)) (v : Int32) (M' : Mem) : Prop := Hk M M' m ∧ mI M' 154 2 = iZ 0 ∧ mI M' 154 12 = iZ 0 ∧ match x with
  | .inl (e, p) => v = iZ e ∧ mI M' 154 22 = iZ p ∧ mI M' 154 44 = iZ m
  | .inr (rows, t, re) => v = iZ 0 ∧ mI M' 154 22 = iZ (-1) ∧ mI M' 154 44 = iZ ((m + 1 : Nat) : Int) ∧ MCd M' m u D rows t re
theorem QK_i {x : (Nat × Nat) ⊕ (Rw × Int × Bool)} {e p : Nat} {v : Int32} (h : x = .inl (e, p)) : QK M m u D x v M' = (Hk M M' m ∧ mI M' 154 2 = iZ 0 ∧ mI M' 154 12 = iZ 0 ∧ v = iZ e ∧ mI M' 154 22 = iZ p ∧ mI M' 154 44 = iZ m) := by rw [h]; rfl
theorem QK_r {x : (Nat × Nat) ⊕ (Rw × Int × Bool)} {v : Int32} (h : x = .inr (rows, t, re)) : QK M m u D x v M' = (Hk M M' m ∧ mI M' 154 2 = iZ 0 ∧ mI M' 154 12 = iZ 0 ∧ v = iZ 0 ∧ mI M' 154 22 = iZ (-1) ∧ mI M' 154 44 = iZ ((m + 1 : Nat) : Int) ∧ MCd M' m u D rows t re) := by rw [h]; rfl
section
variable {R : (Nat × Nat) ⊕ (Rw × Int × Bool)} {Mi : Mem} {x1 x2 x3 x4 : Int32}
theorem c63x9 (hst : (gl G).stackTraces = false) (hS : Static M) (hH : HkS M Mi m u D) {e f : Nat} (hX : XM Mi e f) (hR : R = .inl (e, f)) : ∀ k, wp (WCo G (d + 11) 63 (rI fun v M' => QK M m u D R v M') nX) 63 (k + 100) 259 [aR (some 154), aI x1, aI x2, aI x3, aI x4] [] Mi 0 := by
  intro k
  have Si := Hk_S hH.1 hS
  obtain ⟨g20, y1, y4, g21⟩ := id hX
  have hz : ¬ (e : Int) = 0 := by omega
  obtain ⟨a1, a2, a3, a4, a5, a6, a7⟩ := hH
  simp (disch := omega) only [wcQ, wcX, wcG, wcL, wcS, w63_259, w63_260, w63_263, w63_266, w63_267, w63_268, w63_271, w63_274, w63_275, w63_278, toI, toJ, toI64, inb_T, inb_iZ, Int.toNat_natCast, cl_0, cl_1, cl_2, cl_3, cl_4, cl_5, cl_6, cl_7, cl_8, cl_9, cl_10, cl_11, cl_12, cl_13, cl_14, cl_15, cl_16, cl_17, cl_18, cl_19, cl_20, cl_21, cl_22, cl_23, cl_24, cl_25, cl_26, cl_27, cl_28, cl_29, cl_30, cl_31, cl_32, cl_36, cl_40, cl_48, cl_60, cl_108, cl_120, cl_200, cl_201, cl_576, cl_600, cl_864, cl_900, cl_960, cl_5400, cl_8040, j2_0, iN_iZ, iN_lit0, iZ_add, iZ_sub, iZ_mul, iZ_neg, jZ_add, jZ_sub, jZ_mul, jZ_neg, isB0, isB1, isBZ, eq0, eq1, bZ0, vI_, vJ_, vA_, rI_, rJ_, rA_, rV_, nX_, tX_, true_and, and_true, false_and, and_false, and_self, implies_true, forall_const, not_true_eq_false, not_false_eq_true, false_implies, true_implies, ↓reduceIte, Nat.reduceEqDiff, Int.reduceToNat, Int.reduceAdd, Int.reduceSub, Int.reduceLT, Int.reduceLE, Int.reduceEq, Int.add_zero, Int.neg_zero, Int.add_sub_cancel, Int.reduceNeg, Nat.reduceLeDiff, Nat.reduceSub, true_or, or_true, false_or, or_false, setI_d, setJ_d, setP_d, mI_row, mJ_row, mP_row, mI_row_ne, mJ_row_ne, mP_row_ne, rowI_rowI, rowJ_rowJ, rowI_sort, rowJ_sort, rowJ_rowI, rowP_rowI, rowP_rowJ, fu_app, fu_fu, mI_rowJ, mI_rowP, mJ_rowI, mJ_rowP, mP_rowI, mP_rowJ, mK_rowI, mN_rowI, mK_rowJ, mN_rowJ, mK_rowP, mN_rowP, oB_rowI, oB_rowJ, iA_rowI, iA_rowJ, iR_rowI, iR_rowJ, St_rowI, St_rowJ, K154 Si, O154 Si, g20, g21, hz]
  rw [QK_i hR]
  refine ⟨Hk_tr a1 (Hk_154 (fun j h1 h2 h3 h4 => if_neg (by omega))), ?_, ?_, ?_, ?_, ?_⟩
  · rw [mI_row]; exact a2
  · rw [mI_row]; exact a3
  · first | rfl | trivial
  · rw [mI_row]; exact if_pos rfl
  · rw [mI_row]; exact a5
theorem c63x (hst : (gl G).stackTraces = false) (hS : Static M) (hH : HkS M Mi m u D) {e f : Nat} (hX : XM Mi e f) (hR : R = .inl (e, f)) : (∀ k, wp (WCo G (d + 11) 63 (rI fun v M' => QK M m u D R v M') nX) 63 (k + 200) 240 [aR (some 154), aI x1, aI x2, aI x3, aI x4] [] Mi 0) ∧ (∀ k, wp (WCo G (d + 11) 63 (rI fun v M' => QK M m u D R v M') nX) 63 (k + 300) 211 [aR (some 154), aI x1, aI x2, aI x3, aI x4] [] Mi 0) ∧ Go G (d + 11) 63 (rI fun v M' => QK M m u D R v M') nX 133 [aR (some 154), aI x1, aI x2, aI x3, aI x4] [] Mi 0 := by
  have Si := Hk_S hH.1 hS
  have h19 : (19 : Nat) < 30 := by decide
  have h20 : (20 : Nat) < 30 := by decide
  obtain ⟨g20, y1, y4, g21⟩ := id hX
  have hz : ¬ (e : Int) = 0 := by omega
  have k240 : ∀ k, wp (WCo G (d + 11) 63 (rI fun v M' => QK M m u D R v M') nX) 63 (k + 200) 240 [aR (some 154), aI x1, aI x2, aI x3, aI x4] [] Mi 0 := by
    intro k
    simp (disch := omega) only [wcQ, wcX, wcG, wcL, wcS, w63_240, w63_241, w63_244, toI, toJ, toI64, inb_T, inb_iZ, Int.toNat_natCast, cl_0, cl_1, cl_2, cl_3, cl_4, cl_5, cl_6, cl_7, cl_8, cl_9, cl_10, cl_11, cl_12, cl_13, cl_14, cl_15, cl_16, cl_17, cl_18, cl_19, cl_20, cl_21, cl_22, cl_23, cl_24, cl_25, cl_26, cl_27, cl_28, cl_29, cl_30, cl_31, cl_32, cl_36, cl_40, cl_48, cl_60, cl_108, cl_120, cl_200, cl_201, cl_576, cl_600, cl_864, cl_900, cl_960, cl_5400, cl_8040, j2_0, iN_iZ, iN_lit0, iZ_add, iZ_sub, iZ_mul, iZ_neg, jZ_add, jZ_sub, jZ_mul, jZ_neg, isB0, isB1, isBZ, eq0, eq1, bZ0, vI_, vJ_, vA_, rI_, rJ_, rA_, rV_, nX_, tX_, true_and, and_true, false_and, and_false, and_self, implies_true, forall_const, not_true_eq_false, not_false_eq_true, false_implies, true_implies, ↓reduceIte, Nat.reduceEqDiff, Int.reduceToNat, Int.reduceAdd, Int.reduceSub, Int.reduceLT, Int.reduceLE, Int.reduceEq, Int.add_zero, Int.neg_zero, Int.add_sub_cancel, Int.reduceNeg, Nat.reduceLeDiff, Nat.reduceSub, true_or, or_true, false_or, or_false, setI_d, setJ_d, setP_d, mI_row, mJ_row, mP_row, mI_row_ne, mJ_row_ne, mP_row_ne, rowI_rowI, rowJ_rowJ, rowI_sort, rowJ_sort, rowJ_rowI, rowP_rowI, rowP_rowJ, fu_app, fu_fu, mI_rowJ, mI_rowP, mJ_rowI, mJ_rowP, mP_rowI, mP_rowJ, mK_rowI, mN_rowI, mK_rowJ, mN_rowJ, mK_rowP, mN_rowP, oB_rowI, oB_rowJ, iA_rowI, iA_rowJ, iR_rowI, iR_rowJ, St_rowI, St_rowJ, K154 Si, O154 Si, g20, hz]
    exact c63x9 hst hS hH hX hR _
  have k211 : ∀ k, wp (WCo G (d + 11) 63 (rI fun v M' => QK M m u D R v M') nX) 63 (k + 300) 211 [aR (some 154), aI x1, aI x2, aI x3, aI x4] [] Mi 0 := by
    intro k
    simp (disch := omega) only [wcQ, wcX, wcG, wcL, wcS, w63_211, w63_212, w63_214, toI, toJ, toI64, inb_T, inb_iZ, Int.toNat_natCast, cl_0, cl_1, cl_2, cl_3, cl_4, cl_5, cl_6, cl_7, cl_8, cl_9, cl_10, cl_11, cl_12, cl_13, cl_14, cl_15, cl_16, cl_17, cl_18, cl_19, cl_20, cl_21, cl_22, cl_23, cl_24, cl_25, cl_26, cl_27, cl_28, cl_29, cl_30, cl_31, cl_32, cl_36, cl_40, cl_48, cl_60, cl_108, cl_120, cl_200, cl_201, cl_576, cl_600, cl_864, cl_900, cl_960, cl_5400, cl_8040, j2_0, iN_iZ, iN_lit0, iZ_add, iZ_sub, iZ_mul, iZ_neg, jZ_add, jZ_sub, jZ_mul, jZ_neg, isB0, isB1, isBZ, eq0, eq1, bZ0, vI_, vJ_, vA_, rI_, rJ_, rA_, rV_, nX_, tX_, true_and, and_true, false_and, and_false, and_self, implies_true, forall_const, not_true_eq_false, not_false_eq_true, false_implies, true_implies, ↓reduceIte, Nat.reduceEqDiff, Int.reduceToNat, Int.reduceAdd, Int.reduceSub, Int.reduceLT, Int.reduceLE, Int.reduceEq, Int.add_zero, Int.neg_zero, Int.add_sub_cancel, Int.reduceNeg, Nat.reduceLeDiff, Nat.reduceSub, true_or, or_true, false_or, or_false, setI_d, setJ_d, setP_d, mI_row, mJ_row, mP_row, mI_row_ne, mJ_row_ne, mP_row_ne, rowI_rowI, rowJ_rowJ, rowI_sort, rowJ_sort, rowJ_rowI, rowP_rowI, rowP_rowJ, fu_app, fu_fu, mI_rowJ, mI_rowP, mJ_rowI, mJ_rowP, mP_rowI, mP_rowJ, mK_rowI, mN_rowI, mK_rowJ, mN_rowJ, mK_rowP, mN_rowP, oB_rowI, oB_rowJ, iA_rowI, iA_rowJ, iR_rowI, iR_rowJ, St_rowI, St_rowJ, O154 Si, h20]
    refine kI0 (c31x (G := G) (d := d + 6) hst Si hX) ?_
    simp (disch := omega) only [wcQ, wcX, wcG, wcL, wcS, w63_217, toI, toJ, toI64, inb_T, inb_iZ, Int.toNat_natCast, cl_0, cl_1, cl_2, cl_3, cl_4, cl_5, cl_6, cl_7, cl_8, cl_9, cl_10, cl_11, cl_12, cl_13, cl_14, cl_15, cl_16, cl_17, cl_18, cl_19, cl_20, cl_21, cl_22, cl_23, cl_24, cl_25, cl_26, cl_27, cl_28, cl_29, cl_30, cl_31, cl_32, cl_36, cl_40, cl_48, cl_60, cl_108, cl_120, cl_200, cl_201, cl_576, cl_600, cl_864, cl_900, cl_960, cl_5400, cl_8040, j2_0, iN_iZ, iN_lit0, iZ_add, iZ_sub, iZ_mul, iZ_neg, jZ_add, jZ_sub, jZ_mul, jZ_neg, isB0, isB1, isBZ, eq0, eq1, bZ0, vI_, vJ_, vA_, rI_, rJ_, rA_, rV_, nX_, tX_, true_and, and_true, false_and, and_false, and_self, implies_true, forall_const, not_true_eq_false, not_false_eq_true, false_implies, true_implies, ↓reduceIte, Nat.reduceEqDiff, Int.reduceToNat, Int.reduceAdd, Int.reduceSub, Int.reduceLT, Int.reduceLE, Int.reduceEq, Int.add_zero, Int.neg_zero, Int.add_sub_cancel, Int.reduceNeg, Nat.reduceLeDiff, Nat.reduceSub, true_or, or_true, false_or, or_false, setI_d, setJ_d, setP_d, mI_row, mJ_row, mP_row, mI_row_ne, mJ_row_ne, mP_row_ne, rowI_rowI, rowJ_rowJ, rowI_sort, rowJ_sort, rowJ_rowI, rowP_rowI, rowP_rowJ, fu_app, fu_fu, mI_rowJ, mI_rowP, mJ_rowI, mJ_rowP, mP_rowI, mP_rowJ, mK_rowI, mN_rowI, mK_rowJ, mN_rowJ, mK_rowP, mN_rowP, oB_rowI, oB_rowJ, iA_rowI, iA_rowJ, iR_rowI, iR_rowJ, St_rowI, St_rowJ]
    exact k240 _
  refine ⟨k240, k211, ?_⟩
  refine wp1_go (n := 2000) ?_
  simp (disch := omega) only [wcQ, wcX, wcG, wcL, wcS, h63_133, w63_133, w63_134, toI, toJ, toI64, inb_T, inb_iZ, Int.toNat_natCast, cl_0, cl_1, cl_2, cl_3, cl_4, cl_5, cl_6, cl_7, cl_8, cl_9, cl_10, cl_11, cl_12, cl_13, cl_14, cl_15, cl_16, cl_17, cl_18, cl_19, cl_20, cl_21, cl_22, cl_23, cl_24, cl_25, cl_26, cl_27, cl_28, cl_29, cl_30, cl_31, cl_32, cl_36, cl_40, cl_48, cl_60, cl_108, cl_120, cl_200, cl_201, cl_576, cl_600, cl_864, cl_900, cl_960, cl_5400, cl_8040, j2_0, iN_iZ, iN_lit0, iZ_add, iZ_sub, iZ_mul, iZ_neg, jZ_add, jZ_sub, jZ_mul, jZ_neg, isB0, isB1, isBZ, eq0, eq1, bZ0, vI_, vJ_, vA_, rI_, rJ_, rA_, rV_, nX_, tX_, true_and, and_true, false_and, and_false, and_self, implies_true, forall_const, not_true_eq_false, not_false_eq_true, false_implies, true_implies, ↓reduceIte, Nat.reduceEqDiff, Int.reduceToNat, Int.reduceAdd, Int.reduceSub, Int.reduceLT, Int.reduceLE, Int.reduceEq, Int.add_zero, Int.neg_zero, Int.add_sub_cancel, Int.reduceNeg, Nat.reduceLeDiff, Nat.reduceSub, true_or, or_true, false_or, or_false, setI_d, setJ_d, setP_d, mI_row, mJ_row, mP_row, mI_row_ne, mJ_row_ne, mP_row_ne, rowI_rowI, rowJ_rowJ, rowI_sort, rowJ_sort, rowJ_rowI, rowP_rowI, rowP_rowJ, fu_app, fu_fu, mI_rowJ, mI_rowP, mJ_rowI, mJ_rowP, mP_rowI, mP_rowJ, mK_rowI, mN_rowI, mK_rowJ, mN_rowJ, mK_rowP, mN_rowP, oB_rowI, oB_rowJ, iA_rowI, iA_rowJ, iR_rowI, iR_rowJ, St_rowI, St_rowJ, O154 Si]
  refine kI0 (c34x (G := G) (d := d + 5) hst Si hX) ?_
  simp (disch := omega) only [wcQ, wcX, wcG, wcL, wcS, w63_137, w63_175, w63_176, w63_178, toI, toJ, toI64, inb_T, inb_iZ, Int.toNat_natCast, cl_0, cl_1, cl_2, cl_3, cl_4, cl_5, cl_6, cl_7, cl_8, cl_9, cl_10, cl_11, cl_12, cl_13, cl_14, cl_15, cl_16, cl_17, cl_18, cl_19, cl_20, cl_21, cl_22, cl_23, cl_24, cl_25, cl_26, cl_27, cl_28, cl_29, cl_30, cl_31, cl_32, cl_36, cl_40, cl_48, cl_60, cl_108, cl_120, cl_200, cl_201, cl_576, cl_600, cl_864, cl_900, cl_960, cl_5400, cl_8040, j2_0, iN_iZ, iN_lit0, iZ_add, iZ_sub, iZ_mul, iZ_neg, jZ_add, jZ_sub, jZ_mul, jZ_neg, isB0, isB1, isBZ, eq0, eq1, bZ0, vI_, vJ_, vA_, rI_, rJ_, rA_, rV_, nX_, tX_, true_and, and_true, false_and, and_false, and_self, implies_true, forall_const, not_true_eq_false, not_false_eq_true, false_implies, true_implies, ↓reduceIte, Nat.reduceEqDiff, Int.reduceToNat, Int.reduceAdd, Int.reduceSub, Int.reduceLT, Int.reduceLE, Int.reduceEq, Int.add_zero, Int.neg_zero, Int.add_sub_cancel, Int.reduceNeg, Nat.reduceLeDiff, Nat.reduceSub, true_or, or_true, false_or, or_false, setI_d, setJ_d, setP_d, mI_row, mJ_row, mP_row, mI_row_ne, mJ_row_ne, mP_row_ne, rowI_rowI, rowJ_rowJ, rowI_sort, rowJ_sort, rowJ_rowI, rowP_rowI, rowP_rowJ, fu_app, fu_fu, mI_rowJ, mI_rowP, mJ_rowI, mJ_rowP, mP_rowI, mP_rowJ, mK_rowI, mN_rowI, mK_rowJ, mN_rowJ, mK_rowP, mN_rowP, oB_rowI, oB_rowJ, iA_rowI, iA_rowJ, iR_rowI, iR_rowJ, St_rowI, St_rowJ, O154 Si, h19]
  refine kI0 (c31x (G := G) (d := d + 6) hst Si hX) ?_
  simp (disch := omega) only [wcQ, wcX, wcG, wcL, wcS, w63_181, toI, toJ, toI64, inb_T, inb_iZ, Int.toNat_natCast, cl_0, cl_1, cl_2, cl_3, cl_4, cl_5, cl_6, cl_7, cl_8, cl_9, cl_10, cl_11, cl_12, cl_13, cl_14, cl_15, cl_16, cl_17, cl_18, cl_19, cl_20, cl_21, cl_22, cl_23, cl_24, cl_25, cl_26, cl_27, cl_28, cl_29, cl_30, cl_31, cl_32, cl_36, cl_40, cl_48, cl_60, cl_108, cl_120, cl_200, cl_201, cl_576, cl_600, cl_864, cl_900, cl_960, cl_5400, cl_8040, j2_0, iN_iZ, iN_lit0, iZ_add, iZ_sub, iZ_mul, iZ_neg, jZ_add, jZ_sub, jZ_mul, jZ_neg, isB0, isB1, isBZ, eq0, eq1, bZ0, vI_, vJ_, vA_, rI_, rJ_, rA_, rV_, nX_, tX_, true_and, and_true, false_and, and_false, and_self, implies_true, forall_const, not_true_eq_false, not_false_eq_true, false_implies, true_implies, ↓reduceIte, Nat.reduceEqDiff, Int.reduceToNat, Int.reduceAdd, Int.reduceSub, Int.reduceLT, Int.reduceLE, Int.reduceEq, Int.add_zero, Int.neg_zero, Int.add_sub_cancel, Int.reduceNeg, Nat.reduceLeDiff, Nat.reduceSub, true_or, or_true, false_or, or_false, setI_d, setJ_d, setP_d, mI_row, mJ_row, mP_row, mI_row_ne, mJ_row_ne, mP_row_ne, rowI_rowI, rowJ_rowJ, rowI_sort, rowJ_sort, rowJ_rowI, rowP_rowI, rowP_rowJ, fu_app, fu_fu, mI_rowJ, mI_rowP, mJ_rowI, mJ_rowP, mP_rowI, mP_rowJ, mK_rowI, mN_rowI, mK_rowJ, mN_rowJ, mK_rowP, mN_rowP, oB_rowI, oB_rowJ, iA_rowI, iA_rowJ, iR_rowI, iR_rowJ, St_rowI, St_rowJ]
  exact k211 _
/-- the end of the text must stand here -/
theorem c63t4 (hst : (gl G).stackTraces = false) (hS : Static M) (hH : HkS M Mi m u D) (hT : TM Mi B n b) (h188 : mI Mi 188 m = iZ t) (hF : MF Mi m (flt rows)) (hB : MB Mi m rows) (h194 : mI Mi 194 m = if re then iZ 1 else iZ 0) (hR : R = if tkd B n b = 0 then .inr (rows, t, re) else .inl (1, b)) : ∀ k, wp (WCo G (d + 11) 63 (rI fun v M' => QK M m u D R v M') nX) 63 (k + 200) 240 [aR (some 154), aI x1, aI x2, aI x3, aI x4] [] Mi 0 := by
  intro k
  have Si := Hk_S hH.1 hS
  have g20 := hT.2.2.2.2.2.2.2.1
  have g15 := hT.2.2.2.1
  have tb := tkd_b (B := B) (n := n) (b := b)
  by_cases h0 : tkd B n b = 0
  · rw [if_pos h0] at hR
    obtain ⟨a1, a2, a3, a4, a5, a6, a7⟩ := hH
    simp (disch := omega) only [wcQ, wcX, wcG, wcL, wcS, w63_240, w63_241, w63_244, w63_247, w63_248, w63_251, w63_254, w63_255, w63_256, w63_259, w63_260, w63_263, w63_279, w63_280, w63_281, w63_284, w63_285, w63_286, w63_289, w63_290, toI, toJ, toI64, inb_T, inb_iZ, Int.toNat_natCast, cl_0, cl_1, cl_2, cl_3, cl_4, cl_5, cl_6, cl_7, cl_8, cl_9, cl_10, cl_11, cl_12, cl_13, cl_14, cl_15, cl_16, cl_17, cl_18, cl_19, cl_20, cl_21, cl_22, cl_23, cl_24, cl_25, cl_26, cl_27, cl_28, cl_29, cl_30, cl_31, cl_32, cl_36, cl_40, cl_48, cl_60, cl_108, cl_120, cl_200, cl_201, cl_576, cl_600, cl_864, cl_900, cl_960, cl_5400, cl_8040, j2_0, iN_iZ, iN_lit0, iZ_add, iZ_sub, iZ_mul, iZ_neg, jZ_add, jZ_sub, jZ_mul, jZ_neg, isB0, isB1, isBZ, eq0, eq1, bZ0, vI_, vJ_, vA_, rI_, rJ_, rA_, rV_, nX_, tX_, true_and, and_true, false_and, and_false, and_self, implies_true, forall_const, not_true_eq_false, not_false_eq_true, false_implies, true_implies, ↓reduceIte, Nat.reduceEqDiff, Int.reduceToNat, Int.reduceAdd, Int.reduceSub, Int.reduceLT, Int.reduceLE, Int.reduceEq, Int.add_zero, Int.neg_zero, Int.add_sub_cancel, Int.reduceNeg, Nat.reduceLeDiff, Nat.reduceSub, true_or, or_true, false_or, or_false, setI_d, setJ_d, setP_d, mI_row, mJ_row, mP_row, mI_row_ne, mJ_row_ne, mP_row_ne, rowI_rowI, rowJ_rowJ, rowI_sort, rowJ_sort, rowJ_rowI, rowP_rowI, rowP_rowJ, fu_app, fu_fu, mI_rowJ, mI_rowP, mJ_rowI, mJ_rowP, mP_rowI, mP_rowJ, mK_rowI, mN_rowI, mK_rowJ, mN_rowJ, mK_rowP, mN_rowP, oB_rowI, oB_rowJ, iA_rowI, iA_rowJ, iR_rowI, iR_rowJ, St_rowI, St_rowJ, K154 Si, O154 Si, g20, g15, h0, a5]
    rw [QK_r hR]
    refine ⟨Hk_tr a1 (Hk_154 (fun j h1 h2 h3 h4 => if_neg (by omega))), ?_, ?_, ?_, ?_, ?_, ?_, ?_, ?_, ?_, ?_, ?_⟩
    · rw [mI_row]; exact a2
    · rw [mI_row]; exact a3
    · first | rfl | trivial
    · rw [mI_row]; exact a4
    · rw [mI_row]; exact if_pos rfl
    · rw [mI_row_ne (by decide)]; exact a6
    · rw [mI_row_ne (by decide)]; exact a7
    · rw [mI_row_ne (by decide)]; exact h188
    · unfold MF at *
      rw [mI_row_ne (by decide), mI_row_ne (by decide), mI_row_ne (by decide), mI_row_ne (by decide)]; exact hF
    · unfold MB at *
      rw [mI_row_ne (by decide)]; exact hB
    · rw [mI_row_ne (by decide)]; exact h194
  · rw [if_neg h0] at hR
    simp (disch := omega) only [wcQ, wcX, wcG, wcL, wcS, w63_240, w63_241, w63_244, w63_247, w63_248, w63_251, w63_254, w63_255, w63_256, toI, toJ, toI64, inb_T, inb_iZ, Int.toNat_natCast, cl_0, cl_1, cl_2, cl_3, cl_4, cl_5, cl_6, cl_7, cl_8, cl_9, cl_10, cl_11, cl_12, cl_13, cl_14, cl_15, cl_16, cl_17, cl_18, cl_19, cl_20, cl_21, cl_22, cl_23, cl_24, cl_25, cl_26, cl_27, cl_28, cl_29, cl_30, cl_31, cl_32, cl_36, cl_40, cl_48, cl_60, cl_108, cl_120, cl_200, cl_201, cl_576, cl_600, cl_864, cl_900, cl_960, cl_5400, cl_8040, j2_0, iN_iZ, iN_lit0, iZ_add, iZ_sub, iZ_mul, iZ_neg, jZ_add, jZ_sub, jZ_mul, jZ_neg, isB0, isB1, isBZ, eq0, eq1, bZ0, vI_, vJ_, vA_, rI_, rJ_, rA_, rV_, nX_, tX_, true_and, and_true, false_and, and_false, and_self, implies_true, forall_const, not_true_eq_false, not_false_eq_true, false_implies, true_implies, ↓reduceIte, Nat.reduceEqDiff, Int.reduceToNat, Int.reduceAdd, Int.reduceSub, Int.reduceLT, Int.reduceLE, Int.reduceEq, Int.add_zero, Int.neg_zero, Int.add_sub_cancel, Int.reduceNeg, Nat.reduceLeDiff, Nat.reduceSub, true_or, or_true, false_or, or_false, setI_d, setJ_d, setP_d, mI_row, mJ_row, mP_row, mI_row_ne, mJ_row_ne, mP_row_ne, rowI_rowI, rowJ_rowJ, rowI_sort, rowJ_sort, rowJ_rowI, rowP_rowI, rowP_rowJ, fu_app, fu_fu, mI_rowJ, mI_rowP, mJ_rowI, mJ_rowP, mP_rowI, mP_rowJ, mK_rowI, mN_rowI, mK_rowJ, mN_rowJ, mK_rowP, mN_rowP, oB_rowI, oB_rowJ, iA_rowI, iA_rowJ, iR_rowI, iR_rowJ, St_rowI, St_rowJ, K154 Si, O154 Si, g20, g15, h0]
    refine kV (c32 (G := G) (d := d + 10) (k := 1) hst Si hT (by decide) (by decide)) (Nat.le_refl _) (fun M2 hq => ?_) (fun e M' h => False.elim h)
    exact c63x9 hst hS (HkS_Hf hH (GT_Hf hq.1)) hq.2 hR _
theorem MF_Hfr {F : List (Nat × Nat × Int)} {c : Nat} {g : Nat → Int32} (h : MF M m F) (h1 : c ≠ 189) (h2 : c ≠ 191) (h3 : c ≠ 192) (h4 : c ≠ 193) : MF (rowI M c g) m F := by
  unfold MF at *
  rw [mI_row_ne (fun z => h1 z.symm), mI_row_ne (fun z => h2 z.symm), mI_row_ne (fun z => h3 z.symm), mI_row_ne (fun z => h4 z.symm)]
  exact h
theorem c63t2 (hst : (gl G).stackTraces = false) (hS : Static M) (m2 : m < 200) (hH : HkS M Mi m u D) (hT : TM Mi B n b) (h188 : mI Mi 188 m = iZ t) (hF : MF Mi m (flt rows)) (hB : MB Mi m rows) (h194 : mI Mi 194 m = iZ 0) (hR : R = match kRe B n b with
      | .inl e => .inl e
      | .inr (c', x) => if tkd B n c' = 0 then .inr (rows, t, x) else .inl (1, c')) : ∀ k, wp (WCo G (d + 11) 63 (rI fun v M' => QK M m u D R v M') nX) 63 (k + 400) 211 [aR (some 154), aI x1, aI x2, aI x3, aI x4] [] Mi 0 := by
  intro k
  have Si := Hk_S hH.1 hS
  have h20 : (20 : Nat) < 30 := by decide
  have ea := c31 (G := G) (d := d + 6) (a := 20) hst Si hT h20
  unfold kRe at hR
  simp (disch := omega) only [wcQ, wcX, wcG, wcL, wcS, w63_211, w63_212, w63_214, toI, toJ, toI64, inb_T, inb_iZ, Int.toNat_natCast, cl_0, cl_1, cl_2, cl_3, cl_4, cl_5, cl_6, cl_7, cl_8, cl_9, cl_10, cl_11, cl_12, cl_13, cl_14, cl_15, cl_16, cl_17, cl_18, cl_19, cl_20, cl_21, cl_22, cl_23, cl_24, cl_25, cl_26, cl_27, cl_28, cl_29, cl_30, cl_31, cl_32, cl_36, cl_40, cl_48, cl_60, cl_108, cl_120, cl_200, cl_201, cl_576, cl_600, cl_864, cl_900, cl_960, cl_5400, cl_8040, j2_0, iN_iZ, iN_lit0, iZ_add, iZ_sub, iZ_mul, iZ_neg, jZ_add, jZ_sub, jZ_mul, jZ_neg, isB0, isB1, isBZ, eq0, eq1, bZ0, vI_, vJ_, vA_, rI_, rJ_, rA_, rV_, nX_, tX_, true_and, and_true, false_and, and_false, and_self, implies_true, forall_const, not_true_eq_false, not_false_eq_true, false_implies, true_implies, ↓reduceIte, Nat.reduceEqDiff, Int.reduceToNat, Int.reduceAdd, Int.reduceSub, Int.reduceLT, Int.reduceLE, Int.reduceEq, Int.add_zero, Int.neg_zero, Int.add_sub_cancel, Int.reduceNeg, Nat.reduceLeDiff, Nat.reduceSub, true_or, or_true, false_or, or_false, setI_d, setJ_d, setP_d, mI_row, mJ_row, mP_row, mI_row_ne, mJ_row_ne, mP_row_ne, rowI_rowI, rowJ_rowJ, rowI_sort, rowJ_sort, rowJ_rowI, rowP_rowI, rowP_rowJ, fu_app, fu_fu, mI_rowJ, mI_rowP, mJ_rowI, mJ_rowP, mP_rowI, mP_rowJ, mK_rowI, mN_rowI, mK_rowJ, mN_rowJ, mK_rowP, mN_rowP, oB_rowI, oB_rowJ, iA_rowI, iA_rowJ, iR_rowI, iR_rowJ, St_rowI, St_rowJ, O154 Si, h20]
  refine kI0 ea ?_
  by_cases w : twd B n b 20
  · rw [if_pos w] at hR
    have w' := eq_true w
    simp (disch := omega) only [wcQ, wcX, wcG, wcL, wcS, w63_217, w63_220, w63_221, toI, toJ, toI64, inb_T, inb_iZ, Int.toNat_natCast, cl_0, cl_1, cl_2, cl_3, cl_4, cl_5, cl_6, cl_7, cl_8, cl_9, cl_10, cl_11, cl_12, cl_13, cl_14, cl_15, cl_16, cl_17, cl_18, cl_19, cl_20, cl_21, cl_22, cl_23, cl_24, cl_25, cl_26, cl_27, cl_28, cl_29, cl_30, cl_31, cl_32, cl_36, cl_40, cl_48, cl_60, cl_108, cl_120, cl_200, cl_201, cl_576, cl_600, cl_864, cl_900, cl_960, cl_5400, cl_8040, j2_0, iN_iZ, iN_lit0, iZ_add, iZ_sub, iZ_mul, iZ_neg, jZ_add, jZ_sub, jZ_mul, jZ_neg, isB0, isB1, isBZ, eq0, eq1, bZ0, vI_, vJ_, vA_, rI_, rJ_, rA_, rV_, nX_, tX_, true_and, and_true, false_and, and_false, and_self, implies_true, forall_const, not_true_eq_false, not_false_eq_true, false_implies, true_implies, ↓reduceIte, Nat.reduceEqDiff, Int.reduceToNat, Int.reduceAdd, Int.reduceSub, Int.reduceLT, Int.reduceLE, Int.reduceEq, Int.add_zero, Int.neg_zero, Int.add_sub_cancel, Int.reduceNeg, Nat.reduceLeDiff, Nat.reduceSub, true_or, or_true, false_or, or_false, setI_d, setJ_d, setP_d, mI_row, mJ_row, mP_row, mI_row_ne, mJ_row_ne, mP_row_ne, rowI_rowI, rowJ_rowJ, rowI_sort, rowJ_sort, rowJ_rowI, rowP_rowI, rowP_rowJ, fu_app, fu_fu, mI_rowJ, mI_rowP, mJ_rowI, mJ_rowP, mP_rowI, mP_rowJ, mK_rowI, mN_rowI, mK_rowJ, mN_rowJ, mK_rowP, mN_rowP, oB_rowI, oB_rowJ, iA_rowI, iA_rowJ, iR_rowI, iR_rowJ, St_rowI, St_rowJ, w', O154 Si]
    refine kV (c29t (G := G) (d := d + 9) hst Si hT) (Nat.le_refl _) (fun M2 hq => ?_) (fun e M' h => False.elim h)
    obtain ⟨G2, T2⟩ := hq
    have H2 := HkS_Hf hH (GT_Hf G2)
    have S2 := Hk_S H2.1 hS
    have m44 := H2.2.2.2.2.1
    obtain ⟨M3, hM3⟩ : ∃ M3, M3 = rowI M2 194 (fu (mI M2 194) m (iZ 1)) := ⟨_, rfl⟩
    have H3 : HkS M M3 m u D := by rw [hM3]; exact HkS_row H2 (by decide) (by decide) (by decide) (by decide) (by decide)
    have T3 : TM M3 B n (nxT B n b) := by rw [hM3]; exact TM_row (by decide) (by decide) T2
    have S3 := Hk_S H3.1 hS
    have F3 : MF M3 m (flt rows) := by rw [hM3]; exact MF_Hfr (MF_GT hF G2) (by decide) (by decide) (by decide) (by decide)
    have B3 : MB M3 m rows := by
      unfold MB at *
      rw [hM3, mI_row_ne (by decide), G2.2.2.2.2.1 190 (by decide)]; exact hB
    have t3 : mI M3 188 m = iZ t := by rw [hM3, mI_row_ne (by decide), G2.2.2.2.2.1 188 (by decide)]; exact h188
    have r3 : mI M3 194 m = iZ 1 := by rw [hM3, mI_row]; exact if_pos rfl
    have eb := c39 (G := G) (d := d + 8) (c := 59) hst S3 T3 (by decide)
    simp (disch := omega) only [wcQ, wcX, wcG, wcL, wcS, w63_224, w63_225, w63_228, w63_229, w63_232, w63_233, w63_234, w63_235, w63_237, toI, toJ, toI64, inb_T, inb_iZ, Int.toNat_natCast, cl_0, cl_1, cl_2, cl_3, cl_4, cl_5, cl_6, cl_7, cl_8, cl_9, cl_10, cl_11, cl_12, cl_13, cl_14, cl_15, cl_16, cl_17, cl_18, cl_19, cl_20, cl_21, cl_22, cl_23, cl_24, cl_25, cl_26, cl_27, cl_28, cl_29, cl_30, cl_31, cl_32, cl_36, cl_40, cl_48, cl_60, cl_108, cl_120, cl_200, cl_201, cl_576, cl_600, cl_864, cl_900, cl_960, cl_5400, cl_8040, j2_0, iN_iZ, iN_lit0, iZ_add, iZ_sub, iZ_mul, iZ_neg, jZ_add, jZ_sub, jZ_mul, jZ_neg, isB0, isB1, isBZ, eq0, eq1, bZ0, vI_, vJ_, vA_, rI_, rJ_, rA_, rV_, nX_, tX_, true_and, and_true, false_and, and_false, and_self, implies_true, forall_const, not_true_eq_false, not_false_eq_true, false_implies, true_implies, ↓reduceIte, Nat.reduceEqDiff, Int.reduceToNat, Int.reduceAdd, Int.reduceSub, Int.reduceLT, Int.reduceLE, Int.reduceEq, Int.add_zero, Int.neg_zero, Int.add_sub_cancel, Int.reduceNeg, Nat.reduceLeDiff, Nat.reduceSub, true_or, or_true, false_or, or_false, setI_d, setJ_d, setP_d, mI_row, mJ_row, mP_row, mI_row_ne, mJ_row_ne, mP_row_ne, rowI_rowI, rowJ_rowJ, rowI_sort, rowJ_sort, rowJ_rowI, rowP_rowI, rowP_rowJ, fu_app, fu_fu, mI_rowJ, mI_rowP, mJ_rowI, mJ_rowP, mP_rowI, mP_rowJ, mK_rowI, mN_rowI, mK_rowJ, mN_rowJ, mK_rowP, mN_rowP, oB_rowI, oB_rowJ, iA_rowI, iA_rowJ, iR_rowI, iR_rowJ, St_rowI, St_rowJ, K154 S2, O154 S2, P154_61 S2, K194 S2, O194 S2, A194 S2, m44]
    rw [← hM3]
    refine kV eb (Nat.le_refl _) (fun M4 hq => ?_) (fun e M' h => False.elim h)
    obtain ⟨G4, hq⟩ := hq
    have H4 := HkS_Hf H3 (GT_Hf G4)
    have e4 := G4.2.2.2.2.1
    rcases hq with ⟨hs, T4⟩ | ⟨hs, X4⟩
    · rw [if_pos hs] at hR
      exact c63t4 (re := true) hst hS H4 T4 (by rw [e4 188 (by decide)]; exact t3) (MF_GT F3 G4) (by unfold MB at *; rw [e4 190 (by decide)]; exact B3) (by rw [e4 194 (by decide)]; exact r3) hR _
    · rw [if_neg hs] at hR
      exact (c63x hst hS H4 X4 hR).1 _
  · rw [if_neg w] at hR
    have w' := eq_false w
    simp (disch := omega) only [wcQ, wcX, wcG, wcL, wcS, w63_217, toI, toJ, toI64, inb_T, inb_iZ, Int.toNat_natCast, cl_0, cl_1, cl_2, cl_3, cl_4, cl_5, cl_6, cl_7, cl_8, cl_9, cl_10, cl_11, cl_12, cl_13, cl_14, cl_15, cl_16, cl_17, cl_18, cl_19, cl_20, cl_21, cl_22, cl_23, cl_24, cl_25, cl_26, cl_27, cl_28, cl_29, cl_30, cl_31, cl_32, cl_36, cl_40, cl_48, cl_60, cl_108, cl_120, cl_200, cl_201, cl_576, cl_600, cl_864, cl_900, cl_960, cl_5400, cl_8040, j2_0, iN_iZ, iN_lit0, iZ_add, iZ_sub, iZ_mul, iZ_neg, jZ_add, jZ_sub, jZ_mul, jZ_neg, isB0, isB1, isBZ, eq0, eq1, bZ0, vI_, vJ_, vA_, rI_, rJ_, rA_, rV_, nX_, tX_, true_and, and_true, false_and, and_false, and_self, implies_true, forall_const, not_true_eq_false, not_false_eq_true, false_implies, true_implies, ↓reduceIte, Nat.reduceEqDiff, Int.reduceToNat, Int.reduceAdd, Int.reduceSub, Int.reduceLT, Int.reduceLE, Int.reduceEq, Int.add_zero, Int.neg_zero, Int.add_sub_cancel, Int.reduceNeg, Nat.reduceLeDiff, Nat.reduceSub, true_or, or_true, false_or, or_false, setI_d, setJ_d, setP_d, mI_row, mJ_row, mP_row, mI_row_ne, mJ_row_ne, mP_row_ne, rowI_rowI, rowJ_rowJ, rowI_sort, rowJ_sort, rowJ_rowI, rowP_rowI, rowP_rowJ, fu_app, fu_fu, mI_rowJ, mI_rowP, mJ_rowI, mJ_rowP, mP_rowI, mP_rowJ, mK_rowI, mN_rowI, mK_rowJ, mN_rowJ, mK_rowP, mN_rowP, oB_rowI, oB_rowJ, iA_rowI, iA_rowJ, iR_rowI, iR_rowJ, St_rowI, St_rowJ, w']
    exact c63t4 (re := false) hst hS hH hT h188 hF hB h194 hR _
theorem c63t1 (hst : (gl G).stackTraces = false) (hS : Static M) (m2 : m < 200) (hH : HkS M Mi m u D) (hT : TM Mi B n b) (h188 : mI Mi 188 m = iZ 0) (hF : MF Mi m (flt rows)) (hB : MB Mi m rows) (h194 : mI Mi 194 m = iZ 0) (hR : R = match kTm B n b with
      | .inl e => .inl e
      | .inr (c, t) => match kRe B n c with
        | .inl e => .inl e
        | .inr (c', x) => if tkd B n c' = 0 then .inr (rows, t, x) else .inl (1, c')) : ∀ k, wp (WCo G (d + 11) 63 (rI fun v M' => QK M m u D R v M') nX) 63 (k + 500) 175 [aR (some 154), aI x1, aI x2, aI x3, aI x4] [] Mi 0 := by
  intro k
  have Si := Hk_S hH.1 hS
  have h19 : (19 : Nat) < 30 := by decide
  have ea := c31 (G := G) (d := d + 6) (a := 19) hst Si hT h19
  unfold kTm at hR
  simp (disch := omega) only [wcQ, wcX, wcG, wcL, wcS, w63_175, w63_176, w63_178, toI, toJ, toI64, inb_T, inb_iZ, Int.toNat_natCast, cl_0, cl_1, cl_2, cl_3, cl_4, cl_5, cl_6, cl_7, cl_8, cl_9, cl_10, cl_11, cl_12, cl_13, cl_14, cl_15, cl_16, cl_17, cl_18, cl_19, cl_20, cl_21, cl_22, cl_23, cl_24, cl_25, cl_26, cl_27, cl_28, cl_29, cl_30, cl_31, cl_32, cl_36, cl_40, cl_48, cl_60, cl_108, cl_120, cl_200, cl_201, cl_576, cl_600, cl_864, cl_900, cl_960, cl_5400, cl_8040, j2_0, iN_iZ, iN_lit0, iZ_add, iZ_sub, iZ_mul, iZ_neg, jZ_add, jZ_sub, jZ_mul, jZ_neg, isB0, isB1, isBZ, eq0, eq1, bZ0, vI_, vJ_, vA_, rI_, rJ_, rA_, rV_, nX_, tX_, true_and, and_true, false_and, and_false, and_self, implies_true, forall_const, not_true_eq_false, not_false_eq_true, false_implies, true_implies, ↓reduceIte, Nat.reduceEqDiff, Int.reduceToNat, Int.reduceAdd, Int.reduceSub, Int.reduceLT, Int.reduceLE, Int.reduceEq, Int.add_zero, Int.neg_zero, Int.add_sub_cancel, Int.reduceNeg, Nat.reduceLeDiff, Nat.reduceSub, true_or, or_true, false_or, or_false, setI_d, setJ_d, setP_d, mI_row, mJ_row, mP_row, mI_row_ne, mJ_row_ne, mP_row_ne, rowI_rowI, rowJ_rowJ, rowI_sort, rowJ_sort, rowJ_rowI, rowP_rowI, rowP_rowJ, fu_app, fu_fu, mI_rowJ, mI_rowP, mJ_rowI, mJ_rowP, mP_rowI, mP_rowJ, mK_rowI, mN_rowI, mK_rowJ, mN_rowJ, mK_rowP, mN_rowP, oB_rowI, oB_rowJ, iA_rowI, iA_rowJ, iR_rowI, iR_rowJ, St_rowI, St_rowJ, O154 Si, h19]
  refine kI0 ea ?_
  by_cases w : twd B n b 19
  · rw [if_pos w] at hR
    have w' := eq_true w
    simp (disch := omega) only [wcQ, wcX, wcG, wcL, wcS, w63_181, w63_184, w63_185, toI, toJ, toI64, inb_T, inb_iZ, Int.toNat_natCast, cl_0, cl_1, cl_2, cl_3, cl_4, cl_5, cl_6, cl_7, cl_8, cl_9, cl_10, cl_11, cl_12, cl_13, cl_14, cl_15, cl_16, cl_17, cl_18, cl_19, cl_20, cl_21, cl_22, cl_23, cl_24, cl_25, cl_26, cl_27, cl_28, cl_29, cl_30, cl_31, cl_32, cl_36, cl_40, cl_48, cl_60, cl_108, cl_120, cl_200, cl_201, cl_576, cl_600, cl_864, cl_900, cl_960, cl_5400, cl_8040, j2_0, iN_iZ, iN_lit0, iZ_add, iZ_sub, iZ_mul, iZ_neg, jZ_add, jZ_sub, jZ_mul, jZ_neg, isB0, isB1, isBZ, eq0, eq1, bZ0, vI_, vJ_, vA_, rI_, rJ_, rA_, rV_, nX_, tX_, true_and, and_true, false_and, and_false, and_self, implies_true, forall_const, not_true_eq_false, not_false_eq_true, false_implies, true_implies, ↓reduceIte, Nat.reduceEqDiff, Int.reduceToNat, Int.reduceAdd, Int.reduceSub, Int.reduceLT, Int.reduceLE, Int.reduceEq, Int.add_zero, Int.neg_zero, Int.add_sub_cancel, Int.reduceNeg, Nat.reduceLeDiff, Nat.reduceSub, true_or, or_true, false_or, or_false, setI_d, setJ_d, setP_d, mI_row, mJ_row, mP_row, mI_row_ne, mJ_row_ne, mP_row_ne, rowI_rowI, rowJ_rowJ, rowI_sort, rowJ_sort, rowJ_rowI, rowP_rowI, rowP_rowJ, fu_app, fu_fu, mI_rowJ, mI_rowP, mJ_rowI, mJ_rowP, mP_rowI, mP_rowJ, mK_rowI, mN_rowI, mK_rowJ, mN_rowJ, mK_rowP, mN_rowP, oB_rowI, oB_rowJ, iA_rowI, iA_rowJ, iR_rowI, iR_rowJ, St_rowI, St_rowJ, w', O154 Si]
    refine kV (c29t (G := G) (d := d + 9) hst Si hT) (Nat.le_refl _) (fun M2 hq => ?_) (fun e M' h => False.elim h)
    obtain ⟨G2, T2⟩ := hq
    have H2 := HkS_Hf hH (GT_Hf G2)
    have S2 := Hk_S H2.1 hS
    have m44 := H2.2.2.2.2.1
    generalize hb1 : nxT B n b = b1 at *
    have ec := c37 (G := G) (d := d + 8) (lo := 0) (hi := 99999) hst S2 T2 (by decide) (by decide)
    simp (disch := omega) only [wcQ, wcX, wcG, wcL, wcS, w63_188, w63_189, w63_192, w63_193, w63_196, w63_197, w63_198, w63_201, toI, toJ, toI64, inb_T, inb_iZ, Int.toNat_natCast, cl_0, cl_1, cl_2, cl_3, cl_4, cl_5, cl_6, cl_7, cl_8, cl_9, cl_10, cl_11, cl_12, cl_13, cl_14, cl_15, cl_16, cl_17, cl_18, cl_19, cl_20, cl_21, cl_22, cl_23, cl_24, cl_25, cl_26, cl_27, cl_28, cl_29, cl_30, cl_31, cl_32, cl_36, cl_40, cl_48, cl_60, cl_108, cl_120, cl_200, cl_201, cl_576, cl_600, cl_864, cl_900, cl_960, cl_5400, cl_8040, j2_0, iN_iZ, iN_lit0, iZ_add, iZ_sub, iZ_mul, iZ_neg, jZ_add, jZ_sub, jZ_mul, jZ_neg, isB0, isB1, isBZ, eq0, eq1, bZ0, vI_, vJ_, vA_, rI_, rJ_, rA_, rV_, nX_, tX_, true_and, and_true, false_and, and_false, and_self, implies_true, forall_const, not_true_eq_false, not_false_eq_true, false_implies, true_implies, ↓reduceIte, Nat.reduceEqDiff, Int.reduceToNat, Int.reduceAdd, Int.reduceSub, Int.reduceLT, Int.reduceLE, Int.reduceEq, Int.add_zero, Int.neg_zero, Int.add_sub_cancel, Int.reduceNeg, Nat.reduceLeDiff, Nat.reduceSub, true_or, or_true, false_or, or_false, setI_d, setJ_d, setP_d, mI_row, mJ_row, mP_row, mI_row_ne, mJ_row_ne, mP_row_ne, rowI_rowI, rowJ_rowJ, rowI_sort, rowJ_sort, rowJ_rowI, rowP_rowI, rowP_rowJ, fu_app, fu_fu, mI_rowJ, mI_rowP, mJ_rowI, mJ_rowP, mP_rowI, mP_rowJ, mK_rowI, mN_rowI, mK_rowJ, mN_rowJ, mK_rowP, mN_rowP, oB_rowI, oB_rowJ, iA_rowI, iA_rowJ, iR_rowI, iR_rowJ, St_rowI, St_rowJ, K154 S2, O154 S2, P154_55 S2, m44]
    refine kI ec (Nat.le_refl _) (fun v M3 hq => ?_) (fun e M' h => False.elim h)
    obtain ⟨G3, hq⟩ := hq
    have H3 := HkS_Hf H2 (GT_Hf G3)
    have S3 := Hk_S H3.1 hS
    obtain ⟨M4, hM4⟩ : ∃ M4, M4 = rowI M3 188 (fu (mI M3 188) m v) := ⟨_, rfl⟩
    have H4 : HkS M M4 m u D := by rw [hM4]; exact HkS_row H3 (by decide) (by decide) (by decide) (by decide) (by decide)
    have S4 := Hk_S H4.1 hS
    have GG := GT_tr G2 G3
    have F4 : MF M4 m (flt rows) := by rw [hM4]; exact MF_Hfr (MF_GT hF GG) (by decide) (by decide) (by decide) (by decide)
    have B4 : MB M4 m rows := by
      unfold MB at *
      rw [hM4, mI_row_ne (by decide), GG.2.2.2.2.1 190 (by decide)]; exact hB
    have r4 : mI M4 194 m = iZ 0 := by rw [hM4, mI_row_ne (by decide), GG.2.2.2.2.1 194 (by decide)]; exact h194
    have v4 : mI M4 188 m = v := by rw [hM4, mI_row]; exact if_pos rfl
    rcases hq with ⟨ht, hv, T3⟩ | ⟨ht, X3⟩
    · rw [ht, if_neg (by omega)] at hR
      have T4 : TM M4 B n (nxT B n b1) := by rw [hM4]; exact TM_row (by decide) (by decide) T3
      have ed := c39 (G := G) (d := d + 8) (c := 59) hst S4 T4 (by decide)
      simp (disch := omega) only [wcQ, wcX, wcG, wcL, wcS, w63_204, w63_205, w63_206, w63_208, toI, toJ, toI64, inb_T, inb_iZ, Int.toNat_natCast, cl_0, cl_1, cl_2, cl_3, cl_4, cl_5, cl_6, cl_7, cl_8, cl_9, cl_10, cl_11, cl_12, cl_13, cl_14, cl_15, cl_16, cl_17, cl_18, cl_19, cl_20, cl_21, cl_22, cl_23, cl_24, cl_25, cl_26, cl_27, cl_28, cl_29, cl_30, cl_31, cl_32, cl_36, cl_40, cl_48, cl_60, cl_108, cl_120, cl_200, cl_201, cl_576, cl_600, cl_864, cl_900, cl_960, cl_5400, cl_8040, j2_0, iN_iZ, iN_lit0, iZ_add, iZ_sub, iZ_mul, iZ_neg, jZ_add, jZ_sub, jZ_mul, jZ_neg, isB0, isB1, isBZ, eq0, eq1, bZ0, vI_, vJ_, vA_, rI_, rJ_, rA_, rV_, nX_, tX_, true_and, and_true, false_and, and_false, and_self, implies_true, forall_const, not_true_eq_false, not_false_eq_true, false_implies, true_implies, ↓reduceIte, Nat.reduceEqDiff, Int.reduceToNat, Int.reduceAdd, Int.reduceSub, Int.reduceLT, Int.reduceLE, Int.reduceEq, Int.add_zero, Int.neg_zero, Int.add_sub_cancel, Int.reduceNeg, Nat.reduceLeDiff, Nat.reduceSub, true_or, or_true, false_or, or_false, setI_d, setJ_d, setP_d, mI_row, mJ_row, mP_row, mI_row_ne, mJ_row_ne, mP_row_ne, rowI_rowI, rowJ_rowJ, rowI_sort, rowJ_sort, rowJ_rowI, rowP_rowI, rowP_rowJ, fu_app, fu_fu, mI_rowJ, mI_rowP, mJ_rowI, mJ_rowP, mP_rowI, mP_rowJ, mK_rowI, mN_rowI, mK_rowJ, mN_rowJ, mK_rowP, mN_rowP, oB_rowI, oB_rowJ, iA_rowI, iA_rowJ, iR_rowI, iR_rowJ, St_rowI, St_rowJ, K188 S3, O188 S3, A188 S3, O154 S3]
      rw [← hM4]
      refine kV ed (Nat.le_refl _) (fun M5 hq => ?_) (fun e M' h => False.elim h)
      obtain ⟨G5, hq⟩ := hq
      have H5 := HkS_Hf H4 (GT_Hf G5)
      have e5 := G5.2.2.2.2.1
      rcases hq with ⟨hs, T5⟩ | ⟨hs, X5⟩
      · rw [if_pos hs] at hR
        exact c63t2 hst hS m2 H5 T5 (by rw [e5 188 (by decide), v4]; exact hv) (MF_GT F4 G5) (by unfold MB at *; rw [e5 190 (by decide)]; exact B4) (by rw [e5 194 (by decide)]; exact r4) hR _
      · rw [if_neg hs] at hR
        exact (c63x hst hS H5 X5 hR).2.1 _
    · rw [if_pos ht] at hR
      have X4 : XM M4 (tnE B n b1 0 99999) b1 := by
        unfold XM at *
        rw [hM4, mI_row_ne (by decide)]; exact X3
      simp (disch := omega) only [wcQ, wcX, wcG, wcL, wcS, w63_204, w63_205, w63_206, w63_208, toI, toJ, toI64, inb_T, inb_iZ, Int.toNat_natCast, cl_0, cl_1, cl_2, cl_3, cl_4, cl_5, cl_6, cl_7, cl_8, cl_9, cl_10, cl_11, cl_12, cl_13, cl_14, cl_15, cl_16, cl_17, cl_18, cl_19, cl_20, cl_21, cl_22, cl_23, cl_24, cl_25, cl_26, cl_27, cl_28, cl_29, cl_30, cl_31, cl_32, cl_36, cl_40, cl_48, cl_60, cl_108, cl_120, cl_200, cl_201, cl_576, cl_600, cl_864, cl_900, cl_960, cl_5400, cl_8040, j2_0, iN_iZ, iN_lit0, iZ_add, iZ_sub, iZ_mul, iZ_neg, jZ_add, jZ_sub, jZ_mul, jZ_neg, isB0, isB1, isBZ, eq0, eq1, bZ0, vI_, vJ_, vA_, rI_, rJ_, rA_, rV_, nX_, tX_, true_and, and_true, false_and, and_false, and_self, implies_true, forall_const, not_true_eq_false, not_false_eq_true, false_implies, true_implies, ↓reduceIte, Nat.reduceEqDiff, Int.reduceToNat, Int.reduceAdd, Int.reduceSub, Int.reduceLT, Int.reduceLE, Int.reduceEq, Int.add_zero, Int.neg_zero, Int.add_sub_cancel, Int.reduceNeg, Nat.reduceLeDiff, Nat.reduceSub, true_or, or_true, false_or, or_false, setI_d, setJ_d, setP_d, mI_row, mJ_row, mP_row, mI_row_ne, mJ_row_ne, mP_row_ne, rowI_rowI, rowJ_rowJ, rowI_sort, rowJ_sort, rowJ_rowI, rowP_rowI, rowP_rowJ, fu_app, fu_fu, mI_rowJ, mI_rowP, mJ_rowI, mJ_rowP, mP_rowI, mP_rowJ, mK_rowI, mN_rowI, mK_rowJ, mN_rowJ, mK_rowP, mN_rowP, oB_rowI, oB_rowJ, iA_rowI, iA_rowJ, iR_rowI, iR_rowJ, St_rowI, St_rowJ, K188 S3, O188 S3, A188 S3, O154 S3]
      rw [← hM4]
      refine kV (c39x (G := G) (d := d + 8) hst S4 X4) (Nat.le_refl _) (fun M5 hq => ?_) (fun e M' h => False.elim h)
      have hq := hq.symm
      subst hq
      exact (c63x hst hS H4 X4 hR).2.1 _
  · rw [if_neg w] at hR
    have w' := eq_false w
    simp (disch := omega) only [wcQ, wcX, wcG, wcL, wcS, w63_181, toI, toJ, toI64, inb_T, inb_iZ, Int.toNat_natCast, cl_0, cl_1, cl_2, cl_3, cl_4, cl_5, cl_6, cl_7, cl_8, cl_9, cl_10, cl_11, cl_12, cl_13, cl_14, cl_15, cl_16, cl_17, cl_18, cl_19, cl_20, cl_21, cl_22, cl_23, cl_24, cl_25, cl_26, cl_27, cl_28, cl_29, cl_30, cl_31, cl_32, cl_36, cl_40, cl_48, cl_60, cl_108, cl_120, cl_200, cl_201, cl_576, cl_600, cl_864, cl_900, cl_960, cl_5400, cl_8040, j2_0, iN_iZ, iN_lit0, iZ_add, iZ_sub, iZ_mul, iZ_neg, jZ_add, jZ_sub, jZ_mul, jZ_neg, isB0, isB1, isBZ, eq0, eq1, bZ0, vI_, vJ_, vA_, rI_, rJ_, rA_, rV_, nX_, tX_, true_and, and_true, false_and, and_false, and_self, implies_true, forall_const, not_true_eq_false, not_false_eq_true, false_implies, true_implies, ↓reduceIte, Nat.reduceEqDiff, Int.reduceToNat, Int.reduceAdd, Int.reduceSub, Int.reduceLT, Int.reduceLE, Int.reduceEq, Int.add_zero, Int.neg_zero, Int.add_sub_cancel, Int.reduceNeg, Nat.reduceLeDiff, Nat.reduceSub, true_or, or_true, false_or, or_false, setI_d, setJ_d, setP_d, mI_row, mJ_row, mP_row, mI_row_ne, mJ_row_ne, mP_row_ne, rowI_rowI, rowJ_rowJ, rowI_sort, rowJ_sort, rowJ_rowI, rowP_rowI, rowP_rowJ, fu_app, fu_fu, mI_rowJ, mI_rowP, mJ_rowI, mJ_rowP, mP_rowI, mP_rowJ, mK_rowI, mN_rowI, mK_rowJ, mN_rowJ, mK_rowP, mN_rowP, oB_rowI, oB_rowJ, iA_rowI, iA_rowJ, iR_rowI, iR_rowJ, St_rowI, St_rowJ, w']
    exact c63t2 hst hS m2 hH hT h188 hF hB h194 hR _
end
end

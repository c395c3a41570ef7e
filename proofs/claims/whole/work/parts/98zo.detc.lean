/-! SCALE: the class's determinant. -/
section
variable {G : GE} {d : Nat} {M M' M'' : Mem} {W : Nat → Nat → Int} {r : Nat → Int} {ms : Nat → Nat} {n a b i j : Nat}
def bWt (W : Nat → Nat → Int) : Prop := ∀ i j, 0 ≤ W i j ∧ W i j ≤ 1000
theorem met_b (hb : bWt W) : 0 ≤ sN (W j) 6 ∧ sN (W j) 6 ≤ 6000 := by
  have := sN_b (f := W j) (a := 0) (b := 1000) 6 (fun i _ => hb j i)
  omega
theorem c225 (hst : (gl G).stackTraces = false) (hS : Static M) (hW : ZW M W) (hb : bWt W) (hj : j < 6) : Ev G (d + 1) 225 [aR (some 110), aI (iZ j)] M 0 (vI (iZ (sN (W j) 6)) M) nX := by
  refine Ev_wp 2000 hst (by decide) (Nat.le_of_ble_eq_true rfl) ?_; simp (disch := omega) only [en225, wcQ, wcX, wcG, wcL, wcS, w225_0, w225_1, w225_2, w225_3, h225_4, w225_4, toI, toJ, toI64, inb_T, inb_iZ, Int.toNat_natCast, cl_0, cl_1, cl_2, cl_3, cl_4, cl_5, cl_6, cl_7, cl_8, cl_9, cl_10, cl_11, cl_12, cl_13, cl_14, cl_15, cl_16, cl_17, cl_18, cl_19, cl_20, cl_21, cl_22, cl_23, cl_24, cl_25, cl_26, cl_27, cl_28, cl_29, cl_30, cl_31, cl_32, cl_36, cl_40, cl_48, cl_60, cl_108, cl_120, cl_200, cl_201, cl_576, cl_600, cl_864, cl_900, cl_960, cl_5400, cl_8040, j2_0, iN_iZ, iN_lit0, iZ_add, iZ_sub, iZ_mul, iZ_neg, jZ_add, jZ_sub, jZ_mul, jZ_neg, isB0, isB1, isBZ, eq0, eq1, bZ0, vI_, vJ_, vA_, rI_, rJ_, rA_, rV_, nX_, tX_, true_and, and_true, false_and, and_false, and_self, implies_true, forall_const, not_true_eq_false, not_false_eq_true, false_implies, true_implies, ↓reduceIte, Nat.reduceEqDiff, Int.reduceToNat, Int.reduceAdd, Int.reduceSub, Int.reduceLT, Int.reduceLE, Int.reduceEq, Int.add_zero, Int.neg_zero, Int.add_sub_cancel, Int.reduceNeg, Nat.reduceLeDiff, Nat.reduceSub, true_or, or_true, false_or, or_false, setI_d, setJ_d, setP_d, mI_row, mJ_row, mP_row, mI_row_ne, mJ_row_ne, mP_row_ne, rowI_rowI, rowJ_rowJ, rowI_sort, rowJ_sort, rowJ_rowI, rowP_rowI, rowP_rowJ, fu_app, fu_fu, mI_rowJ, mI_rowP, mJ_rowI, mJ_rowP, mP_rowI, mP_rowJ, mK_rowI, mN_rowI, mK_rowJ, mN_rowJ, mK_rowP, mN_rowP, oB_rowI, oB_rowJ, iA_rowI, iA_rowJ, iR_rowI, iR_rowJ, St_rowI, St_rowJ]
  refine loopN 6 (fun i ls M' => ls = [aR (some 110), aI (iZ j), aI (iZ (sN (W j) i)), aI (iZ i)] ∧ M' = M) ⟨rfl, rfl⟩ ?_ ?_
  · intro i hi ls M' ⟨hl, hM⟩ K
    have hM := hM.symm
    subst hl hM
    have hi' : (i : Int) < 6 := by omega
    have w := hW j i hj hi
    refine wp1_go (n := 2000) ?_
    simp (disch := omega) only [wcQ, wcX, wcG, wcL, wcS, h225_4, w225_4, w225_5, w225_7, w225_10, w225_11, w225_12, w225_15, w225_16, w225_17, w225_18, w225_19, w225_20, w225_21, w225_24, toI, toJ, toI64, inb_T, inb_iZ, Int.toNat_natCast, cl_0, cl_1, cl_2, cl_3, cl_4, cl_5, cl_6, cl_7, cl_8, cl_9, cl_10, cl_11, cl_12, cl_13, cl_14, cl_15, cl_16, cl_17, cl_18, cl_19, cl_20, cl_21, cl_22, cl_23, cl_24, cl_25, cl_26, cl_27, cl_28, cl_29, cl_30, cl_31, cl_32, cl_36, cl_40, cl_48, cl_60, cl_108, cl_120, cl_200, cl_201, cl_576, cl_600, cl_864, cl_900, cl_960, cl_5400, cl_8040, j2_0, iN_iZ, iN_lit0, iZ_add, iZ_sub, iZ_mul, iZ_neg, jZ_add, jZ_sub, jZ_mul, jZ_neg, isB0, isB1, isBZ, eq0, eq1, bZ0, vI_, vJ_, vA_, rI_, rJ_, rA_, rV_, nX_, tX_, true_and, and_true, false_and, and_false, and_self, implies_true, forall_const, not_true_eq_false, not_false_eq_true, false_implies, true_implies, ↓reduceIte, Nat.reduceEqDiff, Int.reduceToNat, Int.reduceAdd, Int.reduceSub, Int.reduceLT, Int.reduceLE, Int.reduceEq, Int.add_zero, Int.neg_zero, Int.add_sub_cancel, Int.reduceNeg, Nat.reduceLeDiff, Nat.reduceSub, true_or, or_true, false_or, or_false, setI_d, setJ_d, setP_d, mI_row, mJ_row, mP_row, mI_row_ne, mJ_row_ne, mP_row_ne, rowI_rowI, rowJ_rowJ, rowI_sort, rowJ_sort, rowJ_rowI, rowP_rowI, rowP_rowJ, fu_app, fu_fu, mI_rowJ, mI_rowP, mJ_rowI, mJ_rowP, mP_rowI, mP_rowJ, mK_rowI, mN_rowI, mK_rowJ, mN_rowJ, mK_rowP, mN_rowP, oB_rowI, oB_rowJ, iA_rowI, iA_rowJ, iR_rowI, iR_rowJ, St_rowI, St_rowJ, O110 hS, P110_2 hS, O137 hS, K137 hS, A137 hS, R137 hS, PP137 hS hj, AA138 hS hj, KK138 hS hj, w, hi']
    exact K _ _ ⟨rfl, rfl⟩
  · intro ls M' ⟨hl, hM⟩
    have hM := hM.symm
    subst hl hM
    refine wp1_go (n := 2000) ?_
    simp (disch := omega) only [wcQ, wcX, wcG, wcL, wcS, h225_4, w225_4, w225_5, w225_7, w225_27, w225_28, toI, toJ, toI64, inb_T, inb_iZ, Int.toNat_natCast, cl_0, cl_1, cl_2, cl_3, cl_4, cl_5, cl_6, cl_7, cl_8, cl_9, cl_10, cl_11, cl_12, cl_13, cl_14, cl_15, cl_16, cl_17, cl_18, cl_19, cl_20, cl_21, cl_22, cl_23, cl_24, cl_25, cl_26, cl_27, cl_28, cl_29, cl_30, cl_31, cl_32, cl_36, cl_40, cl_48, cl_60, cl_108, cl_120, cl_200, cl_201, cl_576, cl_600, cl_864, cl_900, cl_960, cl_5400, cl_8040, j2_0, iN_iZ, iN_lit0, iZ_add, iZ_sub, iZ_mul, iZ_neg, jZ_add, jZ_sub, jZ_mul, jZ_neg, isB0, isB1, isBZ, eq0, eq1, bZ0, vI_, vJ_, vA_, rI_, rJ_, rA_, rV_, nX_, tX_, true_and, and_true, false_and, and_false, and_self, implies_true, forall_const, not_true_eq_false, not_false_eq_true, false_implies, true_implies, ↓reduceIte, Nat.reduceEqDiff, Int.reduceToNat, Int.reduceAdd, Int.reduceSub, Int.reduceLT, Int.reduceLE, Int.reduceEq, Int.add_zero, Int.neg_zero, Int.add_sub_cancel, Int.reduceNeg, Nat.reduceLeDiff, Nat.reduceSub, true_or, or_true, false_or, or_false, setI_d, setJ_d, setP_d, mI_row, mJ_row, mP_row, mI_row_ne, mJ_row_ne, mP_row_ne, rowI_rowI, rowJ_rowJ, rowI_sort, rowJ_sort, rowJ_rowI, rowP_rowI, rowP_rowJ, fu_app, fu_fu, mI_rowJ, mI_rowP, mJ_rowI, mJ_rowP, mP_rowI, mP_rowJ, mK_rowI, mN_rowI, mK_rowJ, mN_rowJ, mK_rowP, mN_rowP, oB_rowI, oB_rowJ, iA_rowI, iA_rowJ, iR_rowI, iR_rowJ, St_rowI, St_rowJ]
/-- the matrix that is worked out -/
def coG (W : Nat → Nat → Int) (ms : Nat → Nat) (i j : Nat) : Int := if i = j then 1 + sN (W (ms i)) 6 else 1 - W (ms i) (ms j)
def ZM (M : Mem) (n : Nat) (ms : Nat → Nat) : Prop := mI M 110 5 = iZ n ∧ n ≤ 6 ∧ ∀ i, i < n → mI M 145 i = iZ (ms i) ∧ ms i < 6
theorem co_b (hb : bWt W) : -1000 ≤ coG W ms i j ∧ coG W ms i j ≤ 6001 := by
  unfold coG
  have := met_b hb (j := ms i)
  have := hb (ms i) (ms j)
  split <;> omega
theorem c226 (hst : (gl G).stackTraces = false) (hS : Static M) (hW : ZW M W) (hb : bWt W) (hm : ZM M n ms) (hi : i < n) (hj : j < n) : Ev G (d + 2) 226 [aR (some 110), aI (iZ i), aI (iZ j)] M 0 (vJ (jZ (coG W ms i j)) M) nX := by
  obtain ⟨m1, m2, m3⟩ := hm
  obtain ⟨i1, i2⟩ := m3 i hi
  obtain ⟨j1, j2⟩ := m3 j hj
  have e := c225 (G := G) (d := d) (M := M) (j := ms i) hst hS hW hb i2
  have mb := met_b hb (j := ms i)
  have i6 : i < 6 := by omega
  have j6 : j < 6 := by omega
  have hb1 := hb (ms i) (ms j)
  have w := hW (ms i) (ms j) i2 j2
  have hc : coG W ms i j = if i = j then 1 + sN (W (ms i)) 6 else 1 - W (ms i) (ms j) := rfl
  rw [hc]
  by_cases z : i = j
  · rw [if_pos z]
    have z' : (i : Int) = (j : Int) := by omega
    refine Ev_wp 2000 hst (by decide) (Nat.le_of_ble_eq_true rfl) ?_; simp (disch := omega) only [en226, wcQ, wcX, wcG, wcL, wcS, w226_0, w226_1, w226_4, w226_5, w226_6, w226_7, w226_8, w226_9, w226_12, w226_13, w226_14, w226_15, toI, toJ, toI64, inb_T, inb_iZ, Int.toNat_natCast, cl_0, cl_1, cl_2, cl_3, cl_4, cl_5, cl_6, cl_7, cl_8, cl_9, cl_10, cl_11, cl_12, cl_13, cl_14, cl_15, cl_16, cl_17, cl_18, cl_19, cl_20, cl_21, cl_22, cl_23, cl_24, cl_25, cl_26, cl_27, cl_28, cl_29, cl_30, cl_31, cl_32, cl_36, cl_40, cl_48, cl_60, cl_108, cl_120, cl_200, cl_201, cl_576, cl_600, cl_864, cl_900, cl_960, cl_5400, cl_8040, j2_0, iN_iZ, iN_lit0, iZ_add, iZ_sub, iZ_mul, iZ_neg, jZ_add, jZ_sub, jZ_mul, jZ_neg, isB0, isB1, isBZ, eq0, eq1, bZ0, vI_, vJ_, vA_, rI_, rJ_, rA_, rV_, nX_, tX_, true_and, and_true, false_and, and_false, and_self, implies_true, forall_const, not_true_eq_false, not_false_eq_true, false_implies, true_implies, ↓reduceIte, Nat.reduceEqDiff, Int.reduceToNat, Int.reduceAdd, Int.reduceSub, Int.reduceLT, Int.reduceLE, Int.reduceEq, Int.add_zero, Int.neg_zero, Int.add_sub_cancel, Int.reduceNeg, Nat.reduceLeDiff, Nat.reduceSub, true_or, or_true, false_or, or_false, setI_d, setJ_d, setP_d, mI_row, mJ_row, mP_row, mI_row_ne, mJ_row_ne, mP_row_ne, rowI_rowI, rowJ_rowJ, rowI_sort, rowJ_sort, rowJ_rowI, rowP_rowI, rowP_rowJ, fu_app, fu_fu, mI_rowJ, mI_rowP, mJ_rowI, mJ_rowP, mP_rowI, mP_rowJ, mK_rowI, mN_rowI, mK_rowJ, mN_rowJ, mK_rowP, mN_rowP, oB_rowI, oB_rowJ, iA_rowI, iA_rowJ, iR_rowI, iR_rowJ, St_rowI, St_rowJ, O110 hS, P110_4 hS, K145 hS, O145 hS, A145 hS, i1, eq_true z']
    refine kI0 e ?_
    simp (disch := omega) only [wcQ, wcX, wcG, wcL, wcS, w226_18, w226_19, w226_20, w226_39, toI, toJ, toI64, inb_T, inb_iZ, Int.toNat_natCast, cl_0, cl_1, cl_2, cl_3, cl_4, cl_5, cl_6, cl_7, cl_8, cl_9, cl_10, cl_11, cl_12, cl_13, cl_14, cl_15, cl_16, cl_17, cl_18, cl_19, cl_20, cl_21, cl_22, cl_23, cl_24, cl_25, cl_26, cl_27, cl_28, cl_29, cl_30, cl_31, cl_32, cl_36, cl_40, cl_48, cl_60, cl_108, cl_120, cl_200, cl_201, cl_576, cl_600, cl_864, cl_900, cl_960, cl_5400, cl_8040, j2_0, iN_iZ, iN_lit0, iZ_add, iZ_sub, iZ_mul, iZ_neg, jZ_add, jZ_sub, jZ_mul, jZ_neg, isB0, isB1, isBZ, eq0, eq1, bZ0, vI_, vJ_, vA_, rI_, rJ_, rA_, rV_, nX_, tX_, true_and, and_true, false_and, and_false, and_self, implies_true, forall_const, not_true_eq_false, not_false_eq_true, false_implies, true_implies, ↓reduceIte, Nat.reduceEqDiff, Int.reduceToNat, Int.reduceAdd, Int.reduceSub, Int.reduceLT, Int.reduceLE, Int.reduceEq, Int.add_zero, Int.neg_zero, Int.add_sub_cancel, Int.reduceNeg, Nat.reduceLeDiff, Nat.reduceSub, true_or, or_true, false_or, or_false, setI_d, setJ_d, setP_d, mI_row, mJ_row, mP_row, mI_row_ne, mJ_row_ne, mP_row_ne, rowI_rowI, rowJ_rowJ, rowI_sort, rowJ_sort, rowJ_rowI, rowP_rowI, rowP_rowJ, fu_app, fu_fu, mI_rowJ, mI_rowP, mJ_rowI, mJ_rowP, mP_rowI, mP_rowJ, mK_rowI, mN_rowI, mK_rowJ, mN_rowJ, mK_rowP, mN_rowP, oB_rowI, oB_rowJ, iA_rowI, iA_rowJ, iR_rowI, iR_rowJ, St_rowI, St_rowJ]
  · rw [if_neg z]
    have z' : ¬ (i : Int) = (j : Int) := by omega
    refine Ev_wp 2000 hst (by decide) (Nat.le_of_ble_eq_true rfl) ?_; simp (disch := omega) only [en226, wcQ, wcX, wcG, wcL, wcS, w226_0, w226_1, w226_4, w226_5, w226_6, w226_7, w226_8, w226_9, w226_23, w226_24, w226_25, w226_28, w226_29, w226_30, w226_31, w226_34, w226_35, w226_36, w226_37, w226_38, w226_39, toI, toJ, toI64, inb_T, inb_iZ, Int.toNat_natCast, cl_0, cl_1, cl_2, cl_3, cl_4, cl_5, cl_6, cl_7, cl_8, cl_9, cl_10, cl_11, cl_12, cl_13, cl_14, cl_15, cl_16, cl_17, cl_18, cl_19, cl_20, cl_21, cl_22, cl_23, cl_24, cl_25, cl_26, cl_27, cl_28, cl_29, cl_30, cl_31, cl_32, cl_36, cl_40, cl_48, cl_60, cl_108, cl_120, cl_200, cl_201, cl_576, cl_600, cl_864, cl_900, cl_960, cl_5400, cl_8040, j2_0, iN_iZ, iN_lit0, iZ_add, iZ_sub, iZ_mul, iZ_neg, jZ_add, jZ_sub, jZ_mul, jZ_neg, isB0, isB1, isBZ, eq0, eq1, bZ0, vI_, vJ_, vA_, rI_, rJ_, rA_, rV_, nX_, tX_, true_and, and_true, false_and, and_false, and_self, implies_true, forall_const, not_true_eq_false, not_false_eq_true, false_implies, true_implies, ↓reduceIte, Nat.reduceEqDiff, Int.reduceToNat, Int.reduceAdd, Int.reduceSub, Int.reduceLT, Int.reduceLE, Int.reduceEq, Int.add_zero, Int.neg_zero, Int.add_sub_cancel, Int.reduceNeg, Nat.reduceLeDiff, Nat.reduceSub, true_or, or_true, false_or, or_false, setI_d, setJ_d, setP_d, mI_row, mJ_row, mP_row, mI_row_ne, mJ_row_ne, mP_row_ne, rowI_rowI, rowJ_rowJ, rowI_sort, rowJ_sort, rowJ_rowI, rowP_rowI, rowP_rowJ, fu_app, fu_fu, mI_rowJ, mI_rowP, mJ_rowI, mJ_rowP, mP_rowI, mP_rowJ, mK_rowI, mN_rowI, mK_rowJ, mN_rowJ, mK_rowP, mN_rowP, oB_rowI, oB_rowJ, iA_rowI, iA_rowJ, iR_rowI, iR_rowJ, St_rowI, St_rowJ, O110 hS, P110_4 hS, P110_2 hS, K145 hS, O145 hS, A145 hS, O137 hS, K137 hS, A137 hS, R137 hS, PP137 hS i2, AA138 hS i2, KK138 hS i2, i1, j1, w, z']
def frb (u c : Nat) : Bool := decide (u / 2 ^ c % 2 = 0)
def unF (u a k : Nat) : List Nat := (List.range' a k).filter (frb u)
theorem unF_y {u a k : Nat} (h : u / 2 ^ a % 2 = 0) : unF u a (k + 1) = a :: unF u (a + 1) k := by
  unfold unF
  rw [List.range'_succ, List.filter_cons, if_pos (by unfold frb; exact decide_eq_true h)]
theorem unF_n {u a k : Nat} (h : ¬ u / 2 ^ a % 2 = 0) : unF u a (k + 1) = unF u (a + 1) k := by
  unfold unF
  rw [List.range'_succ, List.filter_cons, if_neg (by unfold frb; rw [decide_eq_false h]; decide)]
theorem unF_app {u k l : Nat} (a : Nat) : unF u a (k + l) = unF u a k ++ unF u (a + k) l := by
  unfold unF
  rw [← List.filter_append, List.range'_append_1]
theorem unF_or {u c : Nat} (a k : Nat) (h : c < a ∨ a + k ≤ c) : unF (u ||| 2 ^ c) a k = unF u a k := by
  unfold unF
  refine List.filter_congr (fun x hx => ?_)
  have := List.mem_range'_1.mp hx
  unfold frb
  rw [tb_or, if_neg (by omega)]
theorem unF_c {u c n : Nat} (h : c < n) : unF (u ||| 2 ^ c) 0 n = unF u 0 c ++ unF u (c + 1) (n - c - 1) := by
  have e : n = c + (n - c - 1 + 1) := by omega
  conv => lhs; rw [e]
  rw [unF_app, Nat.zero_add, unF_n (by rw [tb_or, if_pos rfl]; decide), unF_or _ _ (by omega), unF_or _ _ (by omega)]
theorem unF_a {u c : Nat} : unF u 0 (c + 1) = if u / 2 ^ c % 2 = 0 then unF u 0 c ++ [c] else unF u 0 c := by
  rw [unF_app, Nat.zero_add]
  by_cases h : u / 2 ^ c % 2 = 0
  · rw [if_pos h, unF_y h]; rfl
  · rw [if_neg h, unF_n h]; exact List.append_nil _
/-- the last k rows of n -/
def rwl (n : Nat) (e : Nat → Nat → Int) : Nat → List (Nat → Int)
  | 0 => []
  | k + 1 => e (n - (k + 1)) :: rwl n e k
def enG (W : Nat → Nat → Int) (r : Nat → Int) (ms : Nat → Nat) (b : Int) (i j : Nat) : Int := if (j : Int) = b then r (ms i) else coG W ms i j
theorem c227 (hst : (gl G).stackTraces = false) (hS : Static M) (hW : ZW M W) (hR : ZR M r) (hb : bWt W) (rb : ∀ j, -1000000 ≤ r j ∧ r j ≤ 1000000) (hm : ZM M n ms) {b : Int} (b1 : -1 ≤ b) (b6 : b < 6) : ∀ k, k ≤ n → ∀ u : Nat, u < 64 → Ev G (d + k + 3) 227 [aR (some 110), aI (iZ ((n - k : Nat) : Int)), aI (iZ u), aI (iZ b)] M 0 (vJ (jZ (Dt (unF u 0 n) (rwl n (enG W r ms b) k))) M) nX
  | 0, _, u, hu => by
    have m1 := hm.1
    have m2 := hm.2.1
    show Ev G (d + 2 + 1) 227 [aR (some 110), aI (iZ ((n - 0 : Nat) : Int)), aI (iZ u), aI (iZ b)] M 0 (vJ (jZ 1) M) nX
    rw [Nat.sub_zero]
    have hl : ¬ (n : Int) < n := by omega
    refine Ev_wp 2000 hst (by decide) (Nat.le_of_ble_eq_true rfl) ?_; simp (disch := omega) only [en227, wcQ, wcX, wcG, wcL, wcS, w227_0, w227_1, w227_2, w227_5, w227_8, w227_9, toI, toJ, toI64, inb_T, inb_iZ, Int.toNat_natCast, cl_0, cl_1, cl_2, cl_3, cl_4, cl_5, cl_6, cl_7, cl_8, cl_9, cl_10, cl_11, cl_12, cl_13, cl_14, cl_15, cl_16, cl_17, cl_18, cl_19, cl_20, cl_21, cl_22, cl_23, cl_24, cl_25, cl_26, cl_27, cl_28, cl_29, cl_30, cl_31, cl_32, cl_36, cl_40, cl_48, cl_60, cl_108, cl_120, cl_200, cl_201, cl_576, cl_600, cl_864, cl_900, cl_960, cl_5400, cl_8040, j2_0, iN_iZ, iN_lit0, iZ_add, iZ_sub, iZ_mul, iZ_neg, jZ_add, jZ_sub, jZ_mul, jZ_neg, isB0, isB1, isBZ, eq0, eq1, bZ0, vI_, vJ_, vA_, rI_, rJ_, rA_, rV_, nX_, tX_, true_and, and_true, false_and, and_false, and_self, implies_true, forall_const, not_true_eq_false, not_false_eq_true, false_implies, true_implies, ↓reduceIte, Nat.reduceEqDiff, Int.reduceToNat, Int.reduceAdd, Int.reduceSub, Int.reduceLT, Int.reduceLE, Int.reduceEq, Int.add_zero, Int.neg_zero, Int.add_sub_cancel, Int.reduceNeg, Nat.reduceLeDiff, Nat.reduceSub, true_or, or_true, false_or, or_false, setI_d, setJ_d, setP_d, mI_row, mJ_row, mP_row, mI_row_ne, mJ_row_ne, mP_row_ne, rowI_rowI, rowJ_rowJ, rowI_sort, rowJ_sort, rowJ_rowI, rowP_rowI, rowP_rowJ, fu_app, fu_fu, mI_rowJ, mI_rowP, mJ_rowI, mJ_rowP, mP_rowI, mP_rowJ, mK_rowI, mN_rowI, mK_rowJ, mN_rowJ, mK_rowP, mN_rowP, oB_rowI, oB_rowJ, iA_rowI, iA_rowJ, iR_rowI, iR_rowJ, St_rowI, St_rowJ, O110 hS, m1, hl]
  | k + 1, hk, u, hu => by
    have m1 := hm.1
    have m2 := hm.2.1
    obtain ⟨row, hrow⟩ : ∃ row, row = n - (k + 1) := ⟨_, rfl⟩
    have rn : row < n := by omega
    have rs : row + 1 = n - k := by omega
    show Ev G (d + k + 3 + 1) 227 [aR (some 110), aI (iZ ((n - (k + 1) : Nat) : Int)), aI (iZ u), aI (iZ b)] M 0 (vJ (jZ (Ex (fun a x => enG W r ms b (n - (k + 1)) a * Dt x (rwl n (enG W r ms b) k)) [] (unF u 0 n))) M) nX
    rw [← hrow]
    have hl : (row : Int) < n := by omega
    obtain ⟨g1, g2⟩ := hm.2.2 row rn
    have rr := hR (ms row) g2
    have rbr := rb (ms row)
    generalize hgg : (fun a x => enG W r ms b row a * Dt x (rwl n (enG W r ms b) k)) = gg
    have hg : ∀ a x, gg a x = enG W r ms b row a * Dt x (rwl n (enG W r ms b) k) := fun a x => by rw [← hgg]
    refine Ev_wp 2000 hst (by decide) (Nat.le_of_ble_eq_true rfl) ?_; simp (disch := omega) only [en227, wcQ, wcX, wcG, wcL, wcS, w227_0, w227_1, w227_2, w227_5, w227_10, w227_11, w227_13, w227_14, w227_16, w227_17, h227_19, w227_19, toI, toJ, toI64, inb_T, inb_iZ, Int.toNat_natCast, cl_0, cl_1, cl_2, cl_3, cl_4, cl_5, cl_6, cl_7, cl_8, cl_9, cl_10, cl_11, cl_12, cl_13, cl_14, cl_15, cl_16, cl_17, cl_18, cl_19, cl_20, cl_21, cl_22, cl_23, cl_24, cl_25, cl_26, cl_27, cl_28, cl_29, cl_30, cl_31, cl_32, cl_36, cl_40, cl_48, cl_60, cl_108, cl_120, cl_200, cl_201, cl_576, cl_600, cl_864, cl_900, cl_960, cl_5400, cl_8040, j2_0, iN_iZ, iN_lit0, iZ_add, iZ_sub, iZ_mul, iZ_neg, jZ_add, jZ_sub, jZ_mul, jZ_neg, isB0, isB1, isBZ, eq0, eq1, bZ0, vI_, vJ_, vA_, rI_, rJ_, rA_, rV_, nX_, tX_, true_and, and_true, false_and, and_false, and_self, implies_true, forall_const, not_true_eq_false, not_false_eq_true, false_implies, true_implies, ↓reduceIte, Nat.reduceEqDiff, Int.reduceToNat, Int.reduceAdd, Int.reduceSub, Int.reduceLT, Int.reduceLE, Int.reduceEq, Int.add_zero, Int.neg_zero, Int.add_sub_cancel, Int.reduceNeg, Nat.reduceLeDiff, Nat.reduceSub, true_or, or_true, false_or, or_false, setI_d, setJ_d, setP_d, mI_row, mJ_row, mP_row, mI_row_ne, mJ_row_ne, mP_row_ne, rowI_rowI, rowJ_rowJ, rowI_sort, rowJ_sort, rowJ_rowI, rowP_rowI, rowP_rowJ, fu_app, fu_fu, mI_rowJ, mI_rowP, mJ_rowI, mJ_rowP, mP_rowI, mP_rowJ, mK_rowI, mN_rowI, mK_rowJ, mN_rowJ, mK_rowP, mN_rowP, oB_rowI, oB_rowJ, iA_rowI, iA_rowJ, iR_rowI, iR_rowJ, St_rowI, St_rowJ, O110 hS, m1, hl]
    refine loopN n (fun c ls M' => (∃ (S σ : Int) (x y : AV), ls = [aR (some 110), aI (iZ row), aI (iZ u), aI (iZ b), aL (jZ S), aU, aL (jZ σ), aU, aI (iZ c), x, y] ∧ S + σ * Ex gg (unF u 0 c) (unF u c (n - c)) = Ex gg [] (unF u 0 n)) ∧ M' = M) ⟨⟨0, 1, _, _, rfl, by rw [Nat.sub_zero]; show 0 + 1 * Ex gg [] (unF u 0 n) = _; omega⟩, rfl⟩ ?_ ?_
    · intro c hc ls M' ⟨⟨S, σ, x, y, hl2, hI⟩, hM⟩ K
      have hM := hM.symm
      subst hl2 hM
      have hc' : (c : Int) < n := by omega
      have c6 : c < 6 := by omega
      have bg := bit_get (n := u) (i := c) (by omega) (by omega)
      have en : n - c = n - (c + 1) + 1 := by omega
      refine wp1_go (n := 2000) ?_
      by_cases fr : u / 2 ^ c % 2 = 0
      · rw [en, unF_y fr] at hI
        have hX : Ex gg (unF u 0 c) (c :: unF u (c + 1) (n - (c + 1))) = gg c (unF u 0 c ++ unF u (c + 1) (n - (c + 1))) - Ex gg (unF u 0 c ++ [c]) (unF u (c + 1) (n - (c + 1))) := rfl
        rw [hX, hg] at hI
        have ha : unF u 0 (c + 1) = unF u 0 c ++ [c] := by rw [unF_a, if_pos fr]
        have ho : unF (u ||| 2 ^ c) 0 n = unF u 0 c ++ unF u (c + 1) (n - (c + 1)) := unF_c hc
        rw [← ha, ← ho] at hI
        have fr' : (((u / 2 ^ c % 2 : Nat) : Int) = 0) := by omega
        have u64 : (u ||| 2 ^ c) < 64 := Nat.or_lt_two_pow (n := 6) hu (by have := Nat.pow_lt_pow_right (a := 2) (by decide) c6; exact this)
        have ih := c227 hst hS hW hR hb rb hm b1 b6 k (by omega) (u ||| 2 ^ c) u64
        rw [← rs, Int.natCast_succ] at ih
        have p64 : 2 ^ c < 64 := by have := Nat.pow_lt_pow_right (a := 2) (by decide) c6; exact this
        have bo := bit_or (a := u) (b := 2 ^ c) (by omega) (by omega)
        have e6 := c226 (G := G) (d := d + k + 1) (M := M) (i := row) (j := c) hst hS hW hb hm rn hc
        have cb := co_b hb (ms := ms) (i := row) (j := c)
        have J : ∀ (m : Nat) (z : Int), z = enG W r ms b row c → (-1000000 ≤ z ∧ z ≤ 1000000) → wp (WCo G (d + k + 3) 227 (vJ (jZ (Ex gg [] (unF u 0 n))) M) nX) 227 (m + 300) 65 [aR (some 110), aI (iZ row), aI (iZ u), aI (iZ b), aL (jZ S), aU, aL (jZ σ), aU, aI (iZ c), x, y] [aL (jZ z)] M 0 := by
          intro m z hz hzb
          rw [← hz] at hI
          by_cases z0 : z = 0
          · simp (disch := omega) only [wcQ, wcX, wcG, wcL, wcS, h227_19, w227_19, w227_65, w227_67, w227_69, w227_70, w227_71, w227_99, w227_101, w227_102, w227_104, w227_107, toI, toJ, toI64, inb_T, inb_iZ, Int.toNat_natCast, cl_0, cl_1, cl_2, cl_3, cl_4, cl_5, cl_6, cl_7, cl_8, cl_9, cl_10, cl_11, cl_12, cl_13, cl_14, cl_15, cl_16, cl_17, cl_18, cl_19, cl_20, cl_21, cl_22, cl_23, cl_24, cl_25, cl_26, cl_27, cl_28, cl_29, cl_30, cl_31, cl_32, cl_36, cl_40, cl_48, cl_60, cl_108, cl_120, cl_200, cl_201, cl_576, cl_600, cl_864, cl_900, cl_960, cl_5400, cl_8040, j2_0, iN_iZ, iN_lit0, iZ_add, iZ_sub, iZ_mul, iZ_neg, jZ_add, jZ_sub, jZ_mul, jZ_neg, isB0, isB1, isBZ, eq0, eq1, bZ0, vI_, vJ_, vA_, rI_, rJ_, rA_, rV_, nX_, tX_, true_and, and_true, false_and, and_false, and_self, implies_true, forall_const, not_true_eq_false, not_false_eq_true, false_implies, true_implies, ↓reduceIte, Nat.reduceEqDiff, Int.reduceToNat, Int.reduceAdd, Int.reduceSub, Int.reduceLT, Int.reduceLE, Int.reduceEq, Int.add_zero, Int.neg_zero, Int.add_sub_cancel, Int.reduceNeg, Nat.reduceLeDiff, Nat.reduceSub, true_or, or_true, false_or, or_false, setI_d, setJ_d, setP_d, mI_row, mJ_row, mP_row, mI_row_ne, mJ_row_ne, mP_row_ne, rowI_rowI, rowJ_rowJ, rowI_sort, rowJ_sort, rowJ_rowI, rowP_rowI, rowP_rowJ, fu_app, fu_fu, mI_rowJ, mI_rowP, mJ_rowI, mJ_rowP, mP_rowI, mP_rowJ, mK_rowI, mN_rowI, mK_rowJ, mN_rowJ, mK_rowP, mN_rowP, oB_rowI, oB_rowJ, iA_rowI, iA_rowJ, iR_rowI, iR_rowJ, St_rowI, St_rowJ, cmp0, eq_true z0]
            refine K _ _ ⟨⟨S, -σ, _, _, rfl, ?_⟩, rfl⟩
            rw [← hI, z0]
            grind
          · simp (disch := omega) only [wcQ, wcX, wcG, wcL, wcS, w227_65, w227_67, w227_69, w227_70, w227_71, w227_74, w227_76, w227_78, w227_80, w227_81, w227_82, w227_83, w227_84, w227_85, w227_86, w227_87, w227_89, w227_90, w227_91, w227_92, toI, toJ, toI64, inb_T, inb_iZ, Int.toNat_natCast, cl_0, cl_1, cl_2, cl_3, cl_4, cl_5, cl_6, cl_7, cl_8, cl_9, cl_10, cl_11, cl_12, cl_13, cl_14, cl_15, cl_16, cl_17, cl_18, cl_19, cl_20, cl_21, cl_22, cl_23, cl_24, cl_25, cl_26, cl_27, cl_28, cl_29, cl_30, cl_31, cl_32, cl_36, cl_40, cl_48, cl_60, cl_108, cl_120, cl_200, cl_201, cl_576, cl_600, cl_864, cl_900, cl_960, cl_5400, cl_8040, j2_0, iN_iZ, iN_lit0, iZ_add, iZ_sub, iZ_mul, iZ_neg, jZ_add, jZ_sub, jZ_mul, jZ_neg, isB0, isB1, isBZ, eq0, eq1, bZ0, vI_, vJ_, vA_, rI_, rJ_, rA_, rV_, nX_, tX_, true_and, and_true, false_and, and_false, and_self, implies_true, forall_const, not_true_eq_false, not_false_eq_true, false_implies, true_implies, ↓reduceIte, Nat.reduceEqDiff, Int.reduceToNat, Int.reduceAdd, Int.reduceSub, Int.reduceLT, Int.reduceLE, Int.reduceEq, Int.add_zero, Int.neg_zero, Int.add_sub_cancel, Int.reduceNeg, Nat.reduceLeDiff, Nat.reduceSub, true_or, or_true, false_or, or_false, setI_d, setJ_d, setP_d, mI_row, mJ_row, mP_row, mI_row_ne, mJ_row_ne, mP_row_ne, rowI_rowI, rowJ_rowJ, rowI_sort, rowJ_sort, rowJ_rowI, rowP_rowI, rowP_rowJ, fu_app, fu_fu, mI_rowJ, mI_rowP, mJ_rowI, mJ_rowP, mP_rowI, mP_rowJ, mK_rowI, mN_rowI, mK_rowJ, mN_rowJ, mK_rowP, mN_rowP, oB_rowI, oB_rowJ, iA_rowI, iA_rowJ, iR_rowI, iR_rowJ, St_rowI, St_rowJ, O110 hS, cmp0, z0, bit_shl, bo]
            refine kJ0 ih ?_
            simp (disch := omega) only [wcQ, wcX, wcG, wcL, wcS, h227_19, w227_19, w227_95, w227_96, w227_97, w227_99, w227_101, w227_102, w227_104, w227_107, toI, toJ, toI64, inb_T, inb_iZ, Int.toNat_natCast, cl_0, cl_1, cl_2, cl_3, cl_4, cl_5, cl_6, cl_7, cl_8, cl_9, cl_10, cl_11, cl_12, cl_13, cl_14, cl_15, cl_16, cl_17, cl_18, cl_19, cl_20, cl_21, cl_22, cl_23, cl_24, cl_25, cl_26, cl_27, cl_28, cl_29, cl_30, cl_31, cl_32, cl_36, cl_40, cl_48, cl_60, cl_108, cl_120, cl_200, cl_201, cl_576, cl_600, cl_864, cl_900, cl_960, cl_5400, cl_8040, j2_0, iN_iZ, iN_lit0, iZ_add, iZ_sub, iZ_mul, iZ_neg, jZ_add, jZ_sub, jZ_mul, jZ_neg, isB0, isB1, isBZ, eq0, eq1, bZ0, vI_, vJ_, vA_, rI_, rJ_, rA_, rV_, nX_, tX_, true_and, and_true, false_and, and_false, and_self, implies_true, forall_const, not_true_eq_false, not_false_eq_true, false_implies, true_implies, ↓reduceIte, Nat.reduceEqDiff, Int.reduceToNat, Int.reduceAdd, Int.reduceSub, Int.reduceLT, Int.reduceLE, Int.reduceEq, Int.add_zero, Int.neg_zero, Int.add_sub_cancel, Int.reduceNeg, Nat.reduceLeDiff, Nat.reduceSub, true_or, or_true, false_or, or_false, setI_d, setJ_d, setP_d, mI_row, mJ_row, mP_row, mI_row_ne, mJ_row_ne, mP_row_ne, rowI_rowI, rowJ_rowJ, rowI_sort, rowJ_sort, rowJ_rowI, rowP_rowI, rowP_rowJ, fu_app, fu_fu, mI_rowJ, mI_rowP, mJ_rowI, mJ_rowP, mP_rowI, mP_rowJ, mK_rowI, mN_rowI, mK_rowJ, mN_rowJ, mK_rowP, mN_rowP, oB_rowI, oB_rowJ, iA_rowI, iA_rowJ, iR_rowI, iR_rowJ, St_rowI, St_rowJ]
            refine K _ _ ⟨⟨_, -σ, _, _, rfl, ?_⟩, rfl⟩
            rw [← hI]
            grind
        by_cases cb' : (c : Int) = b
        · have he : r (ms row) = enG W r ms b row c := (if_pos cb').symm
          simp (disch := omega) only [wcQ, wcX, wcG, wcL, wcS, h227_19, w227_19, w227_21, w227_22, w227_25, w227_28, w227_29, w227_31, w227_32, w227_33, w227_34, w227_37, w227_39, w227_40, w227_43, w227_44, w227_47, w227_48, w227_51, w227_52, w227_53, w227_54, w227_55, toI, toJ, toI64, inb_T, inb_iZ, Int.toNat_natCast, cl_0, cl_1, cl_2, cl_3, cl_4, cl_5, cl_6, cl_7, cl_8, cl_9, cl_10, cl_11, cl_12, cl_13, cl_14, cl_15, cl_16, cl_17, cl_18, cl_19, cl_20, cl_21, cl_22, cl_23, cl_24, cl_25, cl_26, cl_27, cl_28, cl_29, cl_30, cl_31, cl_32, cl_36, cl_40, cl_48, cl_60, cl_108, cl_120, cl_200, cl_201, cl_576, cl_600, cl_864, cl_900, cl_960, cl_5400, cl_8040, j2_0, iN_iZ, iN_lit0, iZ_add, iZ_sub, iZ_mul, iZ_neg, jZ_add, jZ_sub, jZ_mul, jZ_neg, isB0, isB1, isBZ, eq0, eq1, bZ0, vI_, vJ_, vA_, rI_, rJ_, rA_, rV_, nX_, tX_, true_and, and_true, false_and, and_false, and_self, implies_true, forall_const, not_true_eq_false, not_false_eq_true, false_implies, true_implies, ↓reduceIte, Nat.reduceEqDiff, Int.reduceToNat, Int.reduceAdd, Int.reduceSub, Int.reduceLT, Int.reduceLE, Int.reduceEq, Int.add_zero, Int.neg_zero, Int.add_sub_cancel, Int.reduceNeg, Nat.reduceLeDiff, Nat.reduceSub, true_or, or_true, false_or, or_false, setI_d, setJ_d, setP_d, mI_row, mJ_row, mP_row, mI_row_ne, mJ_row_ne, mP_row_ne, rowI_rowI, rowJ_rowJ, rowI_sort, rowJ_sort, rowJ_rowI, rowP_rowI, rowP_rowJ, fu_app, fu_fu, mI_rowJ, mI_rowP, mJ_rowI, mJ_rowP, mP_rowI, mP_rowJ, mK_rowI, mN_rowI, mK_rowJ, mN_rowJ, mK_rowP, mN_rowP, oB_rowI, oB_rowJ, iA_rowI, iA_rowJ, iR_rowI, iR_rowJ, St_rowI, St_rowJ, O110 hS, P110_3 hS, P110_4 hS, K144 hS, O144 hS, A144 hS, K145 hS, O145 hS, A145 hS, m1, hc', bg, fr', eq_true cb', g1, rr]
          exact J _ _ he rbr
        · have he : coG W ms row c = enG W r ms b row c := (if_neg cb').symm
          simp (disch := omega) only [wcQ, wcX, wcG, wcL, wcS, h227_19, w227_19, w227_21, w227_22, w227_25, w227_28, w227_29, w227_31, w227_32, w227_33, w227_34, w227_37, w227_39, w227_40, w227_58, w227_59, w227_60, w227_62, toI, toJ, toI64, inb_T, inb_iZ, Int.toNat_natCast, cl_0, cl_1, cl_2, cl_3, cl_4, cl_5, cl_6, cl_7, cl_8, cl_9, cl_10, cl_11, cl_12, cl_13, cl_14, cl_15, cl_16, cl_17, cl_18, cl_19, cl_20, cl_21, cl_22, cl_23, cl_24, cl_25, cl_26, cl_27, cl_28, cl_29, cl_30, cl_31, cl_32, cl_36, cl_40, cl_48, cl_60, cl_108, cl_120, cl_200, cl_201, cl_576, cl_600, cl_864, cl_900, cl_960, cl_5400, cl_8040, j2_0, iN_iZ, iN_lit0, iZ_add, iZ_sub, iZ_mul, iZ_neg, jZ_add, jZ_sub, jZ_mul, jZ_neg, isB0, isB1, isBZ, eq0, eq1, bZ0, vI_, vJ_, vA_, rI_, rJ_, rA_, rV_, nX_, tX_, true_and, and_true, false_and, and_false, and_self, implies_true, forall_const, not_true_eq_false, not_false_eq_true, false_implies, true_implies, ↓reduceIte, Nat.reduceEqDiff, Int.reduceToNat, Int.reduceAdd, Int.reduceSub, Int.reduceLT, Int.reduceLE, Int.reduceEq, Int.add_zero, Int.neg_zero, Int.add_sub_cancel, Int.reduceNeg, Nat.reduceLeDiff, Nat.reduceSub, true_or, or_true, false_or, or_false, setI_d, setJ_d, setP_d, mI_row, mJ_row, mP_row, mI_row_ne, mJ_row_ne, mP_row_ne, rowI_rowI, rowJ_rowJ, rowI_sort, rowJ_sort, rowJ_rowI, rowP_rowI, rowP_rowJ, fu_app, fu_fu, mI_rowJ, mI_rowP, mJ_rowI, mJ_rowP, mP_rowI, mP_rowJ, mK_rowI, mN_rowI, mK_rowJ, mN_rowJ, mK_rowP, mN_rowP, oB_rowI, oB_rowJ, iA_rowI, iA_rowJ, iR_rowI, iR_rowJ, St_rowI, St_rowJ, O110 hS, m1, hc', bg, fr', cb']
          refine kJ0 e6 ?_
          exact J _ _ he (by omega)
      · rw [en, unF_n fr] at hI
        have ha : unF u 0 (c + 1) = unF u 0 c := by rw [unF_a, if_neg fr]
        rw [← ha] at hI
        have fr' : ¬ (((u / 2 ^ c % 2 : Nat) : Int) = 0) := by omega
        simp (disch := omega) only [wcQ, wcX, wcG, wcL, wcS, h227_19, w227_19, w227_21, w227_22, w227_25, w227_28, w227_29, w227_31, w227_32, w227_33, w227_34, w227_104, w227_107, toI, toJ, toI64, inb_T, inb_iZ, Int.toNat_natCast, cl_0, cl_1, cl_2, cl_3, cl_4, cl_5, cl_6, cl_7, cl_8, cl_9, cl_10, cl_11, cl_12, cl_13, cl_14, cl_15, cl_16, cl_17, cl_18, cl_19, cl_20, cl_21, cl_22, cl_23, cl_24, cl_25, cl_26, cl_27, cl_28, cl_29, cl_30, cl_31, cl_32, cl_36, cl_40, cl_48, cl_60, cl_108, cl_120, cl_200, cl_201, cl_576, cl_600, cl_864, cl_900, cl_960, cl_5400, cl_8040, j2_0, iN_iZ, iN_lit0, iZ_add, iZ_sub, iZ_mul, iZ_neg, jZ_add, jZ_sub, jZ_mul, jZ_neg, isB0, isB1, isBZ, eq0, eq1, bZ0, vI_, vJ_, vA_, rI_, rJ_, rA_, rV_, nX_, tX_, true_and, and_true, false_and, and_false, and_self, implies_true, forall_const, not_true_eq_false, not_false_eq_true, false_implies, true_implies, ↓reduceIte, Nat.reduceEqDiff, Int.reduceToNat, Int.reduceAdd, Int.reduceSub, Int.reduceLT, Int.reduceLE, Int.reduceEq, Int.add_zero, Int.neg_zero, Int.add_sub_cancel, Int.reduceNeg, Nat.reduceLeDiff, Nat.reduceSub, true_or, or_true, false_or, or_false, setI_d, setJ_d, setP_d, mI_row, mJ_row, mP_row, mI_row_ne, mJ_row_ne, mP_row_ne, rowI_rowI, rowJ_rowJ, rowI_sort, rowJ_sort, rowJ_rowI, rowP_rowI, rowP_rowJ, fu_app, fu_fu, mI_rowJ, mI_rowP, mJ_rowI, mJ_rowP, mP_rowI, mP_rowJ, mK_rowI, mN_rowI, mK_rowJ, mN_rowJ, mK_rowP, mN_rowP, oB_rowI, oB_rowJ, iA_rowI, iA_rowJ, iR_rowI, iR_rowJ, St_rowI, St_rowJ, O110 hS, m1, hc', bg, fr']
        exact K _ _ ⟨⟨S, σ, _, _, rfl, hI⟩, rfl⟩
    · intro ls M' ⟨⟨S, σ, x, y, hl2, hI⟩, hM⟩
      have hM := hM.symm
      subst hl2 hM
      have hc' : ¬ (n : Int) < n := by omega
      rw [Nat.sub_self] at hI
      have hI : S + σ * 0 = Ex gg [] (unF u 0 n) := hI
      rw [Int.mul_zero, Int.add_zero] at hI
      rw [← hI]
      refine wp1_go (n := 2000) ?_
      simp (disch := omega) only [wcQ, wcX, wcG, wcL, wcS, h227_19, w227_19, w227_21, w227_22, w227_25, w227_110, w227_112, toI, toJ, toI64, inb_T, inb_iZ, Int.toNat_natCast, cl_0, cl_1, cl_2, cl_3, cl_4, cl_5, cl_6, cl_7, cl_8, cl_9, cl_10, cl_11, cl_12, cl_13, cl_14, cl_15, cl_16, cl_17, cl_18, cl_19, cl_20, cl_21, cl_22, cl_23, cl_24, cl_25, cl_26, cl_27, cl_28, cl_29, cl_30, cl_31, cl_32, cl_36, cl_40, cl_48, cl_60, cl_108, cl_120, cl_200, cl_201, cl_576, cl_600, cl_864, cl_900, cl_960, cl_5400, cl_8040, j2_0, iN_iZ, iN_lit0, iZ_add, iZ_sub, iZ_mul, iZ_neg, jZ_add, jZ_sub, jZ_mul, jZ_neg, isB0, isB1, isBZ, eq0, eq1, bZ0, vI_, vJ_, vA_, rI_, rJ_, rA_, rV_, nX_, tX_, true_and, and_true, false_and, and_false, and_self, implies_true, forall_const, not_true_eq_false, not_false_eq_true, false_implies, true_implies, ↓reduceIte, Nat.reduceEqDiff, Int.reduceToNat, Int.reduceAdd, Int.reduceSub, Int.reduceLT, Int.reduceLE, Int.reduceEq, Int.add_zero, Int.neg_zero, Int.add_sub_cancel, Int.reduceNeg, Nat.reduceLeDiff, Nat.reduceSub, true_or, or_true, false_or, or_false, setI_d, setJ_d, setP_d, mI_row, mJ_row, mP_row, mI_row_ne, mJ_row_ne, mP_row_ne, rowI_rowI, rowJ_rowJ, rowI_sort, rowJ_sort, rowJ_rowI, rowP_rowI, rowP_rowJ, fu_app, fu_fu, mI_rowJ, mI_rowP, mJ_rowI, mJ_rowP, mP_rowI, mP_rowJ, mK_rowI, mN_rowI, mK_rowJ, mN_rowJ, mK_rowP, mN_rowP, oB_rowI, oB_rowJ, iA_rowI, iA_rowJ, iR_rowI, iR_rowJ, St_rowI, St_rowJ, O110 hS, m1, hc']
end

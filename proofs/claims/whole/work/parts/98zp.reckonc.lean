/-! SCALE: the totals, and the class's reckoning. -/
section
variable {G : GE} {d : Nat} {M M' M'' : Mem} {s : Sn} {kb ra ca : Nat → Nat} {k : Int} {w j n i : Nat} {T : Nat → Nat → Int}
/-- the total of the first counted run of this dog under this judge, of the first n -/
noncomputable def tA (s : Sn) (k : Int) (w j : Nat) : Nat → Int
  | 0 => -1
  | n + 1 => @ite _ (tA s k w j n = -1 ∧ uDg s n = w ∧ uJd s n = j ∧ isC s n k) (Classical.propDecidable _) (tot s n k) (tA s k w j n)
noncomputable def tT (s : Sn) (k : Int) (w j : Nat) : Int := tA s k w j (nRn s)
theorem tA_y (h : tA s k w j n = -1 ∧ uDg s n = w ∧ uJd s n = j ∧ isC s n k) : tA s k w j (n + 1) = tot s n k := if_pos h
theorem tA_n (h : ¬ (tA s k w j n = -1 ∧ uDg s n = w ∧ uJd s n = j ∧ isC s n k)) : tA s k w j (n + 1) = tA s k w j n := if_neg h
theorem tA_b (hO : Sok s) : ∀ n, -1 ≤ tA s k w j n ∧ tA s k w j n ≤ 2792
  | 0 => ⟨Int.le_refl _, show (-1 : Int) ≤ 2792 by decide⟩
  | n + 1 => by
    by_cases h : tA s k w j n = -1 ∧ uDg s n = w ∧ uJd s n = j ∧ isC s n k
    · rw [tA_y h]
      have := tot_b (u := n) (k := k) hO h.2.2.2.1
      omega
    · rw [tA_n h]; exact tA_b hO n
theorem tA_no : ∀ n, (∀ i, i < n → ¬ (uDg s i = w ∧ uJd s i = j ∧ isC s i k)) → tA s k w j n = -1
  | 0, _ => rfl
  | n + 1, h => by rw [tA_n (fun z => h n (by omega) z.2)]; exact tA_no n (fun i hi => h i (by omega))
theorem tA_yes (hO : Sok s) (h : uDg s i = w ∧ uJd s i = j ∧ isC s i k) (h0 : ∀ i', i' < i → ¬ (uDg s i' = w ∧ uJd s i' = j ∧ isC s i' k)) : ∀ n, i < n → tA s k w j n = tot s i k
  | 0, hn => absurd hn (by omega)
  | n + 1, hn => by
    by_cases z : i = n
    · subst z
      exact tA_y ⟨tA_no i h0, h⟩
    · have ih := tA_yes hO h h0 n (by omega)
      have := tot_b (u := i) (k := k) hO h.2.2.1
      rw [tA_n (fun z => by have := z.1; omega)]
      exact ih
noncomputable def wS (T : Nat → Nat → Int) (n x y : Nat) : Int := sN (fun w => ind (eT (T w) x y)) n
noncomputable def rS (T : Nat → Nat → Int) (n x : Nat) : Int := sN (fun w => sN (dT (T w) x) 6) n
def eS (T : Nat → Nat → Int) (n x y : Nat) : Prop := ∃ w, w < n ∧ (x < 6 ∧ y < 6) ∧ eT (T w) x y
theorem FZ_CF (h : FZ M M') : CF M M' := ⟨h.1, h.2.1, h.2.2.1, h.2.2.2.1, fun c hc => h.2.2.2.2 c (by omega)⟩
theorem c224 (hst : (gl G).stackTraces = false) (hS : Static M) (hO : Sok s) (hC : CSn M s kb ra ca) (k1 : -2147483648 ≤ k) (k2 : k < 2147483648) : Ev G (d + 5) 224 [aR (some 110), aR (some 97), aI (iZ k)] M 0 (rV fun M' => FZ M M' ∧ ZW M' (wS (tT s k) 24) ∧ ZR M' (rS (tT s k) 24) ∧ ∃ g, ZG M' g ∧ Gi (eS (tT s k) 24) g) nX := by
  have e1 := c221 (G := G) (d := d + 2) (M := M) hst hS
  have n120 := hO.2.2.1.1
  refine Ev_wp 2000 hst (by decide) (Nat.le_of_ble_eq_true rfl) ?_; simp (disch := omega) only [en224, wcQ, wcX, wcG, wcL, wcS, w224_0, w224_1, toI, toJ, toI64, inb_T, inb_iZ, Int.toNat_natCast, cl_0, cl_1, cl_2, cl_3, cl_4, cl_5, cl_6, cl_7, cl_8, cl_9, cl_10, cl_11, cl_12, cl_13, cl_14, cl_15, cl_16, cl_17, cl_18, cl_19, cl_20, cl_21, cl_22, cl_23, cl_24, cl_25, cl_26, cl_27, cl_28, cl_29, cl_30, cl_31, cl_32, cl_36, cl_40, cl_48, cl_60, cl_108, cl_120, cl_200, cl_201, cl_576, cl_600, cl_864, cl_900, cl_960, cl_5400, cl_8040, j2_0, iN_iZ, iN_lit0, iZ_add, iZ_sub, iZ_mul, iZ_neg, jZ_add, jZ_sub, jZ_mul, jZ_neg, isB0, isB1, isBZ, eq0, eq1, bZ0, vI_, vJ_, vA_, rI_, rJ_, rA_, rV_, nX_, tX_, true_and, and_true, false_and, and_false, and_self, implies_true, forall_const, not_true_eq_false, not_false_eq_true, false_implies, true_implies, ↓reduceIte, Nat.reduceEqDiff, Int.reduceToNat, Int.reduceAdd, Int.reduceSub, Int.reduceLT, Int.reduceLE, Int.reduceEq, Int.add_zero, Int.neg_zero, Int.add_sub_cancel, Int.reduceNeg, Nat.reduceLeDiff, Nat.reduceSub, true_or, or_true, false_or, or_false, setI_d, setJ_d, setP_d, mI_row, mJ_row, mP_row, mI_row_ne, mJ_row_ne, mP_row_ne, rowI_rowI, rowJ_rowJ, rowI_sort, rowJ_sort, rowJ_rowI, rowP_rowI, rowP_rowJ, fu_app, fu_fu, mI_rowJ, mI_rowP, mJ_rowI, mJ_rowP, mP_rowI, mP_rowJ, mK_rowI, mN_rowI, mK_rowJ, mN_rowJ, mK_rowP, mN_rowP, oB_rowI, oB_rowJ, iA_rowI, iA_rowJ, iR_rowI, iR_rowJ, St_rowI, St_rowJ, K110 hS, O110 hS, P110_0 hS, P110_1 hS, P110_2 hS, P110_3 hS, P110_4 hS]
  refine kV e1 (Nat.le_refl _) (fun M1 hq => ?_) (fun e M' h => False.elim h)
  obtain ⟨F1, T1, W1, R1, G1⟩ := hq
  have C1 := CSn_CF (FZ_CF F1) hC
  have S1 := FZ_S F1 hS
  simp (disch := omega) only [wcQ, wcX, wcG, wcL, wcS, w224_4, w224_5, h224_6, w224_6, toI, toJ, toI64, inb_T, inb_iZ, Int.toNat_natCast, cl_0, cl_1, cl_2, cl_3, cl_4, cl_5, cl_6, cl_7, cl_8, cl_9, cl_10, cl_11, cl_12, cl_13, cl_14, cl_15, cl_16, cl_17, cl_18, cl_19, cl_20, cl_21, cl_22, cl_23, cl_24, cl_25, cl_26, cl_27, cl_28, cl_29, cl_30, cl_31, cl_32, cl_36, cl_40, cl_48, cl_60, cl_108, cl_120, cl_200, cl_201, cl_576, cl_600, cl_864, cl_900, cl_960, cl_5400, cl_8040, j2_0, iN_iZ, iN_lit0, iZ_add, iZ_sub, iZ_mul, iZ_neg, jZ_add, jZ_sub, jZ_mul, jZ_neg, isB0, isB1, isBZ, eq0, eq1, bZ0, vI_, vJ_, vA_, rI_, rJ_, rA_, rV_, nX_, tX_, true_and, and_true, false_and, and_false, and_self, implies_true, forall_const, not_true_eq_false, not_false_eq_true, false_implies, true_implies, ↓reduceIte, Nat.reduceEqDiff, Int.reduceToNat, Int.reduceAdd, Int.reduceSub, Int.reduceLT, Int.reduceLE, Int.reduceEq, Int.add_zero, Int.neg_zero, Int.add_sub_cancel, Int.reduceNeg, Nat.reduceLeDiff, Nat.reduceSub, true_or, or_true, false_or, or_false, setI_d, setJ_d, setP_d, mI_row, mJ_row, mP_row, mI_row_ne, mJ_row_ne, mP_row_ne, rowI_rowI, rowJ_rowJ, rowI_sort, rowJ_sort, rowJ_rowI, rowP_rowI, rowP_rowJ, fu_app, fu_fu, mI_rowJ, mI_rowP, mJ_rowI, mJ_rowP, mP_rowI, mP_rowJ, mK_rowI, mN_rowI, mK_rowJ, mN_rowJ, mK_rowP, mN_rowP, oB_rowI, oB_rowJ, iA_rowI, iA_rowJ, iR_rowI, iR_rowJ, St_rowI, St_rowJ]
  refine loopN (nRn s) (fun i ls M' => (∃ x y, ls = [aR (some 110), aR (some 97), aI (iZ k), aI (iZ i), x, y]) ∧ (FZ M1 M' ∧ ∀ c, (c < 113 ∨ 136 < c) → mI M' c = mI M1 c) ∧ ZT M' (fun w j => tA s k w j i)) ⟨⟨_, _, rfl⟩, ⟨FZ_rfl, fun _ _ => rfl⟩, T1⟩ ?_ ?_
  · intro i hi ls Mi ⟨⟨x, y, hl⟩, ⟨hF, hF2⟩, hT⟩ K
    subst hl
    have Si := FZ_S hF S1
    have Ci := CSn_CF (FZ_CF hF) C1
    have rn := Ci.2.2.1.1
    obtain ⟨r1, r2, r3, r4, r5, r6, r7, r8, _⟩ := Ci.2.2.1.2 i hi
    have r3' := eq_true r3
    obtain ⟨v1, v2, _⟩ := hO.2.2.1.2 i hi
    have t20 := hO.2.1.1
    obtain ⟨q1, _, _, q4⟩ := hO.2.1.2 (uTr s i) v1
    obtain ⟨_, _, x3⟩ := Ci.2.1.2 (uTr s i) v1
    have tr20 : uTr s i < 20 := Nat.lt_of_lt_of_le v1 t20
    have hi' : (i : Int) < nRn s := by omega
    have i120 : i < 120 := by omega
    have ht := hT (uDg s i) (uJd s i) v2 q4
    have tb := tA_b (k := k) (w := uDg s i) (j := uJd s i) hO i
    have f3 := c190 (G := G) (d := d) (M := Mi) (u := i) hst Si hO Ci hi k1 k2
    have f4 := c191 (G := G) (d := d + 2) (M := Mi) (u := i) hst Si hO Ci hi k1 k2
    have step : ∀ M', FZ Mi M' → (∀ c, (c < 113 ∨ 136 < c) → mI M' c = mI Mi c) → (∀ w j, w < 24 → j < 6 → (w ≠ uDg s i ∨ j ≠ uJd s i) → mI M' (113 + w) j = mI Mi (113 + w) j) → mI M' (113 + uDg s i) (uJd s i) = iZ (tA s k (uDg s i) (uJd s i) (i + 1)) → (FZ M1 M' ∧ ∀ c, (c < 113 ∨ 136 < c) → mI M' c = mI M1 c) ∧ ZT M' (fun w j => tA s k w j (i + 1)) := fun M' h1 h2 h3 h4 => by
      refine ⟨⟨FZ_tr hF h1, fun c hc => (h2 c hc).trans (hF2 c hc)⟩, fun w j hw hj => ?_⟩
      by_cases z : w = uDg s i ∧ j = uJd s i
      · obtain ⟨rfl, rfl⟩ := z; exact h4
      · show _ = iZ (tA s k w j (i + 1))
        rw [h3 w j hw hj (by omega), tA_n (fun y => z ⟨y.2.1.symm, y.2.2.1.symm⟩)]
        exact hT w j hw hj
    refine wp1_go (n := 2000) ?_
    by_cases h1 : tA s k (uDg s i) (uJd s i) i = -1
    · simp (disch := omega) only [wcQ, wcX, wcG, wcL, wcS, h224_6, w224_6, w224_7, w224_8, w224_11, w224_14, w224_15, w224_18, w224_19, w224_20, w224_22, w224_23, w224_26, w224_28, w224_31, w224_32, w224_34, w224_35, w224_38, w224_40, w224_43, w224_44, w224_46, w224_47, w224_48, w224_51, w224_52, w224_53, w224_54, toI, toJ, toI64, inb_T, inb_iZ, Int.toNat_natCast, cl_0, cl_1, cl_2, cl_3, cl_4, cl_5, cl_6, cl_7, cl_8, cl_9, cl_10, cl_11, cl_12, cl_13, cl_14, cl_15, cl_16, cl_17, cl_18, cl_19, cl_20, cl_21, cl_22, cl_23, cl_24, cl_25, cl_26, cl_27, cl_28, cl_29, cl_30, cl_31, cl_32, cl_36, cl_40, cl_48, cl_60, cl_108, cl_120, cl_200, cl_201, cl_576, cl_600, cl_864, cl_900, cl_960, cl_5400, cl_8040, j2_0, iN_iZ, iN_lit0, iZ_add, iZ_sub, iZ_mul, iZ_neg, jZ_add, jZ_sub, jZ_mul, jZ_neg, isB0, isB1, isBZ, eq0, eq1, bZ0, vI_, vJ_, vA_, rI_, rJ_, rA_, rV_, nX_, tX_, true_and, and_true, false_and, and_false, and_self, implies_true, forall_const, not_true_eq_false, not_false_eq_true, false_implies, true_implies, ↓reduceIte, Nat.reduceEqDiff, Int.reduceToNat, Int.reduceAdd, Int.reduceSub, Int.reduceLT, Int.reduceLE, Int.reduceEq, Int.add_zero, Int.neg_zero, Int.add_sub_cancel, Int.reduceNeg, Nat.reduceLeDiff, Nat.reduceSub, true_or, or_true, false_or, or_false, setI_d, setJ_d, setP_d, mI_row, mJ_row, mP_row, mI_row_ne, mJ_row_ne, mP_row_ne, rowI_rowI, rowJ_rowJ, rowI_sort, rowJ_sort, rowJ_rowI, rowP_rowI, rowP_rowJ, fu_app, fu_fu, mI_rowJ, mI_rowP, mJ_rowI, mJ_rowP, mP_rowI, mP_rowJ, mK_rowI, mN_rowI, mK_rowJ, mN_rowJ, mK_rowP, mN_rowP, oB_rowI, oB_rowJ, iA_rowI, iA_rowJ, iR_rowI, iR_rowJ, St_rowI, St_rowJ, K97 Si, O97 Si, P97_5 Si, P97_3 Si, K101 Si, O101 Si, A101 Si, R101 Si, K100 Si, O100 Si, A100 Si, O110 Si, P110_1 Si, O112 Si, K112 Si, A112 Si, R112 Si, PP112 Si v2, AA113 Si v2, KK113 Si v2, r1, r3', r4, r5, x3, rn, hi', ht, h1]
      refine kI f3 (Nat.le_refl _) (fun v M' hq => ?_) (fun e M' h => False.elim h)
      obtain ⟨hM, hv⟩ := hq
      have hM := hM.symm
      subst hM
      rcases hv with ⟨rfl, hv⟩ | ⟨rfl, hv⟩
      · rw [if_neg hv.1] at f4
        simp (disch := omega) only [wcQ, wcX, wcG, wcL, wcS, w224_57, w224_60, w224_61, w224_64, w224_66, w224_69, w224_70, w224_72, w224_73, w224_74, w224_75, toI, toJ, toI64, inb_T, inb_iZ, Int.toNat_natCast, cl_0, cl_1, cl_2, cl_3, cl_4, cl_5, cl_6, cl_7, cl_8, cl_9, cl_10, cl_11, cl_12, cl_13, cl_14, cl_15, cl_16, cl_17, cl_18, cl_19, cl_20, cl_21, cl_22, cl_23, cl_24, cl_25, cl_26, cl_27, cl_28, cl_29, cl_30, cl_31, cl_32, cl_36, cl_40, cl_48, cl_60, cl_108, cl_120, cl_200, cl_201, cl_576, cl_600, cl_864, cl_900, cl_960, cl_5400, cl_8040, j2_0, iN_iZ, iN_lit0, iZ_add, iZ_sub, iZ_mul, iZ_neg, jZ_add, jZ_sub, jZ_mul, jZ_neg, isB0, isB1, isBZ, eq0, eq1, bZ0, vI_, vJ_, vA_, rI_, rJ_, rA_, rV_, nX_, tX_, true_and, and_true, false_and, and_false, and_self, implies_true, forall_const, not_true_eq_false, not_false_eq_true, false_implies, true_implies, ↓reduceIte, Nat.reduceEqDiff, Int.reduceToNat, Int.reduceAdd, Int.reduceSub, Int.reduceLT, Int.reduceLE, Int.reduceEq, Int.add_zero, Int.neg_zero, Int.add_sub_cancel, Int.reduceNeg, Nat.reduceLeDiff, Nat.reduceSub, true_or, or_true, false_or, or_false, setI_d, setJ_d, setP_d, mI_row, mJ_row, mP_row, mI_row_ne, mJ_row_ne, mP_row_ne, rowI_rowI, rowJ_rowJ, rowI_sort, rowJ_sort, rowJ_rowI, rowP_rowI, rowP_rowJ, fu_app, fu_fu, mI_rowJ, mI_rowP, mJ_rowI, mJ_rowP, mP_rowI, mP_rowJ, mK_rowI, mN_rowI, mK_rowJ, mN_rowJ, mK_rowP, mN_rowP, oB_rowI, oB_rowJ, iA_rowI, iA_rowJ, iR_rowI, iR_rowJ, St_rowI, St_rowJ, K97 Si, O97 Si, O110 Si, P110_1 Si, O112 Si, K112 Si, A112 Si, R112 Si, PP112 Si v2, r3', r5]
        refine kI0 f4 ?_
        simp (disch := omega) only [wcQ, wcX, wcG, wcL, wcS, h224_6, w224_6, w224_78, w224_79, w224_82, toI, toJ, toI64, inb_T, inb_iZ, Int.toNat_natCast, cl_0, cl_1, cl_2, cl_3, cl_4, cl_5, cl_6, cl_7, cl_8, cl_9, cl_10, cl_11, cl_12, cl_13, cl_14, cl_15, cl_16, cl_17, cl_18, cl_19, cl_20, cl_21, cl_22, cl_23, cl_24, cl_25, cl_26, cl_27, cl_28, cl_29, cl_30, cl_31, cl_32, cl_36, cl_40, cl_48, cl_60, cl_108, cl_120, cl_200, cl_201, cl_576, cl_600, cl_864, cl_900, cl_960, cl_5400, cl_8040, j2_0, iN_iZ, iN_lit0, iZ_add, iZ_sub, iZ_mul, iZ_neg, jZ_add, jZ_sub, jZ_mul, jZ_neg, isB0, isB1, isBZ, eq0, eq1, bZ0, vI_, vJ_, vA_, rI_, rJ_, rA_, rV_, nX_, tX_, true_and, and_true, false_and, and_false, and_self, implies_true, forall_const, not_true_eq_false, not_false_eq_true, false_implies, true_implies, ↓reduceIte, Nat.reduceEqDiff, Int.reduceToNat, Int.reduceAdd, Int.reduceSub, Int.reduceLT, Int.reduceLE, Int.reduceEq, Int.add_zero, Int.neg_zero, Int.add_sub_cancel, Int.reduceNeg, Nat.reduceLeDiff, Nat.reduceSub, true_or, or_true, false_or, or_false, setI_d, setJ_d, setP_d, mI_row, mJ_row, mP_row, mI_row_ne, mJ_row_ne, mP_row_ne, rowI_rowI, rowJ_rowJ, rowI_sort, rowJ_sort, rowJ_rowI, rowP_rowI, rowP_rowJ, fu_app, fu_fu, mI_rowJ, mI_rowP, mJ_rowI, mJ_rowP, mP_rowI, mP_rowJ, mK_rowI, mN_rowI, mK_rowJ, mN_rowJ, mK_rowP, mN_rowP, oB_rowI, oB_rowJ, iA_rowI, iA_rowJ, iR_rowI, iR_rowJ, St_rowI, St_rowJ, AA113 Si v2, KK113 Si v2]
        refine K _ _ ⟨⟨_, _, rfl⟩, step _ (FZ_row (by omega) (by omega)) (fun c hc => mI_row_ne (by omega)) (fun w j hw hj hne => ?_) ?_⟩
        · by_cases z : w = uDg s i
          · subst z
            rw [mI_row]
            exact if_neg (fun z => hne.elim (fun y => y rfl) (fun y => y z))
          · rw [mI_row_ne (fun y => z (Nat.add_left_cancel y))]
        · rw [mI_row, tA_y ⟨h1, rfl, rfl, hv⟩]
          exact if_pos rfl
      · simp (disch := omega) only [wcQ, wcX, wcG, wcL, wcS, h224_6, w224_6, w224_57, w224_79, w224_82, toI, toJ, toI64, inb_T, inb_iZ, Int.toNat_natCast, cl_0, cl_1, cl_2, cl_3, cl_4, cl_5, cl_6, cl_7, cl_8, cl_9, cl_10, cl_11, cl_12, cl_13, cl_14, cl_15, cl_16, cl_17, cl_18, cl_19, cl_20, cl_21, cl_22, cl_23, cl_24, cl_25, cl_26, cl_27, cl_28, cl_29, cl_30, cl_31, cl_32, cl_36, cl_40, cl_48, cl_60, cl_108, cl_120, cl_200, cl_201, cl_576, cl_600, cl_864, cl_900, cl_960, cl_5400, cl_8040, j2_0, iN_iZ, iN_lit0, iZ_add, iZ_sub, iZ_mul, iZ_neg, jZ_add, jZ_sub, jZ_mul, jZ_neg, isB0, isB1, isBZ, eq0, eq1, bZ0, vI_, vJ_, vA_, rI_, rJ_, rA_, rV_, nX_, tX_, true_and, and_true, false_and, and_false, and_self, implies_true, forall_const, not_true_eq_false, not_false_eq_true, false_implies, true_implies, ↓reduceIte, Nat.reduceEqDiff, Int.reduceToNat, Int.reduceAdd, Int.reduceSub, Int.reduceLT, Int.reduceLE, Int.reduceEq, Int.add_zero, Int.neg_zero, Int.add_sub_cancel, Int.reduceNeg, Nat.reduceLeDiff, Nat.reduceSub, true_or, or_true, false_or, or_false, setI_d, setJ_d, setP_d, mI_row, mJ_row, mP_row, mI_row_ne, mJ_row_ne, mP_row_ne, rowI_rowI, rowJ_rowJ, rowI_sort, rowJ_sort, rowJ_rowI, rowP_rowI, rowP_rowJ, fu_app, fu_fu, mI_rowJ, mI_rowP, mJ_rowI, mJ_rowP, mP_rowI, mP_rowJ, mK_rowI, mN_rowI, mK_rowJ, mN_rowJ, mK_rowP, mN_rowP, oB_rowI, oB_rowJ, iA_rowI, iA_rowJ, iR_rowI, iR_rowJ, St_rowI, St_rowJ]
        exact K _ _ ⟨⟨_, _, rfl⟩, step _ FZ_rfl (fun c hc => rfl) (fun w j hw hj hne => rfl) (by rw [tA_n (fun z => hv z.2.2.2)]; exact ht)⟩
    · simp (disch := omega) only [wcQ, wcX, wcG, wcL, wcS, h224_6, w224_6, w224_7, w224_8, w224_11, w224_14, w224_15, w224_18, w224_19, w224_20, w224_22, w224_23, w224_26, w224_28, w224_31, w224_32, w224_34, w224_35, w224_38, w224_40, w224_43, w224_44, w224_46, w224_47, w224_48, w224_79, w224_82, toI, toJ, toI64, inb_T, inb_iZ, Int.toNat_natCast, cl_0, cl_1, cl_2, cl_3, cl_4, cl_5, cl_6, cl_7, cl_8, cl_9, cl_10, cl_11, cl_12, cl_13, cl_14, cl_15, cl_16, cl_17, cl_18, cl_19, cl_20, cl_21, cl_22, cl_23, cl_24, cl_25, cl_26, cl_27, cl_28, cl_29, cl_30, cl_31, cl_32, cl_36, cl_40, cl_48, cl_60, cl_108, cl_120, cl_200, cl_201, cl_576, cl_600, cl_864, cl_900, cl_960, cl_5400, cl_8040, j2_0, iN_iZ, iN_lit0, iZ_add, iZ_sub, iZ_mul, iZ_neg, jZ_add, jZ_sub, jZ_mul, jZ_neg, isB0, isB1, isBZ, eq0, eq1, bZ0, vI_, vJ_, vA_, rI_, rJ_, rA_, rV_, nX_, tX_, true_and, and_true, false_and, and_false, and_self, implies_true, forall_const, not_true_eq_false, not_false_eq_true, false_implies, true_implies, ↓reduceIte, Nat.reduceEqDiff, Int.reduceToNat, Int.reduceAdd, Int.reduceSub, Int.reduceLT, Int.reduceLE, Int.reduceEq, Int.add_zero, Int.neg_zero, Int.add_sub_cancel, Int.reduceNeg, Nat.reduceLeDiff, Nat.reduceSub, true_or, or_true, false_or, or_false, setI_d, setJ_d, setP_d, mI_row, mJ_row, mP_row, mI_row_ne, mJ_row_ne, mP_row_ne, rowI_rowI, rowJ_rowJ, rowI_sort, rowJ_sort, rowJ_rowI, rowP_rowI, rowP_rowJ, fu_app, fu_fu, mI_rowJ, mI_rowP, mJ_rowI, mJ_rowP, mP_rowI, mP_rowJ, mK_rowI, mN_rowI, mK_rowJ, mN_rowJ, mK_rowP, mN_rowP, oB_rowI, oB_rowJ, iA_rowI, iA_rowJ, iR_rowI, iR_rowJ, St_rowI, St_rowJ, K97 Si, O97 Si, P97_5 Si, P97_3 Si, K101 Si, O101 Si, A101 Si, R101 Si, K100 Si, O100 Si, A100 Si, O110 Si, P110_1 Si, O112 Si, K112 Si, A112 Si, R112 Si, PP112 Si v2, AA113 Si v2, KK113 Si v2, r1, r3', r4, r5, x3, rn, hi', ht, h1]
      exact K _ _ ⟨⟨_, _, rfl⟩, step _ FZ_rfl (fun c hc => rfl) (fun w j hw hj hne => rfl) (by rw [tA_n (fun z => h1 z.1)]; exact ht)⟩
  · intro ls Mi ⟨⟨x, y, hl⟩, ⟨hF, hF2⟩, hT⟩
    subst hl
    have Si := FZ_S hF S1
    have Ci := CSn_CF (FZ_CF hF) C1
    have rn := Ci.2.2.1.1
    have hi' : ¬ (nRn s : Int) < nRn s := by omega
    obtain ⟨T, hTT⟩ : ∃ T, T = tT s k := ⟨_, rfl⟩
    rw [← hTT]
    have hT : ZT Mi T := by rw [hTT]; exact hT
    have tb : ∀ w j, -1 ≤ T w j ∧ T w j ≤ 2792 := fun w j => by rw [hTT]; exact tA_b hO _
    have W0 : ZW Mi (wS T 0) := fun x y hx hy => (congrFun (hF2 (138 + x) (by omega)) y).trans (W1 x y hx hy)
    have R0 : ZR Mi (rS T 0) := fun x hx => (congrFun (hF2 144 (by omega)) x).trans (R1 x hx)
    have G0 : ZG Mi (fun j => j) := fun x hx => (congrFun (hF2 111 (by omega)) x).trans (G1 x hx)
    have E0 : Gi (eS T 0) (fun j => j) := Gi_iff Gi_0 (fun a b => ⟨fun z => False.elim z, fun ⟨w, hw, _⟩ => absurd hw (by omega)⟩)
    refine wp1_go (n := 2000) ?_
    simp (disch := omega) only [wcQ, wcX, wcG, wcL, wcS, h224_6, w224_6, w224_7, w224_8, w224_11, w224_85, w224_86, h224_87, w224_87, toI, toJ, toI64, inb_T, inb_iZ, Int.toNat_natCast, cl_0, cl_1, cl_2, cl_3, cl_4, cl_5, cl_6, cl_7, cl_8, cl_9, cl_10, cl_11, cl_12, cl_13, cl_14, cl_15, cl_16, cl_17, cl_18, cl_19, cl_20, cl_21, cl_22, cl_23, cl_24, cl_25, cl_26, cl_27, cl_28, cl_29, cl_30, cl_31, cl_32, cl_36, cl_40, cl_48, cl_60, cl_108, cl_120, cl_200, cl_201, cl_576, cl_600, cl_864, cl_900, cl_960, cl_5400, cl_8040, j2_0, iN_iZ, iN_lit0, iZ_add, iZ_sub, iZ_mul, iZ_neg, jZ_add, jZ_sub, jZ_mul, jZ_neg, isB0, isB1, isBZ, eq0, eq1, bZ0, vI_, vJ_, vA_, rI_, rJ_, rA_, rV_, nX_, tX_, true_and, and_true, false_and, and_false, and_self, implies_true, forall_const, not_true_eq_false, not_false_eq_true, false_implies, true_implies, ↓reduceIte, Nat.reduceEqDiff, Int.reduceToNat, Int.reduceAdd, Int.reduceSub, Int.reduceLT, Int.reduceLE, Int.reduceEq, Int.add_zero, Int.neg_zero, Int.add_sub_cancel, Int.reduceNeg, Nat.reduceLeDiff, Nat.reduceSub, true_or, or_true, false_or, or_false, setI_d, setJ_d, setP_d, mI_row, mJ_row, mP_row, mI_row_ne, mJ_row_ne, mP_row_ne, rowI_rowI, rowJ_rowJ, rowI_sort, rowJ_sort, rowJ_rowI, rowP_rowI, rowP_rowJ, fu_app, fu_fu, mI_rowJ, mI_rowP, mJ_rowI, mJ_rowP, mP_rowI, mP_rowJ, mK_rowI, mN_rowI, mK_rowJ, mN_rowJ, mK_rowP, mN_rowP, oB_rowI, oB_rowJ, iA_rowI, iA_rowJ, iR_rowI, iR_rowJ, St_rowI, St_rowJ, K97 Si, O97 Si, rn, hi']
    refine loopN 24 (fun w ls M' => (∃ x y, ls = [aR (some 110), aR (some 97), aI (iZ k), aI (iZ w), x, y]) ∧ FP Mi M' ∧ ZW M' (wS T w) ∧ ZR M' (rS T w) ∧ ∃ g, ZG M' g ∧ Gi (eS T w) g) ⟨⟨_, _, rfl⟩, FP_rfl, W0, R0, _, G0, E0⟩ ?_ ?_
    · intro w hw ls Mw ⟨⟨x, y, hl⟩, jF, jW, jR, g, jG, jE⟩ K
      subst hl
      have Sw := FZ_S (FP_FZ jF) Si
      have hw' : (w : Int) < 24 := by omega
      have e := c223 (G := G) (d := d + 1) (M := Mw) (w := w) (t := T w) hst Sw hw (fun j hj => by rw [jF.2.2.2.2 _ (by omega) (by omega)]; exact hT w j hw hj) (fun j hj => by have := tb w j; omega) jW jR jG jE
      refine wp1_go (n := 2000) ?_
      simp (disch := omega) only [wcQ, wcX, wcG, wcL, wcS, h224_87, w224_87, w224_88, w224_90, w224_93, w224_94, w224_95, w224_98, w224_99, w224_100, toI, toJ, toI64, inb_T, inb_iZ, Int.toNat_natCast, cl_0, cl_1, cl_2, cl_3, cl_4, cl_5, cl_6, cl_7, cl_8, cl_9, cl_10, cl_11, cl_12, cl_13, cl_14, cl_15, cl_16, cl_17, cl_18, cl_19, cl_20, cl_21, cl_22, cl_23, cl_24, cl_25, cl_26, cl_27, cl_28, cl_29, cl_30, cl_31, cl_32, cl_36, cl_40, cl_48, cl_60, cl_108, cl_120, cl_200, cl_201, cl_576, cl_600, cl_864, cl_900, cl_960, cl_5400, cl_8040, j2_0, iN_iZ, iN_lit0, iZ_add, iZ_sub, iZ_mul, iZ_neg, jZ_add, jZ_sub, jZ_mul, jZ_neg, isB0, isB1, isBZ, eq0, eq1, bZ0, vI_, vJ_, vA_, rI_, rJ_, rA_, rV_, nX_, tX_, true_and, and_true, false_and, and_false, and_self, implies_true, forall_const, not_true_eq_false, not_false_eq_true, false_implies, true_implies, ↓reduceIte, Nat.reduceEqDiff, Int.reduceToNat, Int.reduceAdd, Int.reduceSub, Int.reduceLT, Int.reduceLE, Int.reduceEq, Int.add_zero, Int.neg_zero, Int.add_sub_cancel, Int.reduceNeg, Nat.reduceLeDiff, Nat.reduceSub, true_or, or_true, false_or, or_false, setI_d, setJ_d, setP_d, mI_row, mJ_row, mP_row, mI_row_ne, mJ_row_ne, mP_row_ne, rowI_rowI, rowJ_rowJ, rowI_sort, rowJ_sort, rowJ_rowI, rowP_rowI, rowP_rowJ, fu_app, fu_fu, mI_rowJ, mI_rowP, mJ_rowI, mJ_rowP, mP_rowI, mP_rowJ, mK_rowI, mN_rowI, mK_rowJ, mN_rowJ, mK_rowP, mN_rowP, oB_rowI, oB_rowJ, iA_rowI, iA_rowJ, iR_rowI, iR_rowJ, St_rowI, St_rowJ, O110 Sw, P110_1 Sw, O112 Sw, K112 Sw, A112 Sw, R112 Sw, PP112 Sw hw, hw']
      refine kV e (Nat.le_refl _) (fun M2 hq => ?_) (fun e M' h => False.elim h)
      obtain ⟨F2, W2, R2, g2, G2, E2⟩ := hq
      simp (disch := omega) only [wcQ, wcX, wcG, wcL, wcS, h224_87, w224_87, w224_103, w224_106, toI, toJ, toI64, inb_T, inb_iZ, Int.toNat_natCast, cl_0, cl_1, cl_2, cl_3, cl_4, cl_5, cl_6, cl_7, cl_8, cl_9, cl_10, cl_11, cl_12, cl_13, cl_14, cl_15, cl_16, cl_17, cl_18, cl_19, cl_20, cl_21, cl_22, cl_23, cl_24, cl_25, cl_26, cl_27, cl_28, cl_29, cl_30, cl_31, cl_32, cl_36, cl_40, cl_48, cl_60, cl_108, cl_120, cl_200, cl_201, cl_576, cl_600, cl_864, cl_900, cl_960, cl_5400, cl_8040, j2_0, iN_iZ, iN_lit0, iZ_add, iZ_sub, iZ_mul, iZ_neg, jZ_add, jZ_sub, jZ_mul, jZ_neg, isB0, isB1, isBZ, eq0, eq1, bZ0, vI_, vJ_, vA_, rI_, rJ_, rA_, rV_, nX_, tX_, true_and, and_true, false_and, and_false, and_self, implies_true, forall_const, not_true_eq_false, not_false_eq_true, false_implies, true_implies, ↓reduceIte, Nat.reduceEqDiff, Int.reduceToNat, Int.reduceAdd, Int.reduceSub, Int.reduceLT, Int.reduceLE, Int.reduceEq, Int.add_zero, Int.neg_zero, Int.add_sub_cancel, Int.reduceNeg, Nat.reduceLeDiff, Nat.reduceSub, true_or, or_true, false_or, or_false, setI_d, setJ_d, setP_d, mI_row, mJ_row, mP_row, mI_row_ne, mJ_row_ne, mP_row_ne, rowI_rowI, rowJ_rowJ, rowI_sort, rowJ_sort, rowJ_rowI, rowP_rowI, rowP_rowJ, fu_app, fu_fu, mI_rowJ, mI_rowP, mJ_rowI, mJ_rowP, mP_rowI, mP_rowJ, mK_rowI, mN_rowI, mK_rowJ, mN_rowJ, mK_rowP, mN_rowP, oB_rowI, oB_rowJ, iA_rowI, iA_rowJ, iR_rowI, iR_rowJ, St_rowI, St_rowJ]
      refine K _ _ ⟨⟨_, _, rfl⟩, FP_tr jF F2, fun x y hx hy => ?_, fun x hx => ?_, g2, G2, Gi_iff E2 (fun x y => ?_)⟩
      · rw [W2 x y hx hy]; congr 1
        show wS T w x y + ind ((x < 6 ∨ (x = 6 ∧ y < 0)) ∧ eT (T w) x y) = wS T w x y + ind (eT (T w) x y)
        congr 1
        exact ind_iff ⟨fun z => z.2, fun z => ⟨Or.inl hx, z⟩⟩
      · rw [R2 x hx]; congr 1
        unfold pRr
        rw [if_pos hx]
        rfl
      · constructor
        · rintro (⟨w2, h1, h2⟩ | ⟨h1, h2, h3⟩)
          · exact ⟨w2, by omega, h2⟩
          · exact ⟨w, by omega, ⟨by omega, h2⟩, h3⟩
        · rintro ⟨w2, h1, h2, h3⟩
          by_cases z : w2 = w
          · subst z; exact Or.inr ⟨Or.inl h2.1, h2.2, h3⟩
          · exact Or.inl ⟨w2, by omega, h2, h3⟩
    · intro ls Mw ⟨⟨x, y, hl⟩, jF, jW, jR, g, jG, jE⟩
      subst hl
      refine wp1_go (n := 2000) ?_
      simp (disch := omega) only [wcQ, wcX, wcG, wcL, wcS, h224_87, w224_87, w224_88, w224_90, w224_109, toI, toJ, toI64, inb_T, inb_iZ, Int.toNat_natCast, cl_0, cl_1, cl_2, cl_3, cl_4, cl_5, cl_6, cl_7, cl_8, cl_9, cl_10, cl_11, cl_12, cl_13, cl_14, cl_15, cl_16, cl_17, cl_18, cl_19, cl_20, cl_21, cl_22, cl_23, cl_24, cl_25, cl_26, cl_27, cl_28, cl_29, cl_30, cl_31, cl_32, cl_36, cl_40, cl_48, cl_60, cl_108, cl_120, cl_200, cl_201, cl_576, cl_600, cl_864, cl_900, cl_960, cl_5400, cl_8040, j2_0, iN_iZ, iN_lit0, iZ_add, iZ_sub, iZ_mul, iZ_neg, jZ_add, jZ_sub, jZ_mul, jZ_neg, isB0, isB1, isBZ, eq0, eq1, bZ0, vI_, vJ_, vA_, rI_, rJ_, rA_, rV_, nX_, tX_, true_and, and_true, false_and, and_false, and_self, implies_true, forall_const, not_true_eq_false, not_false_eq_true, false_implies, true_implies, ↓reduceIte, Nat.reduceEqDiff, Int.reduceToNat, Int.reduceAdd, Int.reduceSub, Int.reduceLT, Int.reduceLE, Int.reduceEq, Int.add_zero, Int.neg_zero, Int.add_sub_cancel, Int.reduceNeg, Nat.reduceLeDiff, Nat.reduceSub, true_or, or_true, false_or, or_false, setI_d, setJ_d, setP_d, mI_row, mJ_row, mP_row, mI_row_ne, mJ_row_ne, mP_row_ne, rowI_rowI, rowJ_rowJ, rowI_sort, rowJ_sort, rowJ_rowI, rowP_rowI, rowP_rowJ, fu_app, fu_fu, mI_rowJ, mI_rowP, mJ_rowI, mJ_rowP, mP_rowI, mP_rowJ, mK_rowI, mN_rowI, mK_rowJ, mN_rowJ, mK_rowP, mN_rowP, oB_rowI, oB_rowJ, iA_rowI, iA_rowJ, iR_rowI, iR_rowJ, St_rowI, St_rowJ]
      exact ⟨FZ_tr F1 (FZ_tr hF (FP_FZ jF)), jW, jR, g, jG, jE⟩
end

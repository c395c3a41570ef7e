/-! card, protest: the class's calls. -/
section
variable {G : GE} {d : Nat} {M M' M'' : Mem} {s : Sn} {kb ra ca : Nat → Nat} {B : Nat → Nat} {u c a k i j n : Nat} {D U W K t z : Int} {rows : Rw} {re : Bool}
/-- blocks of books lie one behind the other -/
def Dj (s : Sn) (kb : Nat → Nat) : Prop := ∀ i j, i < j → j < nBk s → kb i + 11 ≤ kb j
/-- what the class keeps of the season is as it was; new cells may be -/
def CG (M M' : Mem) : Prop := mN M ≤ mN M' ∧ (∀ c, c < mN M → mK M' c = mK M c) ∧ (∀ c, (c = 94 ∨ c = 98 ∨ c = 101 ∨ (222 ≤ c ∧ c < mN M)) → mP M' c = mP M c) ∧ (∀ c, 222 ≤ c → c < mN M → mJ M' c = mJ M c ∧ mI M' c = mI M c) ∧ mI M' 61 6 = mI M 61 6 ∧ (∀ j, j = 0 ∨ j = 4 ∨ j = 6 ∨ j = 7 → mI M' 97 j = mI M 97 j) ∧ ∀ c, (c = 99 ∨ c = 100 ∨ (102 ≤ c ∧ c ≤ 105)) → mI M' c = mI M c
theorem CSn_CG (h : CG M M') (hC : CSn M s kb ra ca) : CSn M' s kb ra ca := by
  obtain ⟨a1, a2, a3, a4, a5, a6, a7⟩ := h
  obtain ⟨⟨b1, b2⟩, ⟨t1, t2⟩, ⟨r1, r2⟩, ⟨c1, c2⟩, p1, p2⟩ := hC
  refine ⟨⟨by rw [a5]; exact b1, fun i hi => ?_⟩, ⟨by rw [a6 0 (by omega)]; exact t1, fun i hi => ?_⟩, ⟨by rw [a6 4 (by omega)]; exact r1, fun i hi => ?_⟩, ⟨by rw [a6 6 (by omega)]; exact c1, fun i hi => ?_⟩, by rw [a6 7 (by omega)]; exact p1, fun i hi => ?_⟩
  · obtain ⟨e1, N, sz, e2, e3, e4⟩ := b2 i hi
    have k1 := e2.1
    have k2 := e2.2.1
    refine ⟨by rw [a3 94 (by omega)]; exact e1, N, sz, BK_fr e2 (by omega) (fun y _ _ => ⟨a2 y (by omega), a3 y (by omega)⟩), BC_fr e3 (fun y h1 h2 => ⟨(a4 y (by omega) (by omega)).2, (a4 y (by omega) (by omega)).1⟩), e4⟩
  · rw [a3 98 (by omega), a7 99 (by omega), a7 100 (by omega)]; exact t2 i hi
  · obtain ⟨e1, e2, e3, e4⟩ := r2 i hi
    have k2 := e3.2.1
    refine ⟨by rw [a3 101 (by omega)]; exact e1, e2, ⟨e3.1, by omega, by rw [a2 _ (by omega)]; exact e3.2.2⟩, ?_⟩
    rw [(a4 (ra i) e2 (by omega)).2, a3 (ra i) (by omega)]
    exact e4
  · obtain ⟨⟨e1, e2⟩, e3, e4⟩ := c2 i hi
    obtain ⟨f1, f2, f3, f4, f5, f6, f7⟩ := e1
    have g : ∀ y, ca i ≤ y → y < ca i + 3 → 222 ≤ y ∧ y < mN M := fun y h1 h2 => ⟨by omega, by omega⟩
    refine ⟨⟨⟨f1, by omega, ?_, ?_, ?_, ?_, ?_⟩, ?_⟩, ?_, ?_⟩
    · rw [a2 _ (by omega)]; exact f3
    · rw [a2 _ (by omega)]; exact f4
    · rw [a2 _ (by omega)]; exact f5
    · rw [a3 _ (by omega)]; exact f6
    · rw [a3 _ (by omega)]; exact f7
    · rw [(a4 (ca i) (by omega) (by omega)).2, (a4 (ca i + 1) (by omega) (by omega)).2, (a4 (ca i + 2) (by omega) (by omega)).2]; exact e2
    · rw [(a4 (ca i) (by omega) (by omega)).2]; exact e3
    · rw [a3 _ (by omega)]; exact e4
  · rw [a7 102 (by omega), a7 103 (by omega), a7 104 (by omega), a7 105 (by omega)]; exact p2 i hi
/-- a reader of cards is at work: the season is as it was -/
theorem CSn_FF (h : FF M M' k c) (hc : mN M = c) (hC : CSn M s kb ra ca) (hD : Dj s kb) {r : Nat} (hr : r < nBk s) (hk : k = kb r) (h97 : 222 ≤ c) : CSn M' s kb ra ca := by
  obtain ⟨a1, a2, a3, a4⟩ := h
  subst hc
  obtain ⟨⟨b1, b2⟩, ⟨t1, t2⟩, ⟨r1, r2⟩, ⟨c1, c2⟩, p1, p2⟩ := hC
  obtain ⟨_, Nr, szr, er2, _⟩ := b2 r hr
  rw [← hk] at er2
  have k1 := er2.1
  have k2 := er2.2.1
  have k8 := bk_k8 er2
  have k9 := bk_k9 er2
  have I : ∀ y, y < mN M → y ≠ 91 → y ≠ 95 → y ≠ 96 → y ≠ k + 8 → y ≠ k + 9 → mI M' y = mI M y := fun y hy h1 h2 h3 h4 h5 => (a4 y hy).2.2.2 h1 h2 h3 h4 h5
  have P : ∀ y, y < mN M → y ≠ 95 → mP M' y = mP M y := fun y hy h => (a4 y hy).2.2.1 h
  have Kd : ∀ y, y < mN M → mK M' y = mK M y := fun y hy => (a4 y hy).1
  have J : ∀ y, y < mN M → mJ M' y = mJ M y := fun y hy => (a4 y hy).2.1
  refine ⟨⟨by rw [I 61 (by omega) (by omega) (by omega) (by omega) (by omega) (by omega)]; exact b1, fun i hi => ?_⟩, ⟨by rw [I 97 (by omega) (by omega) (by omega) (by omega) (by omega) (by omega)]; exact t1, fun i hi => ?_⟩, ⟨by rw [I 97 (by omega) (by omega) (by omega) (by omega) (by omega) (by omega)]; exact r1, fun i hi => ?_⟩, ⟨by rw [I 97 (by omega) (by omega) (by omega) (by omega) (by omega) (by omega)]; exact c1, fun i hi => ?_⟩, by rw [I 97 (by omega) (by omega) (by omega) (by omega) (by omega) (by omega)]; exact p1, fun i hi => ?_⟩
  · obtain ⟨e1, N, sz, e2, e3, e4⟩ := b2 i hi
    have q1 := e2.1
    have q2 := e2.2.1
    refine ⟨by rw [P 94 (by omega) (by omega)]; exact e1, N, sz, BK_fr e2 (by omega) (fun y _ _ => ⟨Kd y (by omega), P y (by omega) (by omega)⟩), ?_, e4⟩
    have hne : ∀ x, x < 11 → x ≠ 8 → x ≠ 9 → kb i + x ≠ k + 8 ∧ kb i + x ≠ k + 9 := fun x h1 h2 h3 => by
      by_cases w : i = r
      · subst w; omega
      · by_cases w2 : i < r
        · have := hD i r w2 hr; omega
        · have := hD r i (by omega) hi; omega
    have Ix : ∀ x, x < 11 → x ≠ 8 → x ≠ 9 → mI M' (kb i + x) = mI M (kb i + x) := fun x h1 h2 h3 => I _ (by omega) (by omega) (by omega) (by omega) (hne x h1 h2 h3).1 (hne x h1 h2 h3).2
    have I0 := Ix 0 (by omega) (by omega) (by omega)
    rw [Nat.add_zero] at I0
    unfold BC CL at *
    rw [I0, Ix 1 (by omega) (by omega) (by omega), Ix 2 (by omega) (by omega) (by omega), Ix 3 (by omega) (by omega) (by omega), Ix 4 (by omega) (by omega) (by omega), Ix 7 (by omega) (by omega) (by omega), Ix 10 (by omega) (by omega) (by omega), J (kb i + 5) (by omega), J (kb i + 6) (by omega)]
    exact e3
  · rw [P 98 (by omega) (by omega), I 99 (by omega) (by omega) (by omega) (by omega) (by omega) (by omega), I 100 (by omega) (by omega) (by omega) (by omega) (by omega) (by omega)]; exact t2 i hi
  · obtain ⟨e1, e2, e3, e4⟩ := r2 i hi
    have q2 := e3.2.1
    have q3 := e3.2.2
    have n8 : ra i ≠ k + 8 := fun z => by rw [z, k8] at q3; exact absurd q3 (by decide)
    have n9 : ra i ≠ k + 9 := fun z => by rw [z, k9] at q3; exact absurd q3 (by decide)
    refine ⟨by rw [P 101 (by omega) (by omega)]; exact e1, e2, ⟨e3.1, by omega, by rw [Kd _ (by omega)]; exact e3.2.2⟩, ?_⟩
    rw [I (ra i) (by omega) (by omega) (by omega) (by omega) n8 n9, P (ra i) (by omega) (by omega)]
    exact e4
  · obtain ⟨⟨e1, e2⟩, e3, e4⟩ := c2 i hi
    obtain ⟨f1, f2, f3, f4, f5, f6, f7⟩ := e1
    have n0 : ca i ≠ k + 8 ∧ ca i ≠ k + 9 := ⟨fun z => by rw [z, k8] at f3; exact absurd f3 (by decide), fun z => by rw [z, k9] at f3; exact absurd f3 (by decide)⟩
    have n1 : ca i + 1 ≠ k + 8 ∧ ca i + 1 ≠ k + 9 := ⟨fun z => by rw [z, k8] at f4; exact absurd f4 (by decide), fun z => by rw [z, k9] at f4; exact absurd f4 (by decide)⟩
    have n2 : ca i + 2 ≠ k + 8 ∧ ca i + 2 ≠ k + 9 := ⟨fun z => by rw [z, k8] at f5; exact absurd f5 (by decide), fun z => by rw [z, k9] at f5; exact absurd f5 (by decide)⟩
    refine ⟨⟨⟨f1, by omega, ?_, ?_, ?_, ?_, ?_⟩, ?_⟩, ?_, ?_⟩
    · rw [Kd _ (by omega)]; exact f3
    · rw [Kd _ (by omega)]; exact f4
    · rw [Kd _ (by omega)]; exact f5
    · rw [P _ (by omega) (by omega)]; exact f6
    · rw [P _ (by omega) (by omega)]; exact f7
    · rw [I (ca i) (by omega) (by omega) (by omega) (by omega) n0.1 n0.2, I (ca i + 1) (by omega) (by omega) (by omega) (by omega) n1.1 n1.2, I (ca i + 2) (by omega) (by omega) (by omega) (by omega) n2.1 n2.2]; exact e2
    · rw [I (ca i) (by omega) (by omega) (by omega) (by omega) n0.1 n0.2]; exact e3
    · rw [P _ (by omega) (by omega)]; exact e4
  · rw [I 102 (by omega) (by omega) (by omega) (by omega) (by omega) (by omega), I 103 (by omega) (by omega) (by omega) (by omega) (by omega) (by omega), I 104 (by omega) (by omega) (by omega) (by omega) (by omega) (by omega), I 105 (by omega) (by omega) (by omega) (by omega) (by omega) (by omega)]; exact p2 i hi
/-- one card more -/
def addC (s : Sn) (u : Nat) (D : Int) (rows : Rw) (t : Int) (re : Bool) : Sn := (s.1, s.2.1, s.2.2.1, (nCd s + 1, fu (eCd s) (nCd s) (u, D, rows, t, re)), s.2.2.2.2)
theorem addC_lt (hi : i < nCd s) : eCd (addC s u D rows t re) i = eCd s i := if_neg (by omega)
theorem addC_eq : eCd (addC s u D rows t re) (nCd s) = (u, D, rows, t, re) := if_pos rfl
theorem cA_congr {s' : Sn} {w : Nat} {kk : Int} : ∀ n, (∀ i, i < n → eCd s' i = eCd s i) → cA s' w kk n = cA s w kk n
  | 0, _ => rfl
  | n + 1, h => by
    have ih := cA_congr (s' := s') (w := w) (kk := kk) n (fun i hi => h i (by omega))
    show (if (eCd s' n).1 = w ∧ (eCd s' n).2.1 ≤ kk then (n : Int) else cA s' w kk n) = (if (eCd s n).1 = w ∧ (eCd s n).2.1 ≤ kk then (n : Int) else cA s w kk n)
    rw [h n (by omega), ih]
theorem oA_fu {cc : Nat} {z : Int} (h : z < nCd s) (h0 : -1 ≤ z) : oA (fu ca (nCd s) cc) z = oA ca z := by
  unfold oA
  by_cases w : z = -1
  · rw [if_pos w, if_pos w]
  · rw [if_neg w, if_neg w]
    congr 1
    exact if_neg (by omega)
theorem c183 (hst : (gl G).stackTraces = false) (hS : Static M) (hu : u < 120) (h1 : mP M 101 u = some a) (h2 : oB M a 7) (h3 : oB M c 0) (g2 : 222 ≤ a) (g3 : 222 ≤ c) {n : Nat} (hn : mI M 97 6 = iZ n) (n2 : n ≤ 200) : Ev G (d + 1) 183 [aR (some 97), aI (iZ u), aR (some c), aI (iZ D)] M 0 (rV fun M' => M' = rowI (setI (setP (setP M c 7 (mP M a 4)) a 4 (some c)) c 0 (iZ D)) 97 (fu (mI M 97) 6 (iZ ((n : Int) + 1)))) nX := by
  obtain ⟨a1, a2, a3⟩ := h2
  obtain ⟨c1, c2, c3⟩ := h3
  have hne : a ≠ c := fun z => by rw [z, c3] at a3; exact absurd a3 (by decide)
  have oa : oB M a 7 = True := eq_true ⟨a1, a2, a3⟩
  have oc : oB M c 0 = True := eq_true ⟨c1, c2, c3⟩
  obtain ⟨M1, hM1⟩ : ∃ M1, M1 = rowI (rowP M c (fu (mP M c) 7 (mP M a 4))) c (fu (mI M c) 0 (iZ D)) := ⟨_, rfl⟩
  have S1 : Static M1 := by rw [hM1]; exact St_P g3 hS
  have p1 : mP M1 101 u = some a := by rw [hM1, mP_rowI, mP_row_ne (by omega)]; exact h1
  have oa1 : oB M1 a 7 = True := by rw [hM1, oB_rowI, oB_rowP]; exact oa
  have e1 : mP M1 a = mP M a := by rw [hM1, mP_rowI, mP_row_ne hne]
  have e2 : mI M1 97 = mI M 97 := by rw [hM1, mI_row_ne (by omega)]; rfl
  refine Ev_wp 2000 hst (by decide) (Nat.le_of_ble_eq_true rfl) ?_; simp (disch := omega) only [en183, wcQ, wcX, wcG, wcL, wcS, w183_0, w183_1, w183_2, w183_5, w183_6, w183_7, w183_10, w183_11, w183_12, w183_15, w183_18, w183_19, toI, toJ, toI64, inb_T, inb_iZ, Int.toNat_natCast, cl_0, cl_1, cl_2, cl_3, cl_4, cl_5, cl_6, cl_7, cl_8, cl_9, cl_10, cl_11, cl_12, cl_13, cl_14, cl_15, cl_16, cl_17, cl_18, cl_19, cl_20, cl_21, cl_22, cl_23, cl_24, cl_25, cl_26, cl_27, cl_28, cl_29, cl_30, cl_31, cl_32, cl_36, cl_40, cl_48, cl_60, cl_108, cl_120, cl_200, cl_201, cl_576, cl_600, cl_864, cl_900, cl_960, cl_5400, cl_8040, j2_0, iN_iZ, iN_lit0, iZ_add, iZ_sub, iZ_mul, iZ_neg, jZ_add, jZ_sub, jZ_mul, jZ_neg, isB0, isB1, isBZ, eq0, eq1, bZ0, vI_, vJ_, vA_, rI_, rJ_, rA_, rV_, nX_, tX_, true_and, and_true, false_and, and_false, and_self, implies_true, forall_const, not_true_eq_false, not_false_eq_true, false_implies, true_implies, ↓reduceIte, Nat.reduceEqDiff, Int.reduceToNat, Int.reduceAdd, Int.reduceSub, Int.reduceLT, Int.reduceLE, Int.reduceEq, Int.add_zero, Int.neg_zero, Int.add_sub_cancel, Int.reduceNeg, Nat.reduceLeDiff, Nat.reduceSub, true_or, or_true, false_or, or_false, setI_d, setJ_d, setP_d, mI_row, mJ_row, mP_row, mI_row_ne, mJ_row_ne, mP_row_ne, rowI_rowI, rowJ_rowJ, rowI_sort, rowJ_sort, rowJ_rowI, rowP_rowI, rowP_rowJ, fu_app, fu_fu, mI_rowJ, mI_rowP, mJ_rowI, mJ_rowP, mP_rowI, mP_rowJ, mK_rowI, mN_rowI, mK_rowJ, mN_rowJ, mK_rowP, mN_rowP, oB_rowI, oB_rowJ, iA_rowI, iA_rowJ, iR_rowI, iR_rowJ, St_rowI, St_rowJ, K97 hS, O97 hS, P97_1 hS, P97_2 hS, P97_3 hS, P97_5 hS, P97_8 hS, P97_9 hS, P97_10 hS, P97_11 hS, K101 hS, O101 hS, A101 hS, R101 hS, h1, oa, oc, hn, oB_rowP]
  rw [← hM1]
  simp (disch := omega) only [wcQ, wcX, wcG, wcL, wcS, w183_22, w183_23, w183_24, w183_25, toI, toJ, toI64, inb_T, inb_iZ, Int.toNat_natCast, cl_0, cl_1, cl_2, cl_3, cl_4, cl_5, cl_6, cl_7, cl_8, cl_9, cl_10, cl_11, cl_12, cl_13, cl_14, cl_15, cl_16, cl_17, cl_18, cl_19, cl_20, cl_21, cl_22, cl_23, cl_24, cl_25, cl_26, cl_27, cl_28, cl_29, cl_30, cl_31, cl_32, cl_36, cl_40, cl_48, cl_60, cl_108, cl_120, cl_200, cl_201, cl_576, cl_600, cl_864, cl_900, cl_960, cl_5400, cl_8040, j2_0, iN_iZ, iN_lit0, iZ_add, iZ_sub, iZ_mul, iZ_neg, jZ_add, jZ_sub, jZ_mul, jZ_neg, isB0, isB1, isBZ, eq0, eq1, bZ0, vI_, vJ_, vA_, rI_, rJ_, rA_, rV_, nX_, tX_, true_and, and_true, false_and, and_false, and_self, implies_true, forall_const, not_true_eq_false, not_false_eq_true, false_implies, true_implies, ↓reduceIte, Nat.reduceEqDiff, Int.reduceToNat, Int.reduceAdd, Int.reduceSub, Int.reduceLT, Int.reduceLE, Int.reduceEq, Int.add_zero, Int.neg_zero, Int.add_sub_cancel, Int.reduceNeg, Nat.reduceLeDiff, Nat.reduceSub, true_or, or_true, false_or, or_false, setI_d, setJ_d, setP_d, mI_row, mJ_row, mP_row, mI_row_ne, mJ_row_ne, mP_row_ne, rowI_rowI, rowJ_rowJ, rowI_sort, rowJ_sort, rowJ_rowI, rowP_rowI, rowP_rowJ, fu_app, fu_fu, mI_rowJ, mI_rowP, mJ_rowI, mJ_rowP, mP_rowI, mP_rowJ, mK_rowI, mN_rowI, mK_rowJ, mN_rowJ, mK_rowP, mN_rowP, oB_rowI, oB_rowJ, iA_rowI, iA_rowJ, iR_rowI, iR_rowJ, St_rowI, St_rowJ, K97 S1, O97 S1, P97_5 S1, K101 S1, O101 S1, A101 S1, R101 S1, p1, oa1]
  obtain ⟨M2, hM2⟩ : ∃ M2, M2 = rowP M1 a (fu (mP M1 a) 4 (some c)) := ⟨_, rfl⟩
  have S2 : Static M2 := by rw [hM2]; exact St_P g2 S1
  rw [← hM2]
  have e3 : mI M2 97 6 = iZ n := by rw [hM2, mI_rowP, e2]; exact hn
  simp (disch := omega) only [wcQ, wcX, wcG, wcL, wcS, w183_28, w183_29, w183_30, w183_33, w183_34, w183_35, w183_38, toI, toJ, toI64, inb_T, inb_iZ, Int.toNat_natCast, cl_0, cl_1, cl_2, cl_3, cl_4, cl_5, cl_6, cl_7, cl_8, cl_9, cl_10, cl_11, cl_12, cl_13, cl_14, cl_15, cl_16, cl_17, cl_18, cl_19, cl_20, cl_21, cl_22, cl_23, cl_24, cl_25, cl_26, cl_27, cl_28, cl_29, cl_30, cl_31, cl_32, cl_36, cl_40, cl_48, cl_60, cl_108, cl_120, cl_200, cl_201, cl_576, cl_600, cl_864, cl_900, cl_960, cl_5400, cl_8040, j2_0, iN_iZ, iN_lit0, iZ_add, iZ_sub, iZ_mul, iZ_neg, jZ_add, jZ_sub, jZ_mul, jZ_neg, isB0, isB1, isBZ, eq0, eq1, bZ0, vI_, vJ_, vA_, rI_, rJ_, rA_, rV_, nX_, tX_, true_and, and_true, false_and, and_false, and_self, implies_true, forall_const, not_true_eq_false, not_false_eq_true, false_implies, true_implies, ↓reduceIte, Nat.reduceEqDiff, Int.reduceToNat, Int.reduceAdd, Int.reduceSub, Int.reduceLT, Int.reduceLE, Int.reduceEq, Int.add_zero, Int.neg_zero, Int.add_sub_cancel, Int.reduceNeg, Nat.reduceLeDiff, Nat.reduceSub, true_or, or_true, false_or, or_false, setI_d, setJ_d, setP_d, mI_row, mJ_row, mP_row, mI_row_ne, mJ_row_ne, mP_row_ne, rowI_rowI, rowJ_rowJ, rowI_sort, rowJ_sort, rowJ_rowI, rowP_rowI, rowP_rowJ, fu_app, fu_fu, mI_rowJ, mI_rowP, mJ_rowI, mJ_rowP, mP_rowI, mP_rowJ, mK_rowI, mN_rowI, mK_rowJ, mN_rowJ, mK_rowP, mN_rowP, oB_rowI, oB_rowJ, iA_rowI, iA_rowJ, iR_rowI, iR_rowJ, St_rowI, St_rowJ, K97 S2, O97 S2, e3]
  rw [hM2, e1, mI_rowP, e2, hM1]
  rfl
theorem CSn_addC {Mr : Mem} (hC : CSn Mr s kb ra ca) (hO : Sok s) (hu : u < nRn s) (hc : CO Mr c (uBk s u) (uHr s u) (uWd s u) rows t re) (hlo : (∀ i, i < nRn s → ra i < c) ∧ (∀ i, i < nCd s → ca i + 3 ≤ c) ∧ ∀ i, i < nBk s → kb i + 11 ≤ c) (h222 : 222 ≤ c) (D9 : D ≤ 999) (hM' : M' = rowI (rowI (rowP (rowP Mr c (fu (mP Mr c) 7 (mP Mr (ra u) 4))) (ra u) (fu (mP Mr (ra u)) 4 (some c))) c (fu (mI Mr c) 0 (iZ D))) 97 (fu (mI Mr 97) 6 (iZ ((nCd s : Int) + 1)))) : CSn M' (addC s u D rows t re) kb ra (fu ca (nCd s) c) := by
  obtain ⟨⟨b1, b2⟩, ⟨t1, t2⟩, ⟨r1, r2⟩, ⟨c1, c2⟩, p1, p2⟩ := hC
  obtain ⟨l1, l2, l3⟩ := hlo
  have lu := l1 u hu
  obtain ⟨_, au, _, _, _, _, _, pu4, inj⟩ := r2 u hu
  have I : ∀ y, y ≠ 97 → y ≠ c → mI M' y = mI Mr y := fun y h1 h2 => by rw [hM', mI_row_ne h1, mI_row_ne h2]; rfl
  have I97 : ∀ j, j ≠ 6 → mI M' 97 j = mI Mr 97 j := fun j hj => by
    rw [hM', mI_row, show (fu (mI Mr 97) 6 (iZ ((nCd s : Int) + 1))) j = mI Mr 97 j from if_neg hj]
  have P : ∀ y, y ≠ c → y ≠ ra u → mP M' y = mP Mr y := fun y h1 h2 => by
    rw [hM']
    show mP (rowP (rowP Mr c _) (ra u) _) y = _
    rw [mP_row_ne h2, mP_row_ne h1]
  have Pu : mP M' (ra u) = fu (mP Mr (ra u)) 4 (some c) := by
    rw [hM']
    show mP (rowP (rowP Mr c _) (ra u) _) (ra u) = _
    rw [mP_row]
  have Pc : mP M' c = fu (mP Mr c) 7 (mP Mr (ra u) 4) := by
    rw [hM']
    show mP (rowP (rowP Mr c _) (ra u) _) c = _
    rw [mP_row_ne (by omega), mP_row]
  have hK : mK M' = mK Mr := by rw [hM']; rfl
  have hN : mN M' = mN Mr := by rw [hM']; rfl
  have hJ : mJ M' = mJ Mr := by rw [hM']; rfl
  have cAb := fun w kk n => cA_b (s := s) (u := w) (k := kk) n
  refine ⟨⟨by rw [I 61 (by omega) (by omega)]; exact b1, fun i hi => ?_⟩, ⟨by rw [I97 0 (by omega)]; exact t1, fun i hi => ?_⟩, ⟨by rw [I97 4 (by omega)]; exact r1, fun i hi => ?_⟩, ⟨by rw [hM', mI_row]; exact if_pos rfl, fun i hi => ?_⟩, by rw [I97 7 (by omega)]; exact p1, fun i hi => ?_⟩
  · have hi : i < nBk s := hi
    obtain ⟨e1, N, sz, e2, e3, e4⟩ := b2 i hi
    have l := l3 i hi
    have k1 := e2.1
    have hr : ∀ y, kb i ≤ y → y < kb i + 11 → mK Mr y ≠ (7, 5) ∨ True := fun _ _ _ => Or.inr trivial
    refine ⟨by rw [P 94 (by omega) (by omega)]; exact e1, N, sz, ?_, BC_fr e3 (fun y h1 h2 => ⟨I y (by omega) (by omega), by rw [hJ]⟩), e4⟩
    -- pointers of the block: the run's object is another cell
    obtain ⟨g1, g2, g3, g4, g5, g6, g7, g8, g9, g10, g11, g12, g13, g14⟩ := e2
    obtain ⟨_, _, ra3⟩ := (r2 u hu).2.2.1
    have nk : kb i ≠ ra u := fun z => by rw [← z, g3] at ra3; exact absurd ra3 (by decide)
    have n7 : kb i + 7 ≠ ra u := fun z => by rw [← z, g10] at ra3; exact absurd ra3 (by decide)
    unfold BK
    rw [hK, hN, P (kb i) (by omega) nk, P (kb i + 7) (by omega) n7]
    exact ⟨g1, g2, g3, g4, g5, g6, g7, g8, g9, g10, g11, g12, g13, g14⟩
  · rw [P 98 (by omega) (by omega), I 99 (by omega) (by omega), I 100 (by omega) (by omega)]; exact t2 i hi
  · have hi : i < nRn s := hi
    obtain ⟨e1, e2, e3, e4, e5, e6, e7, e8, e9⟩ := r2 i hi
    have li := l1 i hi
    have hcA : ∀ w, cA (addC s u D rows t re) w 999 (nCd s) = cA s w 999 (nCd s) := fun w => cA_congr (nCd s) (fun j hj => if_neg (by omega))
    have hcA1 : cA (addC s u D rows t re) i 999 (nCd s + 1) = if u = i ∧ D ≤ 999 then (nCd s : Int) else cA s i 999 (nCd s) := by
      show (if (eCd (addC s u D rows t re) (nCd s)).1 = i ∧ (eCd (addC s u D rows t re) (nCd s)).2.1 ≤ 999 then (nCd s : Int) else cA (addC s u D rows t re) i 999 (nCd s)) = _
      rw [addC_eq, hcA]
    refine ⟨by rw [P 101 (by omega) (by omega)]; exact e1, e2, ⟨e3.1, by rw [hN]; exact e3.2.1, by rw [hK]; exact e3.2.2⟩, ?_, ?_, ?_, ?_, ?_, e9⟩
    · rw [I (ra i) (by omega) (by omega)]; exact e4
    · rw [I (ra i) (by omega) (by omega)]; exact e5
    · rw [I (ra i) (by omega) (by omega)]; exact e6
    · rw [I (ra i) (by omega) (by omega)]; exact e7
    · show mP M' (ra i) 4 = oA (fu ca (nCd s) c) (cA (addC s u D rows t re) i 999 (nCd s + 1))
      rw [hcA1]
      by_cases w : u = i
      · subst w
        rw [Pu, if_pos ⟨rfl, D9⟩, oA_s (by omega), Int.toNat_natCast]
        show (if (4 : Nat) = 4 then _ else _) = some (if nCd s = nCd s then c else _)
        rw [if_pos rfl, if_pos rfl]
      · have : ra i ≠ ra u := fun z => w (inj i hi z.symm)
        rw [P (ra i) (by omega) this, if_neg (fun z => w z.1), oA_fu (cAb i 999 (nCd s)).2 (cAb i 999 (nCd s)).1]
        exact e8
  · have hi : i < nCd s + 1 := hi
    have hcA : ∀ w m, m ≤ nCd s → cA (addC s u D rows t re) w 999 m = cA s w 999 m := fun w m hm => cA_congr m (fun j hj => if_neg (by omega))
    by_cases w : i = nCd s
    · subst w
      have ec : fu ca (nCd s) c (nCd s) = c := if_pos rfl
      have e0 := addC_eq (s := s) (u := u) (D := D) (rows := rows) (t := t) (re := re)
      show CO M' (fu ca (nCd s) c (nCd s)) (uBk (addC s u D rows t re) (eCd (addC s u D rows t re) (nCd s)).1) (uHr (addC s u D rows t re) (eCd (addC s u D rows t re) (nCd s)).1) (uWd (addC s u D rows t re) (eCd (addC s u D rows t re) (nCd s)).1) (eCd (addC s u D rows t re) (nCd s)).2.2.1 (eCd (addC s u D rows t re) (nCd s)).2.2.2.1 (eCd (addC s u D rows t re) (nCd s)).2.2.2.2 ∧ mI M' (fu ca (nCd s) c (nCd s)) 0 = iZ (eCd (addC s u D rows t re) (nCd s)).2.1 ∧ mP M' (fu ca (nCd s) c (nCd s)) 7 = oA (fu ca (nCd s) c) (cA (addC s u D rows t re) (eCd (addC s u D rows t re) (nCd s)).1 999 (nCd s))
      rw [ec, e0, hcA _ _ (Nat.le_refl _)]
      have Ic : ∀ j, j ≠ 0 → mI M' c j = mI Mr c j := fun j hj => by
        rw [hM', mI_row_ne (by omega), mI_row]; exact if_neg hj
      obtain ⟨⟨f1, f2, f3, f4, f5, f6, f7⟩, g1, g2, g3, g4, g5, g6⟩ := hc
      refine ⟨⟨⟨f1, by rw [hN]; exact f2, by rw [hK]; exact f3, by rw [hK]; exact f4, by rw [hK]; exact f5, ?_, ?_⟩, ?_, ?_, ?_, ?_, ?_, ?_⟩, ?_, ?_⟩
      · rw [Pc]; exact (if_neg (by decide)).trans f6
      · rw [Pc]; exact (if_neg (by decide)).trans f7
      · rw [Ic 1 (by decide)]; exact g1
      · rw [Ic 2 (by decide)]; exact g2
      · rw [Ic 3 (by decide)]; exact g3
      · rw [Ic 4 (by decide)]; exact g4
      · rw [I (c + 2) (by omega) (by omega)]; exact g5
      · rw [I (c + 1) (by omega) (by omega)]; exact g6
      · rw [hM', mI_row_ne (by omega), mI_row]; exact if_pos rfl
      · rw [Pc, oA_fu (cAb u 999 (nCd s)).2 (cAb u 999 (nCd s)).1, ← pu4]; exact if_pos rfl
    · have hi2 : i < nCd s := by omega
      have ec : fu ca (nCd s) c i = ca i := if_neg w
      have e0 : eCd (addC s u D rows t re) i = eCd s i := addC_lt hi2
      obtain ⟨⟨e1, e2⟩, e3, e4⟩ := c2 i hi2
      have li := l2 i hi2
      obtain ⟨f1, f2, f3, f4, f5, f6, f7⟩ := e1
      obtain ⟨_, _, ra3⟩ := (r2 u hu).2.2.1
      have n0 : ca i ≠ ra u := fun z => by rw [← z, f3] at ra3; exact absurd ra3 (by decide)
      have cb := cAb (cRn s i) 999 i
      show CO M' (fu ca (nCd s) c i) (uBk (addC s u D rows t re) (eCd (addC s u D rows t re) i).1) (uHr (addC s u D rows t re) (eCd (addC s u D rows t re) i).1) (uWd (addC s u D rows t re) (eCd (addC s u D rows t re) i).1) (eCd (addC s u D rows t re) i).2.2.1 (eCd (addC s u D rows t re) i).2.2.2.1 (eCd (addC s u D rows t re) i).2.2.2.2 ∧ mI M' (fu ca (nCd s) c i) 0 = iZ (eCd (addC s u D rows t re) i).2.1 ∧ mP M' (fu ca (nCd s) c i) 7 = oA (fu ca (nCd s) c) (cA (addC s u D rows t re) (eCd (addC s u D rows t re) i).1 999 i)
      rw [ec, e0, hcA _ _ (by omega), oA_fu (by omega) cb.1]
      refine ⟨⟨⟨f1, by rw [hN]; exact f2, by rw [hK]; exact f3, by rw [hK]; exact f4, by rw [hK]; exact f5, ?_, ?_⟩, ?_⟩, ?_, ?_⟩
      · rw [P _ (by omega) n0]; exact f6
      · rw [P _ (by omega) n0]; exact f7
      · rw [I (ca i) (by omega) (by omega), I (ca i + 1) (by omega) (by omega), I (ca i + 2) (by omega) (by omega)]; exact e2
      · rw [I (ca i) (by omega) (by omega)]; exact e3
      · rw [P _ (by omega) n0]; exact e4
  · rw [I 102 (by omega) (by omega), I 103 (by omega) (by omega), I 104 (by omega) (by omega), I 105 (by omega) (by omega)]; exact p2 i hi
end

/-! LADDERS; the class's side. -/
section
variable {G : GE} {d : Nat} {M M' M'' : Mem} {s : Sn} {kb ra ca : Nat → Nat} {u w i dg : Nat} {a b k x D U W K : Int} {T L : List Int}
/-- what the class keeps of TRIALS, RUNS, CARDS, PROTESTS is as it was -/
def CF (M M' : Mem) : Prop := mK M' = mK M ∧ mN M' = mN M ∧ mP M' = mP M ∧ mJ M' = mJ M ∧ ∀ c, (c = 61 ∨ (97 ≤ c ∧ c ≤ 105) ∨ 222 ≤ c) → mI M' c = mI M c
theorem CF_rfl : CF M M := ⟨rfl, rfl, rfl, rfl, fun _ _ => rfl⟩
theorem CF_tr (h : CF M M') (h' : CF M' M'') : CF M M'' := by
  obtain ⟨a1, a2, a3, a4, a5⟩ := h
  obtain ⟨b1, b2, b3, b4, b5⟩ := h'
  exact ⟨b1.trans a1, b2.trans a2, b3.trans a3, b4.trans a4, fun c h => (b5 c h).trans (a5 c h)⟩
theorem CF_row {c : Nat} {g : Nat → Int32} (h : c ≠ 61 ∧ (c < 97 ∨ 105 < c) ∧ c < 222) : CF M (rowI M c g) := ⟨rfl, rfl, rfl, rfl, fun y hy => mI_row_ne (by omega)⟩
theorem CF_S (h : CF M M') (hS : Static M) : Static M' := by
  obtain ⟨a1, a2, a3, _⟩ := h
  unfold Static at *
  rw [a1, a2, a3]
  exact hS
theorem CK_222 {c : Nat} (h : CK M c) : 222 ≤ c := h.1
theorem CSn_CF (h : CF M M') (hC : CSn M s kb ra ca) : CSn M' s kb ra ca := by
  obtain ⟨a1, a2, a3, a4, a5⟩ := h
  obtain ⟨⟨b1, b2⟩, ⟨t1, t2⟩, ⟨r1, r2⟩, ⟨c1, c2⟩, p1, p2⟩ := hC
  refine ⟨⟨?_, fun i hi => ?_⟩, ⟨?_, fun i hi => ?_⟩, ⟨?_, fun i hi => ?_⟩, ⟨?_, fun i hi => ?_⟩, ?_, fun i hi => ?_⟩
  · rw [a5 61 (by omega)]; exact b1
  · obtain ⟨e1, N, sz, e2, e3, e4⟩ := b2 i hi
    have k1 := e2.1
    refine ⟨by rw [a3]; exact e1, N, sz, BK_fr e2 (by rw [a2]; exact e2.2.1) (fun y _ _ => ⟨by rw [a1], by rw [a3]⟩), BC_fr e3 (fun y h1 h2 => ⟨a5 y (by omega), by rw [a4]⟩), e4⟩
  · rw [a5 97 (by omega)]; exact t1
  · rw [a3, a5 99 (by omega), a5 100 (by omega)]; exact t2 i hi
  · rw [a5 97 (by omega)]; exact r1
  · have e := r2 i hi
    have k1 := e.2.1
    unfold oB at *
    rw [a1, a2, a3, a5 (ra i) (by omega)]
    exact e
  · rw [a5 97 (by omega)]; exact c1
  · have e := c2 i hi
    have k1 := CK_222 e.1.1
    unfold CO CK at *
    rw [a1, a2, a3, a5 (ca i) (by omega), a5 (ca i + 1) (by omega), a5 (ca i + 2) (by omega)]
    exact e
  · rw [a5 97 (by omega)]; exact p1
  · rw [a5 102 (by omega), a5 103 (by omega), a5 104 (by omega), a5 105 (by omega)]; exact p2 i hi
/-- how many are counted -/
def bstS (s : Sn) : Int := if nBk s = 0 then 5 else bB (eBk s (nBk s - 1))
theorem bst_b (hO : Sok s) : 1 ≤ bstS s ∧ bstS s ≤ 20 := by
  unfold bstS
  by_cases h : nBk s = 0
  · rw [if_pos h]; decide
  · rw [if_neg h]
    exact (hO.1.2 (nBk s - 1) (by omega)).2.2.2.2.2.1
theorem c200 (hst : (gl G).stackTraces = false) (hS : Static M) (hO : Sok s) (hC : CSn M s kb ra ca) : Ev G (d + 1) 200 [aR (some 61)] M 0 (vI (iZ (bstS s)) M) nX := by
  have n6 := hO.1.1
  obtain ⟨b1, b2⟩ := hC.1
  have key : ∀ Q : QR, Q (some (aI (iZ (bstS s)))) M → Ev G (d + 1) 200 [aR (some 61)] M 0 Q nX := by
    intro Q hQ
    unfold bstS at hQ
    by_cases h : nBk s = 0
    · rw [if_pos h] at hQ
      have h' : (nBk s : Int) = 0 := by omega
      refine Ev_wp 2000 hst (by decide) (Nat.le_of_ble_eq_true rfl) ?_; simp (disch := omega) only [en200, wcQ, wcX, wcG, wcL, wcS, w200_0, w200_1, w200_4, w200_7, w200_8, w200_11, w200_12, w200_15, w200_16, w200_19, w200_20, w200_21, w200_22, w200_25, toI, toJ, toI64, inb_T, inb_iZ, Int.toNat_natCast, cl_0, cl_1, cl_2, cl_3, cl_4, cl_5, cl_6, cl_7, cl_8, cl_9, cl_10, cl_11, cl_12, cl_13, cl_14, cl_15, cl_16, cl_17, cl_18, cl_19, cl_20, cl_21, cl_22, cl_23, cl_24, cl_25, cl_26, cl_27, cl_28, cl_29, cl_30, cl_31, cl_32, cl_36, cl_40, cl_48, cl_60, cl_108, cl_120, cl_200, cl_201, cl_576, cl_600, cl_864, cl_900, cl_960, cl_5400, cl_8040, j2_0, iN_iZ, iN_lit0, iZ_add, iZ_sub, iZ_mul, iZ_neg, jZ_add, jZ_sub, jZ_mul, jZ_neg, isB0, isB1, isBZ, eq0, eq1, bZ0, vI_, vJ_, vA_, rI_, rJ_, rA_, rV_, nX_, tX_, true_and, and_true, false_and, and_false, and_self, implies_true, forall_const, not_true_eq_false, not_false_eq_true, false_implies, true_implies, ↓reduceIte, Nat.reduceEqDiff, Int.reduceToNat, Int.reduceAdd, Int.reduceSub, Int.reduceLT, Int.reduceLE, Int.reduceEq, Int.add_zero, Int.neg_zero, Int.add_sub_cancel, Int.reduceNeg, Nat.reduceLeDiff, Nat.reduceSub, true_or, or_true, false_or, or_false, setI_d, setJ_d, setP_d, mI_row, mJ_row, mP_row, mI_row_ne, mJ_row_ne, mP_row_ne, rowI_rowI, rowJ_rowJ, rowI_sort, rowJ_sort, rowJ_rowI, rowP_rowI, rowP_rowJ, fu_app, fu_fu, mI_rowJ, mI_rowP, mJ_rowI, mJ_rowP, mP_rowI, mP_rowJ, mK_rowI, mN_rowI, mK_rowJ, mN_rowJ, mK_rowP, mN_rowP, oB_rowI, oB_rowJ, iA_rowI, iA_rowJ, iR_rowI, iR_rowJ, St_rowI, St_rowJ, K61 hS, O61 hS, P61_3 hS, P61_4 hS, P61_5 hS, P61_7 hS, P61_8 hS, P61_9 hS, P61_10 hS, P61_11 hS, b1, h']
      exact hQ
    · rw [if_neg h] at hQ
      have h' : ¬ (nBk s : Int) = 0 := by omega
      obtain ⟨e1, N, sz, e2, e3, e4⟩ := b2 (nBk s - 1) (by omega)
      have e7 := e3.2.2.2.2.1.1
      have hix : ((nBk s : Int) - 1).toNat = nBk s - 1 := by omega
      refine Ev_wp 2000 hst (by decide) (Nat.le_of_ble_eq_true rfl) ?_; simp (disch := omega) only [en200, wcQ, wcX, wcG, wcL, wcS, w200_0, w200_1, w200_4, w200_7, w200_8, w200_11, w200_12, w200_15, w200_16, w200_19, w200_20, w200_21, w200_22, w200_25, toI, toJ, toI64, inb_T, inb_iZ, Int.toNat_natCast, cl_0, cl_1, cl_2, cl_3, cl_4, cl_5, cl_6, cl_7, cl_8, cl_9, cl_10, cl_11, cl_12, cl_13, cl_14, cl_15, cl_16, cl_17, cl_18, cl_19, cl_20, cl_21, cl_22, cl_23, cl_24, cl_25, cl_26, cl_27, cl_28, cl_29, cl_30, cl_31, cl_32, cl_36, cl_40, cl_48, cl_60, cl_108, cl_120, cl_200, cl_201, cl_576, cl_600, cl_864, cl_900, cl_960, cl_5400, cl_8040, j2_0, iN_iZ, iN_lit0, iZ_add, iZ_sub, iZ_mul, iZ_neg, jZ_add, jZ_sub, jZ_mul, jZ_neg, isB0, isB1, isBZ, eq0, eq1, bZ0, vI_, vJ_, vA_, rI_, rJ_, rA_, rV_, nX_, tX_, true_and, and_true, false_and, and_false, and_self, implies_true, forall_const, not_true_eq_false, not_false_eq_true, false_implies, true_implies, ↓reduceIte, Nat.reduceEqDiff, Int.reduceToNat, Int.reduceAdd, Int.reduceSub, Int.reduceLT, Int.reduceLE, Int.reduceEq, Int.add_zero, Int.neg_zero, Int.add_sub_cancel, Int.reduceNeg, Nat.reduceLeDiff, Nat.reduceSub, true_or, or_true, false_or, or_false, setI_d, setJ_d, setP_d, mI_row, mJ_row, mP_row, mI_row_ne, mJ_row_ne, mP_row_ne, rowI_rowI, rowJ_rowJ, rowI_sort, rowJ_sort, rowJ_rowI, rowP_rowI, rowP_rowJ, fu_app, fu_fu, mI_rowJ, mI_rowP, mJ_rowI, mJ_rowP, mP_rowI, mP_rowJ, mK_rowI, mN_rowI, mK_rowJ, mN_rowJ, mK_rowP, mN_rowP, oB_rowI, oB_rowJ, iA_rowI, iA_rowJ, iR_rowI, iR_rowJ, St_rowI, St_rowJ, K61 hS, O61 hS, P61_3 hS, P61_4 hS, P61_5 hS, P61_7 hS, P61_8 hS, P61_9 hS, P61_10 hS, P61_11 hS, K94 hS, O94 hS, A94 hS, R94 hS, b1, h', hix, e1, bk_o e2, e7]
      exact hQ
  exact key _ ⟨_, rfl, rfl, rfl⟩
/-- the row of the greatest so far -/
def RL (M : Mem) (T : List Int) : Prop := mI M 106 3 = iZ T.length ∧ LSt (mI M 109) T
theorem c201 (hst : (gl G).stackTraces = false) (hS : Static M) {K : Nat} (hT : RL M (L.take K)) (hL : dsc L) (K1 : 1 ≤ K) (K2 : K ≤ 20) (x1 : -1000000 ≤ x) (x2 : x ≤ 1000000) (hLb : ∀ y, y ∈ L → -1000000 ≤ y ∧ y ≤ 1000000) : Ev G (d + 1) 201 [aR (some 106), aI (iZ x), aI (iZ K)] M 0 (rV fun M' => RL M' ((ins x L).take K) ∧ ∃ v f, M' = rowI (rowI M 106 (fu (mI M 106) 3 v)) 109 f) nX := by
  obtain ⟨t1, t2⟩ := hT
  have tl := List.length_take (i := K) (l := L)
  have dT : ∀ m, dsc (L.take m) := fun m => by
    have : ∀ (l : List Int) m, dsc l → dsc (l.take m) := by
      intro l
      induction l with
      | nil => intro m _; rw [List.take_nil]; trivial
      | cons y l ih =>
        intro m h
        cases m with
        | zero => trivial
        | succ m => exact ⟨fun z hz => h.1 z (List.mem_of_mem_take hz), ih m h.2⟩
    exact this L m hL
  -- put in place, from number i on
  have J : ∀ (i : Nat) (T0 : List Int) (v : Int32) (f : Nat → Int32), SH f T0 i x → dsc T0 → (∀ y, y ∈ T0 → -1000000 ≤ y ∧ y ≤ 1000000) → T0.length < 20 → v = iZ ((ins x T0).length : Nat) → ins x T0 = (ins x L).take K → Go G d 201 (rV fun M' => RL M' ((ins x L).take K) ∧ ∃ v f, M' = rowI (rowI M 106 (fu (mI M 106) 3 v)) 109 f) nX 53 [aR (some 106), aI (iZ x), aI (iZ K), aI (iZ i)] [] (rowI (rowI M 106 (fu (mI M 106) 3 v)) 109 f) 0 := by
    intro i
    induction i with
    | zero =>
      intro T0 v f hH hd hb hl hv he
      have e := SH_e hH hd (fun y h => absurd h (by omega))
      rw [he] at e hv
      refine wp1_go (n := 2000) ?_
      simp (disch := omega) only [wcQ, wcX, wcG, wcL, wcS, h201_53, w201_53, w201_54, w201_89, w201_90, w201_93, w201_94, w201_95, w201_96, toI, toJ, toI64, inb_T, inb_iZ, Int.toNat_natCast, cl_0, cl_1, cl_2, cl_3, cl_4, cl_5, cl_6, cl_7, cl_8, cl_9, cl_10, cl_11, cl_12, cl_13, cl_14, cl_15, cl_16, cl_17, cl_18, cl_19, cl_20, cl_21, cl_22, cl_23, cl_24, cl_25, cl_26, cl_27, cl_28, cl_29, cl_30, cl_31, cl_32, cl_36, cl_40, cl_48, cl_60, cl_108, cl_120, cl_200, cl_201, cl_576, cl_600, cl_864, cl_900, cl_960, cl_5400, cl_8040, j2_0, iN_iZ, iN_lit0, iZ_add, iZ_sub, iZ_mul, iZ_neg, jZ_add, jZ_sub, jZ_mul, jZ_neg, isB0, isB1, isBZ, eq0, eq1, bZ0, vI_, vJ_, vA_, rI_, rJ_, rA_, rV_, nX_, tX_, true_and, and_true, false_and, and_false, and_self, implies_true, forall_const, not_true_eq_false, not_false_eq_true, false_implies, true_implies, ↓reduceIte, Nat.reduceEqDiff, Int.reduceToNat, Int.reduceAdd, Int.reduceSub, Int.reduceLT, Int.reduceLE, Int.reduceEq, Int.add_zero, Int.neg_zero, Int.add_sub_cancel, Int.reduceNeg, Nat.reduceLeDiff, Nat.reduceSub, true_or, or_true, false_or, or_false, setI_d, setJ_d, setP_d, mI_row, mJ_row, mP_row, mI_row_ne, mJ_row_ne, mP_row_ne, rowI_rowI, rowJ_rowJ, rowI_sort, rowJ_sort, rowJ_rowI, rowP_rowI, rowP_rowJ, fu_app, fu_fu, mI_rowJ, mI_rowP, mJ_rowI, mJ_rowP, mP_rowI, mP_rowJ, mK_rowI, mN_rowI, mK_rowJ, mN_rowJ, mK_rowP, mN_rowP, oB_rowI, oB_rowJ, iA_rowI, iA_rowJ, iR_rowI, iR_rowJ, St_rowI, St_rowJ, K106 hS, O106 hS, P106_0 hS, P106_1 hS, P106_2 hS, K109 hS, O109 hS, A109 hS]
      refine ⟨⟨?_, ?_⟩, _, _, rfl⟩
      · rw [mI_row_ne (by decide), mI_row]; exact (if_pos rfl).trans hv
      · rw [mI_row]; exact e
    | succ i ih =>
      intro T0 v f hH hd hb hl hv he
      have hpos : (0 : Int) < ((i + 1 : Nat) : Int) := by omega
      obtain ⟨y, hy⟩ := ls_get (l := T0) (i := i) (by have := hH.1; omega)
      have fy := hH.2.1 i y (by omega) hy
      have by' := hb y (List.mem_of_getElem? hy)
      have i19 := hH.1
      have hix : (((i + 1 : Nat) : Int) - 1).toNat = i := by omega
      by_cases h : y < x
      · have e := SH_s hH hy h
        rw [fy] at e
        refine wp1_go (n := 2000) ?_
        simp (disch := omega) only [wcQ, wcX, wcG, wcL, wcS, h201_53, w201_53, h201_53, w201_53, w201_54, w201_57, w201_58, w201_61, w201_62, w201_63, w201_64, w201_65, w201_66, w201_69, w201_70, w201_73, w201_74, w201_75, w201_78, w201_79, w201_80, w201_81, w201_82, w201_83, w201_86, toI, toJ, toI64, inb_T, inb_iZ, Int.toNat_natCast, cl_0, cl_1, cl_2, cl_3, cl_4, cl_5, cl_6, cl_7, cl_8, cl_9, cl_10, cl_11, cl_12, cl_13, cl_14, cl_15, cl_16, cl_17, cl_18, cl_19, cl_20, cl_21, cl_22, cl_23, cl_24, cl_25, cl_26, cl_27, cl_28, cl_29, cl_30, cl_31, cl_32, cl_36, cl_40, cl_48, cl_60, cl_108, cl_120, cl_200, cl_201, cl_576, cl_600, cl_864, cl_900, cl_960, cl_5400, cl_8040, j2_0, iN_iZ, iN_lit0, iZ_add, iZ_sub, iZ_mul, iZ_neg, jZ_add, jZ_sub, jZ_mul, jZ_neg, isB0, isB1, isBZ, eq0, eq1, bZ0, vI_, vJ_, vA_, rI_, rJ_, rA_, rV_, nX_, tX_, true_and, and_true, false_and, and_false, and_self, implies_true, forall_const, not_true_eq_false, not_false_eq_true, false_implies, true_implies, ↓reduceIte, Nat.reduceEqDiff, Int.reduceToNat, Int.reduceAdd, Int.reduceSub, Int.reduceLT, Int.reduceLE, Int.reduceEq, Int.add_zero, Int.neg_zero, Int.add_sub_cancel, Int.reduceNeg, Nat.reduceLeDiff, Nat.reduceSub, true_or, or_true, false_or, or_false, setI_d, setJ_d, setP_d, mI_row, mJ_row, mP_row, mI_row_ne, mJ_row_ne, mP_row_ne, rowI_rowI, rowJ_rowJ, rowI_sort, rowJ_sort, rowJ_rowI, rowP_rowI, rowP_rowJ, fu_app, fu_fu, mI_rowJ, mI_rowP, mJ_rowI, mJ_rowP, mP_rowI, mP_rowJ, mK_rowI, mN_rowI, mK_rowJ, mN_rowJ, mK_rowP, mN_rowP, oB_rowI, oB_rowJ, iA_rowI, iA_rowJ, iR_rowI, iR_rowJ, St_rowI, St_rowJ, K106 hS, O106 hS, P106_0 hS, P106_1 hS, P106_2 hS, K109 hS, O109 hS, A109 hS, hpos, hix, fy, h]
        have hz : ((i + 1 : Nat) : Int) + -1 = (i : Int) := by omega
        rw [hz]
        exact ih T0 v _ e hd hb hl hv he
      · have e := SH_e hH hd (fun z _ hz => by
          rw [Nat.add_sub_cancel] at hz
          rw [hy] at hz
          cases hz; omega)
        rw [he] at e hv
        refine wp1_go (n := 2000) ?_
        simp (disch := omega) only [wcQ, wcX, wcG, wcL, wcS, h201_53, w201_53, w201_54, w201_57, w201_58, w201_61, w201_62, w201_63, w201_64, w201_65, w201_66, w201_89, w201_90, w201_93, w201_94, w201_95, w201_96, toI, toJ, toI64, inb_T, inb_iZ, Int.toNat_natCast, cl_0, cl_1, cl_2, cl_3, cl_4, cl_5, cl_6, cl_7, cl_8, cl_9, cl_10, cl_11, cl_12, cl_13, cl_14, cl_15, cl_16, cl_17, cl_18, cl_19, cl_20, cl_21, cl_22, cl_23, cl_24, cl_25, cl_26, cl_27, cl_28, cl_29, cl_30, cl_31, cl_32, cl_36, cl_40, cl_48, cl_60, cl_108, cl_120, cl_200, cl_201, cl_576, cl_600, cl_864, cl_900, cl_960, cl_5400, cl_8040, j2_0, iN_iZ, iN_lit0, iZ_add, iZ_sub, iZ_mul, iZ_neg, jZ_add, jZ_sub, jZ_mul, jZ_neg, isB0, isB1, isBZ, eq0, eq1, bZ0, vI_, vJ_, vA_, rI_, rJ_, rA_, rV_, nX_, tX_, true_and, and_true, false_and, and_false, and_self, implies_true, forall_const, not_true_eq_false, not_false_eq_true, false_implies, true_implies, ↓reduceIte, Nat.reduceEqDiff, Int.reduceToNat, Int.reduceAdd, Int.reduceSub, Int.reduceLT, Int.reduceLE, Int.reduceEq, Int.add_zero, Int.neg_zero, Int.add_sub_cancel, Int.reduceNeg, Nat.reduceLeDiff, Nat.reduceSub, true_or, or_true, false_or, or_false, setI_d, setJ_d, setP_d, mI_row, mJ_row, mP_row, mI_row_ne, mJ_row_ne, mP_row_ne, rowI_rowI, rowJ_rowJ, rowI_sort, rowJ_sort, rowJ_rowI, rowP_rowI, rowP_rowJ, fu_app, fu_fu, mI_rowJ, mI_rowP, mJ_rowI, mJ_rowP, mP_rowI, mP_rowJ, mK_rowI, mN_rowI, mK_rowJ, mN_rowJ, mK_rowP, mN_rowP, oB_rowI, oB_rowJ, iA_rowI, iA_rowJ, iR_rowI, iR_rowJ, St_rowI, St_rowJ, K106 hS, O106 hS, P106_0 hS, P106_1 hS, P106_2 hS, K109 hS, O109 hS, A109 hS, hpos, hix, fy, h]
        refine ⟨⟨?_, ?_⟩, _, _, rfl⟩
        · rw [mI_row_ne (by decide), mI_row]; exact (if_pos rfl).trans hv
        · rw [mI_row]; exact e
  by_cases hk : L.length < K
  · have eT : L.take K = L := List.take_of_length_le (by omega)
    rw [eT] at t1 t2 tl
    have eI : ins x L = (ins x L).take K := (List.take_of_length_le (by rw [ins_len]; omega)).symm
    have hk' : ((L.length : Nat) : Int) < K := by omega
    have h20 : ((L.length : Nat) : Int) < 20 := by omega
    refine Ev_wp 2000 hst (by decide) (Nat.le_of_ble_eq_true rfl) ?_; simp (disch := omega) only [en201, wcQ, wcX, wcG, wcL, wcS, w201_0, w201_1, w201_4, w201_5, w201_6, w201_9, w201_10, w201_13, w201_14, w201_17, w201_19, w201_22, w201_23, w201_24, w201_27, w201_28, w201_29, w201_32, w201_35, w201_38, w201_39, w201_42, w201_43, w201_46, w201_47, w201_48, w201_49, w201_52, h201_53, w201_53, toI, toJ, toI64, inb_T, inb_iZ, Int.toNat_natCast, cl_0, cl_1, cl_2, cl_3, cl_4, cl_5, cl_6, cl_7, cl_8, cl_9, cl_10, cl_11, cl_12, cl_13, cl_14, cl_15, cl_16, cl_17, cl_18, cl_19, cl_20, cl_21, cl_22, cl_23, cl_24, cl_25, cl_26, cl_27, cl_28, cl_29, cl_30, cl_31, cl_32, cl_36, cl_40, cl_48, cl_60, cl_108, cl_120, cl_200, cl_201, cl_576, cl_600, cl_864, cl_900, cl_960, cl_5400, cl_8040, j2_0, iN_iZ, iN_lit0, iZ_add, iZ_sub, iZ_mul, iZ_neg, jZ_add, jZ_sub, jZ_mul, jZ_neg, isB0, isB1, isBZ, eq0, eq1, bZ0, vI_, vJ_, vA_, rI_, rJ_, rA_, rV_, nX_, tX_, true_and, and_true, false_and, and_false, and_self, implies_true, forall_const, not_true_eq_false, not_false_eq_true, false_implies, true_implies, ↓reduceIte, Nat.reduceEqDiff, Int.reduceToNat, Int.reduceAdd, Int.reduceSub, Int.reduceLT, Int.reduceLE, Int.reduceEq, Int.add_zero, Int.neg_zero, Int.add_sub_cancel, Int.reduceNeg, Nat.reduceLeDiff, Nat.reduceSub, true_or, or_true, false_or, or_false, setI_d, setJ_d, setP_d, mI_row, mJ_row, mP_row, mI_row_ne, mJ_row_ne, mP_row_ne, rowI_rowI, rowJ_rowJ, rowI_sort, rowJ_sort, rowJ_rowI, rowP_rowI, rowP_rowJ, fu_app, fu_fu, mI_rowJ, mI_rowP, mJ_rowI, mJ_rowP, mP_rowI, mP_rowJ, mK_rowI, mN_rowI, mK_rowJ, mN_rowJ, mK_rowP, mN_rowP, oB_rowI, oB_rowJ, iA_rowI, iA_rowJ, iR_rowI, iR_rowJ, St_rowI, St_rowJ, K106 hS, O106 hS, P106_0 hS, P106_1 hS, P106_2 hS, t1, hk', h20]
    have := J L.length L (iZ ((L.length : Int) + 1)) (mI M 109) (SH_0 t2) hL hLb (by omega) (by rw [ins_len]; rfl) eI
    rw [← mI_row_ne (M := M) (a := 106) (c := 109) (g := fu (mI M 106) 3 (iZ ((L.length : Int) + 1))) (by decide), rowI_mI] at this
    exact this
  · have eK : (L.take K).length = K := by rw [List.length_take]; omega
    rw [eK] at t1
    obtain ⟨m, rfl⟩ : ∃ m, K = m + 1 := ⟨K - 1, by omega⟩
    obtain ⟨y, hy⟩ := ls_get (l := L) (i := m) (by omega)
    have hyT : (L.take (m + 1))[m]? = some y := by rw [List.getElem?_take_of_lt (by omega)]; exact hy
    have fy := t2 m y hyT
    have by' := hLb y (List.mem_of_getElem? hy)
    have hk1 : ¬ ((m + 1 : Nat) : Int) < ((m + 1 : Nat) : Int) := by omega
    have hix : (((m + 1 : Nat) : Int) + -1).toNat = m := by omega
    have hn0 : ¬ ((m + 1 : Nat) : Int) + -1 < 0 := by omega
    by_cases h : y < x
    · have ed := ins_drop L m (fun z hz => by rw [hy] at hz; cases hz; exact h) (by omega) hL
      have eLm : (L.take m).length = m := by rw [List.length_take]; omega
      have hs : LSt (mI M 109) (L.take m) := fun j z hz => by
        have hj : j < m := by
          by_cases q : j < m
          · exact q
          · rw [List.getElem?_eq_none (by omega)] at hz; cases hz
        refine t2 j z ?_
        rw [List.getElem?_take_of_lt hj] at hz
        rw [List.getElem?_take_of_lt (by omega)]; exact hz
      have hv : ((ins x (L.take m)).length : Nat) = m + 1 := by rw [ins_len, eLm]
      have := J m (L.take m) (iZ ((m + 1 : Nat) : Int)) (mI M 109) (by have := SH_0 (x := x) hs; rw [eLm] at this; exact this) (dT m) (fun z hz => hLb z (List.mem_of_mem_take hz)) (by omega) (by rw [hv]) ed.symm
      rw [← mI_row_ne (M := M) (a := 106) (c := 109) (g := fu (mI M 106) 3 (iZ ((m + 1 : Nat) : Int))) (by decide), rowI_mI] at this
      rw [show fu (mI M 106) 3 (iZ ((m + 1 : Nat) : Int)) = mI M 106 from by
        funext j
        show (if j = 3 then _ else _) = _
        by_cases q : j = 3
        · subst q; rw [if_pos rfl]; exact t1.symm
        · rw [if_neg q], rowI_mI] at this
      refine Ev_wp 2000 hst (by decide) (Nat.le_of_ble_eq_true rfl) ?_; simp (disch := omega) only [en201, wcQ, wcX, wcG, wcL, wcS, w201_0, w201_1, w201_4, w201_5, w201_6, w201_9, w201_10, w201_35, w201_38, w201_39, w201_42, w201_43, w201_46, w201_47, w201_48, w201_49, w201_52, h201_53, w201_53, toI, toJ, toI64, inb_T, inb_iZ, Int.toNat_natCast, cl_0, cl_1, cl_2, cl_3, cl_4, cl_5, cl_6, cl_7, cl_8, cl_9, cl_10, cl_11, cl_12, cl_13, cl_14, cl_15, cl_16, cl_17, cl_18, cl_19, cl_20, cl_21, cl_22, cl_23, cl_24, cl_25, cl_26, cl_27, cl_28, cl_29, cl_30, cl_31, cl_32, cl_36, cl_40, cl_48, cl_60, cl_108, cl_120, cl_200, cl_201, cl_576, cl_600, cl_864, cl_900, cl_960, cl_5400, cl_8040, j2_0, iN_iZ, iN_lit0, iZ_add, iZ_sub, iZ_mul, iZ_neg, jZ_add, jZ_sub, jZ_mul, jZ_neg, isB0, isB1, isBZ, eq0, eq1, bZ0, vI_, vJ_, vA_, rI_, rJ_, rA_, rV_, nX_, tX_, true_and, and_true, false_and, and_false, and_self, implies_true, forall_const, not_true_eq_false, not_false_eq_true, false_implies, true_implies, ↓reduceIte, Nat.reduceEqDiff, Int.reduceToNat, Int.reduceAdd, Int.reduceSub, Int.reduceLT, Int.reduceLE, Int.reduceEq, Int.add_zero, Int.neg_zero, Int.add_sub_cancel, Int.reduceNeg, Nat.reduceLeDiff, Nat.reduceSub, true_or, or_true, false_or, or_false, setI_d, setJ_d, setP_d, mI_row, mJ_row, mP_row, mI_row_ne, mJ_row_ne, mP_row_ne, rowI_rowI, rowJ_rowJ, rowI_sort, rowJ_sort, rowJ_rowI, rowP_rowI, rowP_rowJ, fu_app, fu_fu, mI_rowJ, mI_rowP, mJ_rowI, mJ_rowP, mP_rowI, mP_rowJ, mK_rowI, mN_rowI, mK_rowJ, mN_rowJ, mK_rowP, mN_rowP, oB_rowI, oB_rowJ, iA_rowI, iA_rowJ, iR_rowI, iR_rowJ, St_rowI, St_rowJ, K106 hS, O106 hS, P106_0 hS, P106_1 hS, P106_2 hS, K109 hS, O109 hS, A109 hS, t1, hk1, hn0, hix, fy, h]
      have hz : ((m + 1 : Nat) : Int) + -1 = (m : Int) := by omega
      rw [hz]
      exact this
    · have ek := ins_keep (x := x) L (m + 1) (by omega) (fun z hz => by
        obtain ⟨j, hj, hz⟩ := List.mem_iff_getElem.mp hz
        have hj2 : j < m + 1 := by omega
        have : L[j]? = some z := by
          rw [← hz, List.getElem_take, List.getElem?_eq_getElem]
        have := dsc_at L j m z y hL (by omega) this hy
        omega)
      rw [ek]
      refine Ev_wp 2000 hst (by decide) (Nat.le_of_ble_eq_true rfl) ?_; simp (disch := omega) only [en201, wcQ, wcX, wcG, wcL, wcS, w201_0, w201_1, w201_4, w201_5, w201_6, w201_9, w201_10, w201_35, w201_38, w201_39, w201_42, w201_43, w201_46, w201_47, w201_48, w201_49, w201_52, toI, toJ, toI64, inb_T, inb_iZ, Int.toNat_natCast, cl_0, cl_1, cl_2, cl_3, cl_4, cl_5, cl_6, cl_7, cl_8, cl_9, cl_10, cl_11, cl_12, cl_13, cl_14, cl_15, cl_16, cl_17, cl_18, cl_19, cl_20, cl_21, cl_22, cl_23, cl_24, cl_25, cl_26, cl_27, cl_28, cl_29, cl_30, cl_31, cl_32, cl_36, cl_40, cl_48, cl_60, cl_108, cl_120, cl_200, cl_201, cl_576, cl_600, cl_864, cl_900, cl_960, cl_5400, cl_8040, j2_0, iN_iZ, iN_lit0, iZ_add, iZ_sub, iZ_mul, iZ_neg, jZ_add, jZ_sub, jZ_mul, jZ_neg, isB0, isB1, isBZ, eq0, eq1, bZ0, vI_, vJ_, vA_, rI_, rJ_, rA_, rV_, nX_, tX_, true_and, and_true, false_and, and_false, and_self, implies_true, forall_const, not_true_eq_false, not_false_eq_true, false_implies, true_implies, ↓reduceIte, Nat.reduceEqDiff, Int.reduceToNat, Int.reduceAdd, Int.reduceSub, Int.reduceLT, Int.reduceLE, Int.reduceEq, Int.add_zero, Int.neg_zero, Int.add_sub_cancel, Int.reduceNeg, Nat.reduceLeDiff, Nat.reduceSub, true_or, or_true, false_or, or_false, setI_d, setJ_d, setP_d, mI_row, mJ_row, mP_row, mI_row_ne, mJ_row_ne, mP_row_ne, rowI_rowI, rowJ_rowJ, rowI_sort, rowJ_sort, rowJ_rowI, rowP_rowI, rowP_rowJ, fu_app, fu_fu, mI_rowJ, mI_rowP, mJ_rowI, mJ_rowP, mP_rowI, mP_rowJ, mK_rowI, mN_rowI, mK_rowJ, mN_rowJ, mK_rowP, mN_rowP, oB_rowI, oB_rowJ, iA_rowI, iA_rowJ, iR_rowI, iR_rowJ, St_rowI, St_rowJ, K106 hS, O106 hS, P106_0 hS, P106_1 hS, P106_2 hS, K109 hS, O109 hS, A109 hS, t1, hk1, hn0, hix, fy, h]
      refine ⟨⟨?_, t2⟩, mI M 106 3, mI M 109, ?_⟩
      · rw [eK]; exact t1
      · rw [show fu (mI M 106) 3 (mI M 106 3) = mI M 106 from by
          funext j
          show (if j = 3 then _ else _) = _
          by_cases q : j = 3
          · subst q; rw [if_pos rfl]
          · rw [if_neg q], rowI_mI, rowI_mI]
end

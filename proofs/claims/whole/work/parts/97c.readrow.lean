/-! CARDS: a row; the class's side. -/
section
variable {G : GE} {d : Nat} {M M' M'' : Mem} {B : Nat → Nat} {n b k s N a c w cnt p : Nat} {q : Bk} {hr wd x lf tot : Int} {tm : Nat → Nat}
/-- behind a row: its points, what they sum to, what each fault took off -/
def RW (M M' : Mem) (k c : Nat) (hr wd : Int) (p cnt : Nat) (tot : Int) (A : Int × List Int) : Prop :=
  Fc M M' k c ∧ VS M' k hr wd ∧ mI M' (c + 2) = fu (mI M (c + 2)) p (iZ A.1) ∧ mI M' c 2 = iZ (tot + A.1) ∧ mI M' c 4 = iZ ((cnt + A.2.length : Nat) : Int) ∧ (∀ j, j < cnt → mI M' (c + 1) j = mI M (c + 1) j) ∧ (∀ j y, A.2[j]? = some y → mI M' (c + 1) (cnt + j) = iZ y) ∧ ∀ j, j ≠ 2 → j ≠ 4 → mI M' c j = mI M c j
def QRw (M : Mem) (B : Nat → Nat) (n k c : Nat) (q : Bk) (hr wd : Int) (p cnt : Nat) (tot : Int) (r : KR (List (Nat × Int))) (v : Int32) (M' : Mem) : Prop := match r with
  | .inl (e, f) => v = iZ 0 ∧ Fc M M' k c ∧ mI M' 91 2 = iZ e ∧ mI M' 91 3 = iZ f
  | .inr (b', l) => v = iZ 1 ∧ cnt + l.length ≤ 40 ∧ TC M' B n b' ∧ RW M M' k c hr wd p cnt tot (acF q hr wd (vP q p) (fun _ => 0) l)
theorem QRw_i {r : KR (List (Nat × Int))} {e f : Nat} {v : Int32} (h : r = .inl (e, f)) : QRw M B n k c q hr wd p cnt tot r v M' = (v = iZ 0 ∧ Fc M M' k c ∧ mI M' 91 2 = iZ e ∧ mI M' 91 3 = iZ f) := by rw [h]; rfl
theorem QRw_r {r : KR (List (Nat × Int))} {e : Nat} {l : List (Nat × Int)} {v : Int32} (h : r = .inr (e, l)) : QRw M B n k c q hr wd p cnt tot r v M' = (v = iZ 1 ∧ cnt + l.length ≤ 40 ∧ TC M' B n e ∧ RW M M' k c hr wd p cnt tot (acF q hr wd (vP q p) (fun _ => 0) l)) := by rw [h]; rfl
/-- so far: these faults are worked out -/
def RSo (M M' : Mem) (k c : Nat) (q : Bk) (hr wd : Int) (p cnt : Nat) (l : List (Nat × Int)) : Prop :=
  Fc M M' k c ∧ CP M' k c hr wd (acF q hr wd (vP q p) (fun _ => 0) l).1 (tmA (fun _ => 0) l) (cnt + l.length) ∧ mI M' (c + 2) = mI M (c + 2) ∧ (∀ j, j ≠ 4 → mI M' c j = mI M c j) ∧ (∀ j, j < cnt → mI M' (c + 1) j = mI M (c + 1) j) ∧ ∀ j y, (acF q hr wd (vP q p) (fun _ => 0) l).2[j]? = some y → mI M' (c + 1) (cnt + j) = iZ y
theorem RSo_TK {l : List (Nat × Int)} (h : RSo M M' k c q hr wd p cnt l) (h' : TK M' M'' k c q hr wd w x (acF q hr wd (vP q p) (fun _ => 0) l).1 (tmA (fun _ => 0) l) (cnt + l.length)) : RSo M M'' k c q hr wd p cnt (l ++ [(w, x)]) := by
  obtain ⟨a1, a2, a3, a4, a5, a6⟩ := h
  obtain ⟨b1, b2, b3, b4, b5⟩ := h'
  unfold RSo
  rw [acF_app, tmA_app, List.length_append]
  refine ⟨Fc_tr a1 b1, b2, b4.trans a3, fun j hj => (b5 j hj).trans (a4 j hj), fun j hj => ?_, fun j y hy => ?_⟩
  · rw [b3]; unfold fu; rw [if_neg (by omega)]; exact a5 j hj
  · rw [b3]; unfold fu
    have hl := acF_len (q := q) (hr := hr) (wd := wd) l (vP q p) (fun _ => 0)
    rcases app_get hy with ⟨z, hy⟩ | ⟨z, hy⟩
    · rw [hl] at z
      rw [if_neg (by omega)]; exact a6 j y hy
    · rw [hl] at z
      rw [if_pos (by omega), hy]
theorem c178 (hst : (gl G).stackTraces = false) (hS : Static M) (hE : CE M k N s a c q hr wd) (hT : TC M B n b) (hp : p < (bP q).length) (hV : VS M k hr wd) (h2 : mI M c 2 = iZ tot) (h4 : mI M c 4 = iZ cnt) (n1 : cnt ≤ 40) (u1 : 0 ≤ tot) (u2 : tot ≤ 100000) : Ev G (d + 8) 178 [aR (some 95), aI (iZ p)] M 0 (rI fun v M' => QRw M B n k c q hr wd p cnt tot (kFr B n q cnt b) v M') nX := by
  have hB := hE.1
  have hC := hE.2.1
  have k1 := hB.1
  obtain ⟨c1, ck⟩ := ce_c hE
  have n6 := hT.1.1
  obtain ⟨cp0, cp8, cpx⟩ := hC.1
  obtain ⟨y, hy⟩ := ls_get hp
  obtain ⟨y1, y2, y3, y4, y5⟩ := cpx p y hy
  have hvp : vP q p = y.2 := by unfold vP; rw [hy]
  have hS9 := hS.1
  have e0 := fun (f : Nat → Int32) => c14 (G := G) (d := d + 6) (M := rowI M 95 f) (a := 96) (L := 10) (v := iZ 0) hst (by decide) (by show 96 < mN M; omega) (K96 hS) (by decide)
  refine Ev_wp 2000 hst (by decide) (Nat.le_of_ble_eq_true rfl) ?_; simp (disch := omega) only [en178, wcQ, wcX, wcG, wcL, wcS, w178_0, w178_1, w178_2, w178_5, w178_8, w178_9, w178_10, w178_13, w178_14, w178_17, w178_18, toI, toJ, toI64, inb_T, inb_iZ, Int.toNat_natCast, cl_0, cl_1, cl_2, cl_3, cl_4, cl_5, cl_6, cl_7, cl_8, cl_9, cl_10, cl_11, cl_12, cl_13, cl_14, cl_15, cl_16, cl_17, cl_18, cl_19, cl_20, cl_21, cl_22, cl_23, cl_24, cl_25, cl_26, cl_27, cl_28, cl_29, cl_30, cl_31, cl_32, cl_36, cl_40, cl_48, cl_60, cl_108, cl_120, cl_200, cl_201, cl_576, cl_600, cl_864, cl_900, cl_960, cl_5400, cl_8040, j2_0, iN_iZ, iN_lit0, iZ_add, iZ_sub, iZ_mul, iZ_neg, jZ_add, jZ_sub, jZ_mul, jZ_neg, isB0, isB1, isBZ, eq0, eq1, bZ0, vI_, vJ_, vA_, rI_, rJ_, rA_, rV_, nX_, tX_, true_and, and_true, false_and, and_false, and_self, implies_true, forall_const, not_true_eq_false, not_false_eq_true, false_implies, true_implies, ↓reduceIte, Nat.reduceEqDiff, Int.reduceToNat, Int.reduceAdd, Int.reduceSub, Int.reduceLT, Int.reduceLE, Int.reduceEq, Int.add_zero, Int.neg_zero, Int.add_sub_cancel, Int.reduceNeg, Nat.reduceLeDiff, Nat.reduceSub, true_or, or_true, false_or, or_false, setI_d, setJ_d, setP_d, mI_row, mJ_row, mP_row, mI_row_ne, mJ_row_ne, mP_row_ne, rowI_rowI, rowJ_rowJ, rowI_sort, rowJ_sort, rowJ_rowI, rowP_rowI, rowP_rowJ, fu_app, fu_fu, mI_rowJ, mI_rowP, mJ_rowI, mJ_rowP, mP_rowI, mP_rowJ, mK_rowI, mN_rowI, mK_rowJ, mN_rowJ, mK_rowP, mN_rowP, oB_rowI, oB_rowJ, iA_rowI, iA_rowJ, iR_rowI, iR_rowJ, St_rowI, St_rowJ, K95 hS, O95 hS, P95_5 hS, K96 hS, O96 hS, A96 hS, ce_p1 hE, bk_o hB, bk_p1 hB, bk_i1 hB, y1]
  refine kV (e0 _) (Nat.le_refl _) (fun M1 hq => ?_) (fun e M' h => False.elim h)
  have R0 : RSo M M1 k c q hr wd p cnt [] := by
    rw [hq]
    refine ⟨Fc_tr (Fc_row (Or.inl rfl) k1 c1) (Fc_row (Or.inr (Or.inl rfl)) k1 c1), ⟨?_, fun j hj => ?_, ?_, ?_⟩, ?_, fun j _ => ?_, fun j _ => ?_, fun j y hy => (nil_get hy).elim⟩
    · rw [mI_row_ne (by decide), mI_row]
      show (if (4 : Nat) = 4 then _ else _) = _
      rw [if_pos rfl, ← hvp]; rfl
    · rw [mI_row]; unfold upto; rw [if_pos hj]; rfl
    · rw [mI_row_ne (by omega), mI_row_ne (by omega)]; exact h4
    · unfold VS
      rw [mI_row_ne (by omega), mI_row_ne (by omega)]; exact hV
    · rw [mI_row_ne (by omega), mI_row_ne (by omega)]
    · rw [mI_row_ne (by omega), mI_row_ne (by omega)]
    · rw [mI_row_ne (by omega), mI_row_ne (by omega)]
  have T1 : TC M1 B n b := by
    rw [hq]
    exact TC_row (by decide) (by decide) (by decide) (TC_row (by decide) (by decide) (by decide) hT)
  clear hq e0
  generalize hRR : kFr B n q cnt b = RR
  have hR : RR = match kFs B n q 41 cnt b [] with
    | .inl e => .inl e
    | .inr (c, l) => if sgP B n c 59 then .inr (nxT B n c, l) else .inl (1, c) := by rw [← hRR]; rfl
  simp (disch := omega) only [wcQ, wcX, wcG, wcL, wcS, w178_21, w178_22, h178_23, w178_23, toI, toJ, toI64, inb_T, inb_iZ, Int.toNat_natCast, cl_0, cl_1, cl_2, cl_3, cl_4, cl_5, cl_6, cl_7, cl_8, cl_9, cl_10, cl_11, cl_12, cl_13, cl_14, cl_15, cl_16, cl_17, cl_18, cl_19, cl_20, cl_21, cl_22, cl_23, cl_24, cl_25, cl_26, cl_27, cl_28, cl_29, cl_30, cl_31, cl_32, cl_36, cl_40, cl_48, cl_60, cl_108, cl_120, cl_200, cl_201, cl_576, cl_600, cl_864, cl_900, cl_960, cl_5400, cl_8040, j2_0, iN_iZ, iN_lit0, iZ_add, iZ_sub, iZ_mul, iZ_neg, jZ_add, jZ_sub, jZ_mul, jZ_neg, isB0, isB1, isBZ, eq0, eq1, bZ0, vI_, vJ_, vA_, rI_, rJ_, rA_, rV_, nX_, tX_, true_and, and_true, false_and, and_false, and_self, implies_true, forall_const, not_true_eq_false, not_false_eq_true, false_implies, true_implies, ↓reduceIte, Nat.reduceEqDiff, Int.reduceToNat, Int.reduceAdd, Int.reduceSub, Int.reduceLT, Int.reduceLE, Int.reduceEq, Int.add_zero, Int.neg_zero, Int.add_sub_cancel, Int.reduceNeg, Nat.reduceLeDiff, Nat.reduceSub, true_or, or_true, false_or, or_false, setI_d, setJ_d, setP_d, mI_row, mJ_row, mP_row, mI_row_ne, mJ_row_ne, mP_row_ne, rowI_rowI, rowJ_rowJ, rowI_sort, rowJ_sort, rowJ_rowI, rowP_rowI, rowP_rowJ, fu_app, fu_fu, mI_rowJ, mI_rowP, mJ_rowI, mJ_rowP, mP_rowI, mP_rowJ, mK_rowI, mN_rowI, mK_rowJ, mN_rowJ, mK_rowP, mN_rowP, oB_rowI, oB_rowJ, iA_rowI, iA_rowJ, iR_rowI, iR_rowJ, St_rowI, St_rowJ]
  -- behind all faults
  have J : ∀ (m b' : Nat) (l : List (Nat × Int)) (Mi : Mem) (y2 : AV), RSo M Mi k c q hr wd p cnt l → TC Mi B n b' → cnt + l.length ≤ 40 → RR = (if sgP B n b' 59 then .inr (nxT B n b', l) else .inl (1, b')) → wp (WCo G (d + 7) 178 (rI fun v M' => QRw M B n k c q hr wd p cnt tot RR v M') nX) 178 (m + 300) 54 [aR (some 95), aI (iZ p), y2] [] Mi 0 := by
    intro m b' l Mi y2 hRS gT hc40 hR2
    obtain ⟨g1, g2, g3, g4, g5, g6⟩ := id hRS
    have gS := Fc_S g1 hS
    have gE := Fc_CE g1 hE
    obtain ⟨q1, q2, q3, q4⟩ := id g2
    have gb := acF_b (q := q) (hr := hr) (wd := wd) l (vP q p) (fun _ => 0) (by rw [hvp]; omega)
    have gt : mI Mi c 2 = iZ tot := by rw [g4 2 (by decide)]; exact h2
    have gl := acF_len (q := q) (hr := hr) (wd := wd) l (vP q p) (fun _ => 0)
    generalize hA : acF q hr wd (vP q p) (fun _ => 0) l = A at *
    obtain ⟨M2, hM2⟩ : ∃ M2, M2 = rowI (rowI Mi c (fu (mI Mi c) 2 (iZ (tot + A.1)))) (c + 2) (fu (mI Mi (c + 2)) p (iZ A.1)) := ⟨_, rfl⟩
    have F2 : Fc Mi M2 k c := by rw [hM2]; exact Fc_tr (Fc_row (by omega) k1 c1) (Fc_row (by omega) k1 c1)
    have T2 : TC M2 B n b' := by rw [hM2]; exact TC_row (by omega) (by omega) (by omega) (TC_row (by omega) (by omega) (by omega) gT)
    have S2 := Fc_S F2 gS
    have e5 := c139 (G := G) (d := d + 5) (c := 59) hst S2 (by decide) T2
    have W2 : ∀ M3, Fc M2 M3 k c → (∀ x, x ≠ 91 → mI M3 x = mI M2 x) → RW M M3 k c hr wd p cnt tot A := fun M3 F3 I3 => by
      refine ⟨Fc_tr g1 (Fc_tr F2 F3), ?_, ?_, ?_, ?_, fun j hj => ?_, fun j y hy => ?_, fun j j1 j2 => ?_⟩
      · unfold VS at *
        rw [I3 _ (by omega), hM2, mI_row_ne (by omega), mI_row_ne (by omega)]; exact q4
      · rw [I3 _ (by omega), hM2, mI_row, g3]
      · rw [I3 _ (by omega), hM2, mI_row_ne (by omega), mI_row]; exact if_pos rfl
      · rw [I3 _ (by omega), hM2, mI_row_ne (by omega), mI_row, gl]
        exact q3
      · rw [I3 _ (by omega), hM2, mI_row_ne (by omega), mI_row_ne (by omega)]; exact g5 j hj
      · rw [I3 _ (by omega), hM2, mI_row_ne (by omega), mI_row_ne (by omega)]; exact g6 j y hy
      · rw [I3 _ (by omega), hM2, mI_row_ne (by omega), mI_row]
        show (if j = 2 then _ else mI Mi c j) = _
        rw [if_neg j1]; exact g4 j j2
    simp (disch := omega) only [wcQ, wcX, wcG, wcL, wcS, w178_54, w178_55, w178_58, w178_61, w178_62, w178_63, w178_66, w178_67, w178_68, w178_71, w178_72, w178_75, w178_76, w178_79, w178_80, w178_83, w178_84, w178_87, w178_89, toI, toJ, toI64, inb_T, inb_iZ, Int.toNat_natCast, cl_0, cl_1, cl_2, cl_3, cl_4, cl_5, cl_6, cl_7, cl_8, cl_9, cl_10, cl_11, cl_12, cl_13, cl_14, cl_15, cl_16, cl_17, cl_18, cl_19, cl_20, cl_21, cl_22, cl_23, cl_24, cl_25, cl_26, cl_27, cl_28, cl_29, cl_30, cl_31, cl_32, cl_36, cl_40, cl_48, cl_60, cl_108, cl_120, cl_200, cl_201, cl_576, cl_600, cl_864, cl_900, cl_960, cl_5400, cl_8040, j2_0, iN_iZ, iN_lit0, iZ_add, iZ_sub, iZ_mul, iZ_neg, jZ_add, jZ_sub, jZ_mul, jZ_neg, isB0, isB1, isBZ, eq0, eq1, bZ0, vI_, vJ_, vA_, rI_, rJ_, rA_, rV_, nX_, tX_, true_and, and_true, false_and, and_false, and_self, implies_true, forall_const, not_true_eq_false, not_false_eq_true, false_implies, true_implies, ↓reduceIte, Nat.reduceEqDiff, Int.reduceToNat, Int.reduceAdd, Int.reduceSub, Int.reduceLT, Int.reduceLE, Int.reduceEq, Int.add_zero, Int.neg_zero, Int.add_sub_cancel, Int.reduceNeg, Nat.reduceLeDiff, Nat.reduceSub, true_or, or_true, false_or, or_false, setI_d, setJ_d, setP_d, mI_row, mJ_row, mP_row, mI_row_ne, mJ_row_ne, mP_row_ne, rowI_rowI, rowJ_rowJ, rowI_sort, rowJ_sort, rowJ_rowI, rowP_rowI, rowP_rowJ, fu_app, fu_fu, mI_rowJ, mI_rowP, mJ_rowI, mJ_rowP, mP_rowI, mP_rowJ, mK_rowI, mN_rowI, mK_rowJ, mN_rowJ, mK_rowP, mN_rowP, oB_rowI, oB_rowJ, iA_rowI, iA_rowJ, iR_rowI, iR_rowJ, St_rowI, St_rowJ, K95 gS, O95 gS, ce_p3 gE, ce_oc gE, ce_p6 gE, ce_i2 gE, q1, gt, ce_p0 gE, O91 gS]
    rw [← hM2]
    refine kI e5 (Nat.le_refl _) (fun v M3 hq => ?_) (fun e M' h => False.elim h)
    rcases hq with ⟨hs, rfl, rfl⟩ | ⟨hs, rfl, rfl⟩
    · rw [if_pos hs] at hR2
      simp (disch := omega) only [wcQ, wcX, wcG, wcL, wcS, w178_92, toI, toJ, toI64, inb_T, inb_iZ, Int.toNat_natCast, cl_0, cl_1, cl_2, cl_3, cl_4, cl_5, cl_6, cl_7, cl_8, cl_9, cl_10, cl_11, cl_12, cl_13, cl_14, cl_15, cl_16, cl_17, cl_18, cl_19, cl_20, cl_21, cl_22, cl_23, cl_24, cl_25, cl_26, cl_27, cl_28, cl_29, cl_30, cl_31, cl_32, cl_36, cl_40, cl_48, cl_60, cl_108, cl_120, cl_200, cl_201, cl_576, cl_600, cl_864, cl_900, cl_960, cl_5400, cl_8040, j2_0, iN_iZ, iN_lit0, iZ_add, iZ_sub, iZ_mul, iZ_neg, jZ_add, jZ_sub, jZ_mul, jZ_neg, isB0, isB1, isBZ, eq0, eq1, bZ0, vI_, vJ_, vA_, rI_, rJ_, rA_, rV_, nX_, tX_, true_and, and_true, false_and, and_false, and_self, implies_true, forall_const, not_true_eq_false, not_false_eq_true, false_implies, true_implies, ↓reduceIte, Nat.reduceEqDiff, Int.reduceToNat, Int.reduceAdd, Int.reduceSub, Int.reduceLT, Int.reduceLE, Int.reduceEq, Int.add_zero, Int.neg_zero, Int.add_sub_cancel, Int.reduceNeg, Nat.reduceLeDiff, Nat.reduceSub, true_or, or_true, false_or, or_false, setI_d, setJ_d, setP_d, mI_row, mJ_row, mP_row, mI_row_ne, mJ_row_ne, mP_row_ne, rowI_rowI, rowJ_rowJ, rowI_sort, rowJ_sort, rowJ_rowI, rowP_rowI, rowP_rowJ, fu_app, fu_fu, mI_rowJ, mI_rowP, mJ_rowI, mJ_rowP, mP_rowI, mP_rowJ, mK_rowI, mN_rowI, mK_rowJ, mN_rowJ, mK_rowP, mN_rowP, oB_rowI, oB_rowJ, iA_rowI, iA_rowJ, iR_rowI, iR_rowJ, St_rowI, St_rowJ]
      have hbn : b' < n := tk_lt (B := B) (by have := hs.1; omega)
      have nb := nxT_b (B := B) (n := n) (b := b')
      rw [QRw_r hR2, hA]
      exact ⟨rfl, hc40, TC_st T2.1 (nb.2.1 (by omega)), W2 _ Fc_st (fun x hx => by unfold stM; rw [mI_row_ne hx])⟩
    · rw [if_neg hs] at hR2
      simp (disch := omega) only [wcQ, wcX, wcG, wcL, wcS, w178_92, toI, toJ, toI64, inb_T, inb_iZ, Int.toNat_natCast, cl_0, cl_1, cl_2, cl_3, cl_4, cl_5, cl_6, cl_7, cl_8, cl_9, cl_10, cl_11, cl_12, cl_13, cl_14, cl_15, cl_16, cl_17, cl_18, cl_19, cl_20, cl_21, cl_22, cl_23, cl_24, cl_25, cl_26, cl_27, cl_28, cl_29, cl_30, cl_31, cl_32, cl_36, cl_40, cl_48, cl_60, cl_108, cl_120, cl_200, cl_201, cl_576, cl_600, cl_864, cl_900, cl_960, cl_5400, cl_8040, j2_0, iN_iZ, iN_lit0, iZ_add, iZ_sub, iZ_mul, iZ_neg, jZ_add, jZ_sub, jZ_mul, jZ_neg, isB0, isB1, isBZ, eq0, eq1, bZ0, vI_, vJ_, vA_, rI_, rJ_, rA_, rV_, nX_, tX_, true_and, and_true, false_and, and_false, and_self, implies_true, forall_const, not_true_eq_false, not_false_eq_true, false_implies, true_implies, ↓reduceIte, Nat.reduceEqDiff, Int.reduceToNat, Int.reduceAdd, Int.reduceSub, Int.reduceLT, Int.reduceLE, Int.reduceEq, Int.add_zero, Int.neg_zero, Int.add_sub_cancel, Int.reduceNeg, Nat.reduceLeDiff, Nat.reduceSub, true_or, or_true, false_or, or_false, setI_d, setJ_d, setP_d, mI_row, mJ_row, mP_row, mI_row_ne, mJ_row_ne, mP_row_ne, rowI_rowI, rowJ_rowJ, rowI_sort, rowJ_sort, rowJ_rowI, rowP_rowI, rowP_rowJ, fu_app, fu_fu, mI_rowJ, mI_rowP, mJ_rowI, mJ_rowP, mP_rowI, mP_rowJ, mK_rowI, mN_rowI, mK_rowJ, mN_rowJ, mK_rowP, mN_rowP, oB_rowI, oB_rowJ, iA_rowI, iA_rowJ, iR_rowI, iR_rowJ, St_rowI, St_rowJ]
      rw [QRw_i hR2]
      exact ⟨rfl, Fc_tr g1 (Fc_tr F2 Fc_rf), rf_2, rf_3⟩
  refine loopN 41 (fun i ls M' => ls = [aR (some 95), aI (iZ p), aI (iZ i)] ∧ ∃ (b' : Nat) (l : List (Nat × Int)), RSo M M' k c q hr wd p cnt l ∧ TC M' B n b' ∧ l.length = i ∧ cnt + i ≤ 40 ∧ RR = match kFs B n q (41 - i) (cnt + i) b' l with
    | .inl e => .inl e
    | .inr (c, l) => if sgP B n c 59 then .inr (nxT B n c, l) else .inl (1, c)) ⟨rfl, b, [], R0, T1, rfl, n1, hR⟩ ?_ ?_
  · intro i hi ls Mi ⟨hl, b', l, gR, gT, gl, g40, gRR⟩ K
    subst hl
    obtain ⟨f, hf⟩ : ∃ f, 41 - i = f + 1 := ⟨41 - i - 1, by omega⟩
    have hf2 : 41 - (i + 1) = f := by omega
    rw [hf2] at K
    rw [hf] at gRR
    unfold kFs at gRR
    have gS := Fc_S gR.1 hS
    have gE := Fc_CE gR.1 hE
    have hi' : ¬ (40 : Int) < i := by omega
    have e1 := c131 (G := G) (d := d + 1) hst gS gT
    refine wp1_go (n := 2000) ?_
    simp (disch := omega) only [wcQ, wcX, wcG, wcL, wcS, h178_23, w178_23, w178_24, w178_26, w178_29, w178_30, w178_33, toI, toJ, toI64, inb_T, inb_iZ, Int.toNat_natCast, cl_0, cl_1, cl_2, cl_3, cl_4, cl_5, cl_6, cl_7, cl_8, cl_9, cl_10, cl_11, cl_12, cl_13, cl_14, cl_15, cl_16, cl_17, cl_18, cl_19, cl_20, cl_21, cl_22, cl_23, cl_24, cl_25, cl_26, cl_27, cl_28, cl_29, cl_30, cl_31, cl_32, cl_36, cl_40, cl_48, cl_60, cl_108, cl_120, cl_200, cl_201, cl_576, cl_600, cl_864, cl_900, cl_960, cl_5400, cl_8040, j2_0, iN_iZ, iN_lit0, iZ_add, iZ_sub, iZ_mul, iZ_neg, jZ_add, jZ_sub, jZ_mul, jZ_neg, isB0, isB1, isBZ, eq0, eq1, bZ0, vI_, vJ_, vA_, rI_, rJ_, rA_, rV_, nX_, tX_, true_and, and_true, false_and, and_false, and_self, implies_true, forall_const, not_true_eq_false, not_false_eq_true, false_implies, true_implies, ↓reduceIte, Nat.reduceEqDiff, Int.reduceToNat, Int.reduceAdd, Int.reduceSub, Int.reduceLT, Int.reduceLE, Int.reduceEq, Int.add_zero, Int.neg_zero, Int.add_sub_cancel, Int.reduceNeg, Nat.reduceLeDiff, Nat.reduceSub, true_or, or_true, false_or, or_false, setI_d, setJ_d, setP_d, mI_row, mJ_row, mP_row, mI_row_ne, mJ_row_ne, mP_row_ne, rowI_rowI, rowJ_rowJ, rowI_sort, rowJ_sort, rowJ_rowI, rowP_rowI, rowP_rowJ, fu_app, fu_fu, mI_rowJ, mI_rowP, mJ_rowI, mJ_rowP, mP_rowI, mP_rowJ, mK_rowI, mN_rowI, mK_rowJ, mN_rowJ, mK_rowP, mN_rowP, oB_rowI, oB_rowJ, iA_rowI, iA_rowJ, iR_rowI, iR_rowJ, St_rowI, St_rowJ, hi', K95 gS, O95 gS, ce_p0 gE, O91 gS]
    refine kI0 e1 ?_
    by_cases w : nmP B n b'
    · rw [if_pos w] at gRR
      have w' := eq_true w
      have gb := acF_b (q := q) (hr := hr) (wd := wd) l (vP q p) (fun _ => 0) (by rw [hvp]; omega)
      have gp := gR.2.1
      rw [gl] at gp
      have e2 := c177 (G := G) (d := d + 2) hst gS gE gT w gp gb.1 (by omega) (fun j => by have := tmA_le l (fun _ => 0) j; omega) (by omega)
      simp (disch := omega) only [wcQ, wcX, wcG, wcL, wcS, w178_36, w178_39, w178_40, toI, toJ, toI64, inb_T, inb_iZ, Int.toNat_natCast, cl_0, cl_1, cl_2, cl_3, cl_4, cl_5, cl_6, cl_7, cl_8, cl_9, cl_10, cl_11, cl_12, cl_13, cl_14, cl_15, cl_16, cl_17, cl_18, cl_19, cl_20, cl_21, cl_22, cl_23, cl_24, cl_25, cl_26, cl_27, cl_28, cl_29, cl_30, cl_31, cl_32, cl_36, cl_40, cl_48, cl_60, cl_108, cl_120, cl_200, cl_201, cl_576, cl_600, cl_864, cl_900, cl_960, cl_5400, cl_8040, j2_0, iN_iZ, iN_lit0, iZ_add, iZ_sub, iZ_mul, iZ_neg, jZ_add, jZ_sub, jZ_mul, jZ_neg, isB0, isB1, isBZ, eq0, eq1, bZ0, vI_, vJ_, vA_, rI_, rJ_, rA_, rV_, nX_, tX_, true_and, and_true, false_and, and_false, and_self, implies_true, forall_const, not_true_eq_false, not_false_eq_true, false_implies, true_implies, ↓reduceIte, Nat.reduceEqDiff, Int.reduceToNat, Int.reduceAdd, Int.reduceSub, Int.reduceLT, Int.reduceLE, Int.reduceEq, Int.add_zero, Int.neg_zero, Int.add_sub_cancel, Int.reduceNeg, Nat.reduceLeDiff, Nat.reduceSub, true_or, or_true, false_or, or_false, setI_d, setJ_d, setP_d, mI_row, mJ_row, mP_row, mI_row_ne, mJ_row_ne, mP_row_ne, rowI_rowI, rowJ_rowJ, rowI_sort, rowJ_sort, rowJ_rowI, rowP_rowI, rowP_rowJ, fu_app, fu_fu, mI_rowJ, mI_rowP, mJ_rowI, mJ_rowP, mP_rowI, mP_rowJ, mK_rowI, mN_rowI, mK_rowJ, mN_rowJ, mK_rowP, mN_rowP, oB_rowI, oB_rowJ, iA_rowI, iA_rowJ, iR_rowI, iR_rowJ, St_rowI, St_rowJ, w', O95 gS]
      refine kI e2 (Nat.le_refl _) (fun v M2 hq => ?_) (fun e M' h => False.elim h)
      match hp' : kFa B n q (cnt + i) b' with
      | .inl (e, f') =>
        rw [QFa_i hp'] at hq
        obtain ⟨rfl, F2, g2, g3⟩ := hq
        rw [hp'] at gRR
        simp (disch := omega) only [wcQ, wcX, wcG, wcL, wcS, w178_43, w178_46, w178_47, toI, toJ, toI64, inb_T, inb_iZ, Int.toNat_natCast, cl_0, cl_1, cl_2, cl_3, cl_4, cl_5, cl_6, cl_7, cl_8, cl_9, cl_10, cl_11, cl_12, cl_13, cl_14, cl_15, cl_16, cl_17, cl_18, cl_19, cl_20, cl_21, cl_22, cl_23, cl_24, cl_25, cl_26, cl_27, cl_28, cl_29, cl_30, cl_31, cl_32, cl_36, cl_40, cl_48, cl_60, cl_108, cl_120, cl_200, cl_201, cl_576, cl_600, cl_864, cl_900, cl_960, cl_5400, cl_8040, j2_0, iN_iZ, iN_lit0, iZ_add, iZ_sub, iZ_mul, iZ_neg, jZ_add, jZ_sub, jZ_mul, jZ_neg, isB0, isB1, isBZ, eq0, eq1, bZ0, vI_, vJ_, vA_, rI_, rJ_, rA_, rV_, nX_, tX_, true_and, and_true, false_and, and_false, and_self, implies_true, forall_const, not_true_eq_false, not_false_eq_true, false_implies, true_implies, ↓reduceIte, Nat.reduceEqDiff, Int.reduceToNat, Int.reduceAdd, Int.reduceSub, Int.reduceLT, Int.reduceLE, Int.reduceEq, Int.add_zero, Int.neg_zero, Int.add_sub_cancel, Int.reduceNeg, Nat.reduceLeDiff, Nat.reduceSub, true_or, or_true, false_or, or_false, setI_d, setJ_d, setP_d, mI_row, mJ_row, mP_row, mI_row_ne, mJ_row_ne, mP_row_ne, rowI_rowI, rowJ_rowJ, rowI_sort, rowJ_sort, rowJ_rowI, rowP_rowI, rowP_rowJ, fu_app, fu_fu, mI_rowJ, mI_rowP, mJ_rowI, mJ_rowP, mP_rowI, mP_rowJ, mK_rowI, mN_rowI, mK_rowJ, mN_rowJ, mK_rowP, mN_rowP, oB_rowI, oB_rowJ, iA_rowI, iA_rowJ, iR_rowI, iR_rowJ, St_rowI, St_rowJ]
        rw [QRw_i gRR]
        exact ⟨rfl, Fc_tr gR.1 F2, g2, g3⟩
      | .inr (b2, w2, x2) =>
        rw [QFa_r hp'] at hq
        obtain ⟨rfl, T2, K2⟩ := hq
        rw [hp'] at gRR
        simp (disch := omega) only [wcQ, wcX, wcG, wcL, wcS, h178_23, w178_23, w178_43, w178_48, w178_51, toI, toJ, toI64, inb_T, inb_iZ, Int.toNat_natCast, cl_0, cl_1, cl_2, cl_3, cl_4, cl_5, cl_6, cl_7, cl_8, cl_9, cl_10, cl_11, cl_12, cl_13, cl_14, cl_15, cl_16, cl_17, cl_18, cl_19, cl_20, cl_21, cl_22, cl_23, cl_24, cl_25, cl_26, cl_27, cl_28, cl_29, cl_30, cl_31, cl_32, cl_36, cl_40, cl_48, cl_60, cl_108, cl_120, cl_200, cl_201, cl_576, cl_600, cl_864, cl_900, cl_960, cl_5400, cl_8040, j2_0, iN_iZ, iN_lit0, iZ_add, iZ_sub, iZ_mul, iZ_neg, jZ_add, jZ_sub, jZ_mul, jZ_neg, isB0, isB1, isBZ, eq0, eq1, bZ0, vI_, vJ_, vA_, rI_, rJ_, rA_, rV_, nX_, tX_, true_and, and_true, false_and, and_false, and_self, implies_true, forall_const, not_true_eq_false, not_false_eq_true, false_implies, true_implies, ↓reduceIte, Nat.reduceEqDiff, Int.reduceToNat, Int.reduceAdd, Int.reduceSub, Int.reduceLT, Int.reduceLE, Int.reduceEq, Int.add_zero, Int.neg_zero, Int.add_sub_cancel, Int.reduceNeg, Nat.reduceLeDiff, Nat.reduceSub, true_or, or_true, false_or, or_false, setI_d, setJ_d, setP_d, mI_row, mJ_row, mP_row, mI_row_ne, mJ_row_ne, mP_row_ne, rowI_rowI, rowJ_rowJ, rowI_sort, rowJ_sort, rowJ_rowI, rowP_rowI, rowP_rowJ, fu_app, fu_fu, mI_rowJ, mI_rowP, mJ_rowI, mJ_rowP, mP_rowI, mP_rowJ, mK_rowI, mN_rowI, mK_rowJ, mN_rowJ, mK_rowP, mN_rowP, oB_rowI, oB_rowJ, iA_rowI, iA_rowJ, iR_rowI, iR_rowJ, St_rowI, St_rowJ]
        exact K _ _ ⟨rfl, b2, l ++ [(w2, x2)], RSo_TK gR (by rw [gl]; exact K2), T2, by rw [List.length_append, gl]; rfl, by have := (kFa_r hp').1; omega, gRR⟩
    · rw [if_neg w] at gRR
      have w' := eq_false w
      simp (disch := omega) only [wcQ, wcX, wcG, wcL, wcS, w178_36, toI, toJ, toI64, inb_T, inb_iZ, Int.toNat_natCast, cl_0, cl_1, cl_2, cl_3, cl_4, cl_5, cl_6, cl_7, cl_8, cl_9, cl_10, cl_11, cl_12, cl_13, cl_14, cl_15, cl_16, cl_17, cl_18, cl_19, cl_20, cl_21, cl_22, cl_23, cl_24, cl_25, cl_26, cl_27, cl_28, cl_29, cl_30, cl_31, cl_32, cl_36, cl_40, cl_48, cl_60, cl_108, cl_120, cl_200, cl_201, cl_576, cl_600, cl_864, cl_900, cl_960, cl_5400, cl_8040, j2_0, iN_iZ, iN_lit0, iZ_add, iZ_sub, iZ_mul, iZ_neg, jZ_add, jZ_sub, jZ_mul, jZ_neg, isB0, isB1, isBZ, eq0, eq1, bZ0, vI_, vJ_, vA_, rI_, rJ_, rA_, rV_, nX_, tX_, true_and, and_true, false_and, and_false, and_self, implies_true, forall_const, not_true_eq_false, not_false_eq_true, false_implies, true_implies, ↓reduceIte, Nat.reduceEqDiff, Int.reduceToNat, Int.reduceAdd, Int.reduceSub, Int.reduceLT, Int.reduceLE, Int.reduceEq, Int.add_zero, Int.neg_zero, Int.add_sub_cancel, Int.reduceNeg, Nat.reduceLeDiff, Nat.reduceSub, true_or, or_true, false_or, or_false, setI_d, setJ_d, setP_d, mI_row, mJ_row, mP_row, mI_row_ne, mJ_row_ne, mP_row_ne, rowI_rowI, rowJ_rowJ, rowI_sort, rowJ_sort, rowJ_rowI, rowP_rowI, rowP_rowJ, fu_app, fu_fu, mI_rowJ, mI_rowP, mJ_rowI, mJ_rowP, mP_rowI, mP_rowJ, mK_rowI, mN_rowI, mK_rowJ, mN_rowJ, mK_rowP, mN_rowP, oB_rowI, oB_rowJ, iA_rowI, iA_rowJ, iR_rowI, iR_rowJ, St_rowI, St_rowJ, w']
      exact J _ b' l Mi _ gR gT (by omega) gRR
  · intro ls Mi ⟨hl, b', l, gR, gT, gl, g40, gRR⟩
    omega
end

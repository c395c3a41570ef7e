/-! CARDS: the rows; the class's side. -/
section
variable {G : GE} {d : Nat} {M M' M'' : Mem} {B : Nat → Nat} {n b k s N a c w cnt p : Nat} {q : Bk} {hr wd x lf tot tim : Int} {tm : Nat → Nat}
/-- these rows are worked out on the card -/
def RWs (M M' : Mem) (k c : Nat) (q : Bk) (hr wd : Int) (rows : Rw) : Prop :=
  Fc M M' k c ∧ VS M' k hr wd ∧ mI M' c 2 = iZ (acR q hr wd rows).2.1 ∧ mI M' c 4 = iZ (nFa rows) ∧ (∀ j, j < 8 → mI M' (c + 2) j = iZ ((acR q hr wd rows).1 j)) ∧ (∀ j y, (acR q hr wd rows).2.2[j]? = some y → mI M' (c + 1) j = iZ y) ∧ ∀ j, j ≠ 2 → j ≠ 4 → mI M' c j = mI M c j
theorem RWs_91 {g : Nat → Int32} {rows : Rw} (hk : 222 ≤ k) (hc : 222 ≤ c) (h0 : g 0 = mI M' 91 0) (h6 : g 6 = mI M' 91 6) (h : RWs M M' k c q hr wd rows) : RWs M (rowI M' 91 g) k c q hr wd rows := by
  obtain ⟨a1, a2, a3, a4, a5, a6, a7⟩ := h
  unfold RWs VS at *
  rw [mI_row_ne (by omega), mI_row_ne (by omega), mI_row_ne (by omega), mI_row_ne (by omega)]
  exact ⟨Fc_tr a1 (Fc_91 h0 h6), a2, a3, a4, a5, a6, a7⟩
theorem RWs_RW {rows : Rw} {l : List (Nat × Int)} (h : RWs M M' k c q hr wd rows) (h' : RW M' M'' k c hr wd p (nFa rows) (acR q hr wd rows).2.1 (acF q hr wd (vP q p) (fun _ => 0) l)) (ho : rwO (-1) rows) (hl : rwL (-1) rows < p) : RWs M M'' k c q hr wd (rows ++ [(p, l)]) := by
  obtain ⟨a1, a2, a3, a4, a5, a6, a7⟩ := h
  obtain ⟨b1, b2, b3, b4, b5, b6, b7, b8⟩ := h'
  have e := acR_app (q := q) (hr := hr) (wd := wd) (p := p) (m := l) rows (-1) ho hl
  have el := acR_len (q := q) (hr := hr) (wd := wd) rows
  have el2 := acF_len (q := q) (hr := hr) (wd := wd) l (vP q p) (fun _ => 0)
  unfold RWs
  rw [e, nFa_app]
  refine ⟨Fc_tr a1 b1, b2, b4, by rw [b5, el2], fun j hj => ?_, fun j y hy => ?_, fun j h1 h2 => (b8 j h1 h2).trans (a7 j h1 h2)⟩
  · rw [b3]
    show (if j = p then _ else _) = iZ (if j = p then _ else _)
    by_cases z : j = p
    · rw [if_pos z, if_pos z]
    · rw [if_neg z, if_neg z]; exact a5 j hj
  · rcases app_get' hy with ⟨z, hy⟩ | ⟨z, hy⟩
    · rw [b6 j (by omega)]; exact a6 j y hy
    · rw [el] at z hy
      have := b7 (j - nFa rows) y hy
      rw [show nFa rows + (j - nFa rows) = j by omega] at this
      exact this
def QRs (M : Mem) (B : Nat → Nat) (n k c : Nat) (q : Bk) (hr wd : Int) (r : KR Rw) (v : Int32) (M' : Mem) : Prop := match r with
  | .inl (e, f) => v = iZ 0 ∧ Fc M M' k c ∧ mI M' 91 2 = iZ e ∧ mI M' 91 3 = iZ f
  | .inr (b', rows) => v = iZ 1 ∧ TC M' B n b' ∧ RWs M M' k c q hr wd rows
theorem QRs_i {r : KR Rw} {e f : Nat} {v : Int32} (h : r = .inl (e, f)) : QRs M B n k c q hr wd r v M' = (v = iZ 0 ∧ Fc M M' k c ∧ mI M' 91 2 = iZ e ∧ mI M' 91 3 = iZ f) := by rw [h]; rfl
theorem QRs_r {r : KR Rw} {e : Nat} {rows : Rw} {v : Int32} (h : r = .inr (e, rows)) : QRs M B n k c q hr wd r v M' = (v = iZ 1 ∧ TC M' B n e ∧ RWs M M' k c q hr wd rows) := by rw [h]; rfl
theorem vP_b (hE : BC M k s q) (p : Nat) : 0 ≤ vP q p ∧ vP q p ≤ 99 := by
  unfold vP
  split
  · next y hy =>
    have := (hE.1.2.2 p y hy).2.2.2
    omega
  · omega
theorem c179 (hst : (gl G).stackTraces = false) (hS : Static M) (hE : CE M k N s a c q hr wd) (hT : TC M B n b) (hV : VS M k hr wd) (h2 : mI M c 2 = iZ 0) (h4 : mI M c 4 = iZ 0) (hz : ∀ j, j < 8 → mI M (c + 2) j = iZ 0) : Ev G (d + 10) 179 [aR (some 95)] M 0 (rI fun v M' => QRs M B n k c q hr wd (kRows B n q 9 (-1) 0 b []) v M') nX := by
  have hC := hE.2.1
  have k1 := ce_k hE
  obtain ⟨c1, ck⟩ := ce_c hE
  have hp8 := hC.1.2.1
  have hv := vP_b hC
  refine Ev_wp 2000 hst (by decide) (Nat.le_of_ble_eq_true rfl) ?_; simp (disch := omega) only [en179, wcQ, wcX, wcG, wcL, wcS, w179_0, w179_1, w179_2, w179_3, toI, toJ, toI64, inb_T, inb_iZ, Int.toNat_natCast, cl_0, cl_1, cl_2, cl_3, cl_4, cl_5, cl_6, cl_7, cl_8, cl_9, cl_10, cl_11, cl_12, cl_13, cl_14, cl_15, cl_16, cl_17, cl_18, cl_19, cl_20, cl_21, cl_22, cl_23, cl_24, cl_25, cl_26, cl_27, cl_28, cl_29, cl_30, cl_31, cl_32, cl_36, cl_40, cl_48, cl_60, cl_108, cl_120, cl_200, cl_201, cl_576, cl_600, cl_864, cl_900, cl_960, cl_5400, cl_8040, j2_0, iN_iZ, iN_lit0, iZ_add, iZ_sub, iZ_mul, iZ_neg, jZ_add, jZ_sub, jZ_mul, jZ_neg, isB0, isB1, isBZ, eq0, eq1, bZ0, vI_, vJ_, vA_, rI_, rJ_, rA_, rV_, nX_, tX_, true_and, and_true, false_and, and_false, and_self, implies_true, forall_const, not_true_eq_false, not_false_eq_true, false_implies, true_implies, ↓reduceIte, Nat.reduceEqDiff, Int.reduceToNat, Int.reduceAdd, Int.reduceSub, Int.reduceLT, Int.reduceLE, Int.reduceEq, Int.add_zero, Int.neg_zero, Int.add_sub_cancel, Int.reduceNeg, Nat.reduceLeDiff, Nat.reduceSub, true_or, or_true, false_or, or_false, setI_d, setJ_d, setP_d, mI_row, mJ_row, mP_row, mI_row_ne, mJ_row_ne, mP_row_ne, rowI_rowI, rowJ_rowJ, rowI_sort, rowJ_sort, rowJ_rowI, rowP_rowI, rowP_rowJ, fu_app, fu_fu, mI_rowJ, mI_rowP, mJ_rowI, mJ_rowP, mP_rowI, mP_rowJ, mK_rowI, mN_rowI, mK_rowJ, mN_rowJ, mK_rowP, mN_rowP, oB_rowI, oB_rowJ, iA_rowI, iA_rowJ, iR_rowI, iR_rowJ, St_rowI, St_rowJ]
  generalize hRR : kRows B n q 9 (-1) 0 b [] = RR
  have hR := hRR.symm
  refine loopN 9 (fun i ls M' => ∃ (y3 : AV) (last : Int) (b' : Nat) (rows : Rw), ls = [aR (some 95), aI (iZ last), aI (iZ i), y3] ∧ RWs M M' k c q hr wd rows ∧ TC M' B n b' ∧ rwO (-1) rows ∧ rwL (-1) rows = last ∧ rows.length = i ∧ last < 8 ∧ nFa rows ≤ 40 ∧ RR = kRows B n q (9 - i) last (nFa rows) b' rows) ⟨aU, -1, b, [], rfl, ⟨Fc_rfl, hV, h2, h4, hz, fun j y hy => (nil_get hy).elim, fun _ _ _ => rfl⟩, hT, trivial, rfl, rfl, by decide, Nat.zero_le _, hR⟩ ?_ ?_
  · intro i hi ls Mi ⟨y3, last, b', rows, hl, gW, gT, go, gl', glen, g8, g40, gR⟩ K
    subst hl
    obtain ⟨f, hf⟩ : ∃ f, 9 - i = f + 1 := ⟨9 - i - 1, by omega⟩
    have hf2 : 9 - (i + 1) = f := by omega
    rw [hf2] at K
    rw [hf] at gR
    unfold kRows at gR
    have gS := Fc_S gW.1 hS
    have gE := Fc_CE gW.1 hE
    have hlast := rwL_le rows (-1) go
    have hi' : ¬ (8 : Int) < i := by omega
    have e1 := c131 (G := G) (d := d + 3) hst gS gT
    refine wp1_go (n := 2000) ?_
    simp (disch := omega) only [wcQ, wcX, wcG, wcL, wcS, h179_4, w179_4, w179_5, w179_7, w179_10, w179_11, w179_14, toI, toJ, toI64, inb_T, inb_iZ, Int.toNat_natCast, cl_0, cl_1, cl_2, cl_3, cl_4, cl_5, cl_6, cl_7, cl_8, cl_9, cl_10, cl_11, cl_12, cl_13, cl_14, cl_15, cl_16, cl_17, cl_18, cl_19, cl_20, cl_21, cl_22, cl_23, cl_24, cl_25, cl_26, cl_27, cl_28, cl_29, cl_30, cl_31, cl_32, cl_36, cl_40, cl_48, cl_60, cl_108, cl_120, cl_200, cl_201, cl_576, cl_600, cl_864, cl_900, cl_960, cl_5400, cl_8040, j2_0, iN_iZ, iN_lit0, iZ_add, iZ_sub, iZ_mul, iZ_neg, jZ_add, jZ_sub, jZ_mul, jZ_neg, isB0, isB1, isBZ, eq0, eq1, bZ0, vI_, vJ_, vA_, rI_, rJ_, rA_, rV_, nX_, tX_, true_and, and_true, false_and, and_false, and_self, implies_true, forall_const, not_true_eq_false, not_false_eq_true, false_implies, true_implies, ↓reduceIte, Nat.reduceEqDiff, Int.reduceToNat, Int.reduceAdd, Int.reduceSub, Int.reduceLT, Int.reduceLE, Int.reduceEq, Int.add_zero, Int.neg_zero, Int.add_sub_cancel, Int.reduceNeg, Nat.reduceLeDiff, Nat.reduceSub, true_or, or_true, false_or, or_false, setI_d, setJ_d, setP_d, mI_row, mJ_row, mP_row, mI_row_ne, mJ_row_ne, mP_row_ne, rowI_rowI, rowJ_rowJ, rowI_sort, rowJ_sort, rowJ_rowI, rowP_rowI, rowP_rowJ, fu_app, fu_fu, mI_rowJ, mI_rowP, mJ_rowI, mJ_rowP, mP_rowI, mP_rowJ, mK_rowI, mN_rowI, mK_rowJ, mN_rowJ, mK_rowP, mN_rowP, oB_rowI, oB_rowJ, iA_rowI, iA_rowJ, iR_rowI, iR_rowJ, St_rowI, St_rowJ, hi', K95 gS, O95 gS, ce_p0 gE, O91 gS]
    refine kI0 e1 ?_
    by_cases w : nmP B n b'
    · rw [if_pos w] at gR
      have w' := eq_true w
      have e2 := c172 (G := G) (d := d + 1) (last := last) hst gS gE gT w (by omega) g8
      simp (disch := omega) only [wcQ, wcX, wcG, wcL, wcS, w179_17, w179_20, w179_21, w179_22, toI, toJ, toI64, inb_T, inb_iZ, Int.toNat_natCast, cl_0, cl_1, cl_2, cl_3, cl_4, cl_5, cl_6, cl_7, cl_8, cl_9, cl_10, cl_11, cl_12, cl_13, cl_14, cl_15, cl_16, cl_17, cl_18, cl_19, cl_20, cl_21, cl_22, cl_23, cl_24, cl_25, cl_26, cl_27, cl_28, cl_29, cl_30, cl_31, cl_32, cl_36, cl_40, cl_48, cl_60, cl_108, cl_120, cl_200, cl_201, cl_576, cl_600, cl_864, cl_900, cl_960, cl_5400, cl_8040, j2_0, iN_iZ, iN_lit0, iZ_add, iZ_sub, iZ_mul, iZ_neg, jZ_add, jZ_sub, jZ_mul, jZ_neg, isB0, isB1, isBZ, eq0, eq1, bZ0, vI_, vJ_, vA_, rI_, rJ_, rA_, rV_, nX_, tX_, true_and, and_true, false_and, and_false, and_self, implies_true, forall_const, not_true_eq_false, not_false_eq_true, false_implies, true_implies, ↓reduceIte, Nat.reduceEqDiff, Int.reduceToNat, Int.reduceAdd, Int.reduceSub, Int.reduceLT, Int.reduceLE, Int.reduceEq, Int.add_zero, Int.neg_zero, Int.add_sub_cancel, Int.reduceNeg, Nat.reduceLeDiff, Nat.reduceSub, true_or, or_true, false_or, or_false, setI_d, setJ_d, setP_d, mI_row, mJ_row, mP_row, mI_row_ne, mJ_row_ne, mP_row_ne, rowI_rowI, rowJ_rowJ, rowI_sort, rowJ_sort, rowJ_rowI, rowP_rowI, rowP_rowJ, fu_app, fu_fu, mI_rowJ, mI_rowP, mJ_rowI, mJ_rowP, mP_rowI, mP_rowJ, mK_rowI, mN_rowI, mK_rowJ, mN_rowJ, mK_rowP, mN_rowP, oB_rowI, oB_rowJ, iA_rowI, iA_rowJ, iR_rowI, iR_rowJ, St_rowI, St_rowJ, w', O95 gS]
      refine kI e2 (Nat.le_refl _) (fun v M1 hq => ?_) (fun e M' h => False.elim h)
      match hp' : kPt B n q last b' with
      | .inl (e, f') =>
        rw [QP_i hp'] at hq
        obtain ⟨rfl, rfl⟩ := hq
        unfold kRow at gR
        rw [hp'] at gR
        simp (disch := omega) only [wcQ, wcX, wcG, wcL, wcS, w179_25, w179_26, w179_27, w179_28, w179_39, w179_40, toI, toJ, toI64, inb_T, inb_iZ, Int.toNat_natCast, cl_0, cl_1, cl_2, cl_3, cl_4, cl_5, cl_6, cl_7, cl_8, cl_9, cl_10, cl_11, cl_12, cl_13, cl_14, cl_15, cl_16, cl_17, cl_18, cl_19, cl_20, cl_21, cl_22, cl_23, cl_24, cl_25, cl_26, cl_27, cl_28, cl_29, cl_30, cl_31, cl_32, cl_36, cl_40, cl_48, cl_60, cl_108, cl_120, cl_200, cl_201, cl_576, cl_600, cl_864, cl_900, cl_960, cl_5400, cl_8040, j2_0, iN_iZ, iN_lit0, iZ_add, iZ_sub, iZ_mul, iZ_neg, jZ_add, jZ_sub, jZ_mul, jZ_neg, isB0, isB1, isBZ, eq0, eq1, bZ0, vI_, vJ_, vA_, rI_, rJ_, rA_, rV_, nX_, tX_, true_and, and_true, false_and, and_false, and_self, implies_true, forall_const, not_true_eq_false, not_false_eq_true, false_implies, true_implies, ↓reduceIte, Nat.reduceEqDiff, Int.reduceToNat, Int.reduceAdd, Int.reduceSub, Int.reduceLT, Int.reduceLE, Int.reduceEq, Int.add_zero, Int.neg_zero, Int.add_sub_cancel, Int.reduceNeg, Nat.reduceLeDiff, Nat.reduceSub, true_or, or_true, false_or, or_false, setI_d, setJ_d, setP_d, mI_row, mJ_row, mP_row, mI_row_ne, mJ_row_ne, mP_row_ne, rowI_rowI, rowJ_rowJ, rowI_sort, rowJ_sort, rowJ_rowI, rowP_rowI, rowP_rowJ, fu_app, fu_fu, mI_rowJ, mI_rowP, mJ_rowI, mJ_rowP, mP_rowI, mP_rowJ, mK_rowI, mN_rowI, mK_rowJ, mN_rowJ, mK_rowP, mN_rowP, oB_rowI, oB_rowJ, iA_rowI, iA_rowJ, iR_rowI, iR_rowJ, St_rowI, St_rowJ]
        rw [QRs_i gR]
        exact ⟨rfl, Fc_tr gW.1 Fc_rf, rf_2, rf_3⟩
      | .inr (b2, p2) =>
        rw [QP_r hp'] at hq
        obtain ⟨rfl, hM1⟩ := hq
        have kp := kPt_r hp' (by omega)
        unfold kRow at gR
        rw [hp'] at gR
        have hbn : b' < n := tk_lt (B := B) (by have := w.1; omega)
        have nb := nxT_b (B := B) (n := n) (b := b')
        have W1 : RWs M M1 k c q hr wd rows := by rw [hM1]; exact RWs_91 k1 c1 (by unfold tR fu; simp) (by unfold tR fu; simp) gW
        have T1 : TC M1 B n b2 := by rw [hM1, kp.2.2]; exact TC_st gT.1 (nb.2.1 (by omega))
        clear hM1
        have S1 := Fc_S W1.1 hS
        have E1 := Fc_CE W1.1 hE
        have ab := acR_b (q := q) (hr := hr) (wd := wd) hv rows
        have lb := rwL_len rows (-1) go
        have e3 := c178 (G := G) (d := d + 1) (p := p2) (cnt := nFa rows) (tot := (acR q hr wd rows).2.1) hst S1 E1 T1 kp.2.1 W1.2.1 W1.2.2.1 W1.2.2.2.1 g40 ab.1.1 (by omega)
        have hne : ¬ (p2 : Int) = -1 := by omega
        simp (disch := omega) only [wcQ, wcX, wcG, wcL, wcS, w179_25, w179_26, w179_27, w179_28, w179_31, w179_32, w179_33, toI, toJ, toI64, inb_T, inb_iZ, Int.toNat_natCast, cl_0, cl_1, cl_2, cl_3, cl_4, cl_5, cl_6, cl_7, cl_8, cl_9, cl_10, cl_11, cl_12, cl_13, cl_14, cl_15, cl_16, cl_17, cl_18, cl_19, cl_20, cl_21, cl_22, cl_23, cl_24, cl_25, cl_26, cl_27, cl_28, cl_29, cl_30, cl_31, cl_32, cl_36, cl_40, cl_48, cl_60, cl_108, cl_120, cl_200, cl_201, cl_576, cl_600, cl_864, cl_900, cl_960, cl_5400, cl_8040, j2_0, iN_iZ, iN_lit0, iZ_add, iZ_sub, iZ_mul, iZ_neg, jZ_add, jZ_sub, jZ_mul, jZ_neg, isB0, isB1, isBZ, eq0, eq1, bZ0, vI_, vJ_, vA_, rI_, rJ_, rA_, rV_, nX_, tX_, true_and, and_true, false_and, and_false, and_self, implies_true, forall_const, not_true_eq_false, not_false_eq_true, false_implies, true_implies, ↓reduceIte, Nat.reduceEqDiff, Int.reduceToNat, Int.reduceAdd, Int.reduceSub, Int.reduceLT, Int.reduceLE, Int.reduceEq, Int.add_zero, Int.neg_zero, Int.add_sub_cancel, Int.reduceNeg, Nat.reduceLeDiff, Nat.reduceSub, true_or, or_true, false_or, or_false, setI_d, setJ_d, setP_d, mI_row, mJ_row, mP_row, mI_row_ne, mJ_row_ne, mP_row_ne, rowI_rowI, rowJ_rowJ, rowI_sort, rowJ_sort, rowJ_rowI, rowP_rowI, rowP_rowJ, fu_app, fu_fu, mI_rowJ, mI_rowP, mJ_rowI, mJ_rowP, mP_rowI, mP_rowJ, mK_rowI, mN_rowI, mK_rowJ, mN_rowJ, mK_rowP, mN_rowP, oB_rowI, oB_rowJ, iA_rowI, iA_rowJ, iR_rowI, iR_rowJ, St_rowI, St_rowJ, hne, O95 S1]
        refine kI e3 (Nat.le_refl _) (fun v M2 hq => ?_) (fun e M' h => False.elim h)
        match hf' : kFr B n q (nFa rows) b2 with
        | .inl (e, f') =>
          rw [QRw_i hf'] at hq
          obtain ⟨rfl, F2, q2, q3⟩ := hq
          simp only [hf'] at gR
          simp (disch := omega) only [wcQ, wcX, wcG, wcL, wcS, w179_36, w179_39, w179_40, toI, toJ, toI64, inb_T, inb_iZ, Int.toNat_natCast, cl_0, cl_1, cl_2, cl_3, cl_4, cl_5, cl_6, cl_7, cl_8, cl_9, cl_10, cl_11, cl_12, cl_13, cl_14, cl_15, cl_16, cl_17, cl_18, cl_19, cl_20, cl_21, cl_22, cl_23, cl_24, cl_25, cl_26, cl_27, cl_28, cl_29, cl_30, cl_31, cl_32, cl_36, cl_40, cl_48, cl_60, cl_108, cl_120, cl_200, cl_201, cl_576, cl_600, cl_864, cl_900, cl_960, cl_5400, cl_8040, j2_0, iN_iZ, iN_lit0, iZ_add, iZ_sub, iZ_mul, iZ_neg, jZ_add, jZ_sub, jZ_mul, jZ_neg, isB0, isB1, isBZ, eq0, eq1, bZ0, vI_, vJ_, vA_, rI_, rJ_, rA_, rV_, nX_, tX_, true_and, and_true, false_and, and_false, and_self, implies_true, forall_const, not_true_eq_false, not_false_eq_true, false_implies, true_implies, ↓reduceIte, Nat.reduceEqDiff, Int.reduceToNat, Int.reduceAdd, Int.reduceSub, Int.reduceLT, Int.reduceLE, Int.reduceEq, Int.add_zero, Int.neg_zero, Int.add_sub_cancel, Int.reduceNeg, Nat.reduceLeDiff, Nat.reduceSub, true_or, or_true, false_or, or_false, setI_d, setJ_d, setP_d, mI_row, mJ_row, mP_row, mI_row_ne, mJ_row_ne, mP_row_ne, rowI_rowI, rowJ_rowJ, rowI_sort, rowJ_sort, rowJ_rowI, rowP_rowI, rowP_rowJ, fu_app, fu_fu, mI_rowJ, mI_rowP, mJ_rowI, mJ_rowP, mP_rowI, mP_rowJ, mK_rowI, mN_rowI, mK_rowJ, mN_rowJ, mK_rowP, mN_rowP, oB_rowI, oB_rowJ, iA_rowI, iA_rowJ, iR_rowI, iR_rowJ, St_rowI, St_rowJ]
          rw [QRs_i gR]
          exact ⟨rfl, Fc_tr W1.1 F2, q2, q3⟩
        | .inr (b3, l) =>
          rw [QRw_r hf'] at hq
          obtain ⟨rfl, q40, T2, R2⟩ := hq
          simp only [hf'] at gR
          simp (disch := omega) only [wcQ, wcX, wcG, wcL, wcS, h179_4, w179_4, w179_36, w179_41, w179_42, w179_43, w179_46, toI, toJ, toI64, inb_T, inb_iZ, Int.toNat_natCast, cl_0, cl_1, cl_2, cl_3, cl_4, cl_5, cl_6, cl_7, cl_8, cl_9, cl_10, cl_11, cl_12, cl_13, cl_14, cl_15, cl_16, cl_17, cl_18, cl_19, cl_20, cl_21, cl_22, cl_23, cl_24, cl_25, cl_26, cl_27, cl_28, cl_29, cl_30, cl_31, cl_32, cl_36, cl_40, cl_48, cl_60, cl_108, cl_120, cl_200, cl_201, cl_576, cl_600, cl_864, cl_900, cl_960, cl_5400, cl_8040, j2_0, iN_iZ, iN_lit0, iZ_add, iZ_sub, iZ_mul, iZ_neg, jZ_add, jZ_sub, jZ_mul, jZ_neg, isB0, isB1, isBZ, eq0, eq1, bZ0, vI_, vJ_, vA_, rI_, rJ_, rA_, rV_, nX_, tX_, true_and, and_true, false_and, and_false, and_self, implies_true, forall_const, not_true_eq_false, not_false_eq_true, false_implies, true_implies, ↓reduceIte, Nat.reduceEqDiff, Int.reduceToNat, Int.reduceAdd, Int.reduceSub, Int.reduceLT, Int.reduceLE, Int.reduceEq, Int.add_zero, Int.neg_zero, Int.add_sub_cancel, Int.reduceNeg, Nat.reduceLeDiff, Nat.reduceSub, true_or, or_true, false_or, or_false, setI_d, setJ_d, setP_d, mI_row, mJ_row, mP_row, mI_row_ne, mJ_row_ne, mP_row_ne, rowI_rowI, rowJ_rowJ, rowI_sort, rowJ_sort, rowJ_rowI, rowP_rowI, rowP_rowJ, fu_app, fu_fu, mI_rowJ, mI_rowP, mJ_rowI, mJ_rowP, mP_rowI, mP_rowJ, mK_rowI, mN_rowI, mK_rowJ, mN_rowJ, mK_rowP, mN_rowP, oB_rowI, oB_rowJ, iA_rowI, iA_rowJ, iR_rowI, iR_rowJ, St_rowI, St_rowJ]
          refine K _ _ ⟨_, p2, b3, rows ++ [(p2, l)], rfl, RWs_RW W1 R2 go (by rw [gl']; exact kp.1), T2, rwO_app rows (-1) go (by rw [gl']; exact kp.1), rwL_app rows (-1), by rw [List.length_append, glen]; rfl, by omega, by rw [nFa_app]; exact q40, ?_⟩
          rw [nFa_app]
          exact gR
    · rw [if_neg w] at gR
      have w' := eq_false w
      simp (disch := omega) only [wcQ, wcX, wcG, wcL, wcS, w179_17, w179_49, w179_50, toI, toJ, toI64, inb_T, inb_iZ, Int.toNat_natCast, cl_0, cl_1, cl_2, cl_3, cl_4, cl_5, cl_6, cl_7, cl_8, cl_9, cl_10, cl_11, cl_12, cl_13, cl_14, cl_15, cl_16, cl_17, cl_18, cl_19, cl_20, cl_21, cl_22, cl_23, cl_24, cl_25, cl_26, cl_27, cl_28, cl_29, cl_30, cl_31, cl_32, cl_36, cl_40, cl_48, cl_60, cl_108, cl_120, cl_200, cl_201, cl_576, cl_600, cl_864, cl_900, cl_960, cl_5400, cl_8040, j2_0, iN_iZ, iN_lit0, iZ_add, iZ_sub, iZ_mul, iZ_neg, jZ_add, jZ_sub, jZ_mul, jZ_neg, isB0, isB1, isBZ, eq0, eq1, bZ0, vI_, vJ_, vA_, rI_, rJ_, rA_, rV_, nX_, tX_, true_and, and_true, false_and, and_false, and_self, implies_true, forall_const, not_true_eq_false, not_false_eq_true, false_implies, true_implies, ↓reduceIte, Nat.reduceEqDiff, Int.reduceToNat, Int.reduceAdd, Int.reduceSub, Int.reduceLT, Int.reduceLE, Int.reduceEq, Int.add_zero, Int.neg_zero, Int.add_sub_cancel, Int.reduceNeg, Nat.reduceLeDiff, Nat.reduceSub, true_or, or_true, false_or, or_false, setI_d, setJ_d, setP_d, mI_row, mJ_row, mP_row, mI_row_ne, mJ_row_ne, mP_row_ne, rowI_rowI, rowJ_rowJ, rowI_sort, rowJ_sort, rowJ_rowI, rowP_rowI, rowP_rowJ, fu_app, fu_fu, mI_rowJ, mI_rowP, mJ_rowI, mJ_rowP, mP_rowI, mP_rowJ, mK_rowI, mN_rowI, mK_rowJ, mN_rowJ, mK_rowP, mN_rowP, oB_rowI, oB_rowJ, iA_rowI, iA_rowJ, iR_rowI, iR_rowJ, St_rowI, St_rowJ, w']
      rw [QRs_r gR]
      exact ⟨rfl, gT, gW⟩
  · intro ls Mi ⟨y3, last, b', rows, hl, gW, gT, go, gl', glen, g8, g40, gR⟩
    have := rwL_len rows (-1) go
    omega
theorem c180 (hst : (gl G).stackTraces = false) (hS : Static M) (hE : CE M k N s a c q hr wd) (ht : mI M c 1 = iZ tim) (t1 : 0 ≤ tim) (t2 : tim ≤ 99999) : Ev G (d + 1) 180 [aR (some 95)] M 0 (vI (bZ (bL q ≠ -1 ∧ bL q < tim)) M) nX := by
  have hL := hE.2.1.2.2.2.2.2.1
  obtain ⟨l1, l2, l3⟩ := hL
  have key : ∀ Q : QR, (Q (some (aI (bZ (bL q ≠ -1 ∧ bL q < tim)))) M) → Ev G (d + 1) 180 [aR (some 95)] M 0 Q nX := by
    intro Q hQ
    by_cases h1 : bL q = -1
    · rw [show bZ (bL q ≠ -1 ∧ bL q < tim) = iZ 0 from if_neg (fun z => z.1 h1)] at hQ
      refine Ev_wp 2000 hst (by decide) (Nat.le_of_ble_eq_true rfl) ?_; simp (disch := omega) only [en180, wcQ, wcX, wcG, wcL, wcS, w180_0, w180_1, w180_4, w180_7, w180_8, w180_11, w180_12, w180_15, w180_18, w180_19, w180_22, w180_25, w180_28, w180_29, w180_32, w180_33, toI, toJ, toI64, inb_T, inb_iZ, Int.toNat_natCast, cl_0, cl_1, cl_2, cl_3, cl_4, cl_5, cl_6, cl_7, cl_8, cl_9, cl_10, cl_11, cl_12, cl_13, cl_14, cl_15, cl_16, cl_17, cl_18, cl_19, cl_20, cl_21, cl_22, cl_23, cl_24, cl_25, cl_26, cl_27, cl_28, cl_29, cl_30, cl_31, cl_32, cl_36, cl_40, cl_48, cl_60, cl_108, cl_120, cl_200, cl_201, cl_576, cl_600, cl_864, cl_900, cl_960, cl_5400, cl_8040, j2_0, iN_iZ, iN_lit0, iZ_add, iZ_sub, iZ_mul, iZ_neg, jZ_add, jZ_sub, jZ_mul, jZ_neg, isB0, isB1, isBZ, eq0, eq1, bZ0, vI_, vJ_, vA_, rI_, rJ_, rA_, rV_, nX_, tX_, true_and, and_true, false_and, and_false, and_self, implies_true, forall_const, not_true_eq_false, not_false_eq_true, false_implies, true_implies, ↓reduceIte, Nat.reduceEqDiff, Int.reduceToNat, Int.reduceAdd, Int.reduceSub, Int.reduceLT, Int.reduceLE, Int.reduceEq, Int.add_zero, Int.neg_zero, Int.add_sub_cancel, Int.reduceNeg, Nat.reduceLeDiff, Nat.reduceSub, true_or, or_true, false_or, or_false, setI_d, setJ_d, setP_d, mI_row, mJ_row, mP_row, mI_row_ne, mJ_row_ne, mP_row_ne, rowI_rowI, rowJ_rowJ, rowI_sort, rowJ_sort, rowJ_rowI, rowP_rowI, rowP_rowJ, fu_app, fu_fu, mI_rowJ, mI_rowP, mJ_rowI, mJ_rowP, mP_rowI, mP_rowJ, mK_rowI, mN_rowI, mK_rowJ, mN_rowJ, mK_rowP, mN_rowP, oB_rowI, oB_rowJ, iA_rowI, iA_rowJ, iR_rowI, iR_rowJ, St_rowI, St_rowJ, K95 hS, O95 hS, P95_5 hS, ce_p1 hE, bk_o hE.1, l1, h1]
      exact hQ
    · by_cases h2 : bL q < tim
      · rw [show bZ (bL q ≠ -1 ∧ bL q < tim) = iZ 1 from if_pos ⟨h1, h2⟩] at hQ
        refine Ev_wp 2000 hst (by decide) (Nat.le_of_ble_eq_true rfl) ?_; simp (disch := omega) only [en180, wcQ, wcX, wcG, wcL, wcS, w180_0, w180_1, w180_4, w180_7, w180_8, w180_11, w180_12, w180_15, w180_18, w180_19, w180_22, w180_25, w180_28, w180_29, w180_32, w180_33, toI, toJ, toI64, inb_T, inb_iZ, Int.toNat_natCast, cl_0, cl_1, cl_2, cl_3, cl_4, cl_5, cl_6, cl_7, cl_8, cl_9, cl_10, cl_11, cl_12, cl_13, cl_14, cl_15, cl_16, cl_17, cl_18, cl_19, cl_20, cl_21, cl_22, cl_23, cl_24, cl_25, cl_26, cl_27, cl_28, cl_29, cl_30, cl_31, cl_32, cl_36, cl_40, cl_48, cl_60, cl_108, cl_120, cl_200, cl_201, cl_576, cl_600, cl_864, cl_900, cl_960, cl_5400, cl_8040, j2_0, iN_iZ, iN_lit0, iZ_add, iZ_sub, iZ_mul, iZ_neg, jZ_add, jZ_sub, jZ_mul, jZ_neg, isB0, isB1, isBZ, eq0, eq1, bZ0, vI_, vJ_, vA_, rI_, rJ_, rA_, rV_, nX_, tX_, true_and, and_true, false_and, and_false, and_self, implies_true, forall_const, not_true_eq_false, not_false_eq_true, false_implies, true_implies, ↓reduceIte, Nat.reduceEqDiff, Int.reduceToNat, Int.reduceAdd, Int.reduceSub, Int.reduceLT, Int.reduceLE, Int.reduceEq, Int.add_zero, Int.neg_zero, Int.add_sub_cancel, Int.reduceNeg, Nat.reduceLeDiff, Nat.reduceSub, true_or, or_true, false_or, or_false, setI_d, setJ_d, setP_d, mI_row, mJ_row, mP_row, mI_row_ne, mJ_row_ne, mP_row_ne, rowI_rowI, rowJ_rowJ, rowI_sort, rowJ_sort, rowJ_rowI, rowP_rowI, rowP_rowJ, fu_app, fu_fu, mI_rowJ, mI_rowP, mJ_rowI, mJ_rowP, mP_rowI, mP_rowJ, mK_rowI, mN_rowI, mK_rowJ, mN_rowJ, mK_rowP, mN_rowP, oB_rowI, oB_rowJ, iA_rowI, iA_rowJ, iR_rowI, iR_rowJ, St_rowI, St_rowJ, K95 hS, O95 hS, P95_5 hS, ce_p1 hE, ce_p3 hE, ce_oc hE, bk_o hE.1, l1, h1, ht, h2]
        exact hQ
      · rw [show bZ (bL q ≠ -1 ∧ bL q < tim) = iZ 0 from if_neg (fun z => h2 z.2)] at hQ
        refine Ev_wp 2000 hst (by decide) (Nat.le_of_ble_eq_true rfl) ?_; simp (disch := omega) only [en180, wcQ, wcX, wcG, wcL, wcS, w180_0, w180_1, w180_4, w180_7, w180_8, w180_11, w180_12, w180_15, w180_18, w180_19, w180_22, w180_25, w180_28, w180_29, w180_32, w180_33, toI, toJ, toI64, inb_T, inb_iZ, Int.toNat_natCast, cl_0, cl_1, cl_2, cl_3, cl_4, cl_5, cl_6, cl_7, cl_8, cl_9, cl_10, cl_11, cl_12, cl_13, cl_14, cl_15, cl_16, cl_17, cl_18, cl_19, cl_20, cl_21, cl_22, cl_23, cl_24, cl_25, cl_26, cl_27, cl_28, cl_29, cl_30, cl_31, cl_32, cl_36, cl_40, cl_48, cl_60, cl_108, cl_120, cl_200, cl_201, cl_576, cl_600, cl_864, cl_900, cl_960, cl_5400, cl_8040, j2_0, iN_iZ, iN_lit0, iZ_add, iZ_sub, iZ_mul, iZ_neg, jZ_add, jZ_sub, jZ_mul, jZ_neg, isB0, isB1, isBZ, eq0, eq1, bZ0, vI_, vJ_, vA_, rI_, rJ_, rA_, rV_, nX_, tX_, true_and, and_true, false_and, and_false, and_self, implies_true, forall_const, not_true_eq_false, not_false_eq_true, false_implies, true_implies, ↓reduceIte, Nat.reduceEqDiff, Int.reduceToNat, Int.reduceAdd, Int.reduceSub, Int.reduceLT, Int.reduceLE, Int.reduceEq, Int.add_zero, Int.neg_zero, Int.add_sub_cancel, Int.reduceNeg, Nat.reduceLeDiff, Nat.reduceSub, true_or, or_true, false_or, or_false, setI_d, setJ_d, setP_d, mI_row, mJ_row, mP_row, mI_row_ne, mJ_row_ne, mP_row_ne, rowI_rowI, rowJ_rowJ, rowI_sort, rowJ_sort, rowJ_rowI, rowP_rowI, rowP_rowJ, fu_app, fu_fu, mI_rowJ, mI_rowP, mJ_rowI, mJ_rowP, mP_rowI, mP_rowJ, mK_rowI, mN_rowI, mK_rowJ, mN_rowJ, mK_rowP, mN_rowP, oB_rowI, oB_rowJ, iA_rowI, iA_rowJ, iR_rowI, iR_rowJ, St_rowI, St_rowJ, K95 hS, O95 hS, P95_5 hS, ce_p1 hE, ce_p3 hE, ce_oc hE, bk_o hE.1, l1, h1, ht, h2]
        exact hQ
  exact key _ ⟨_, rfl, rfl, rfl⟩
end

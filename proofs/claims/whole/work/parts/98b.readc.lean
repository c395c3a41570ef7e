/-! CARDS: the whole reader; the class's side. -/
section
variable {G : GE} {d : Nat} {M M' M'' : Mem} {B : Nat → Nat} {n b k s N a c w cnt p : Nat} {q : Bk} {hr wd x lf tot tim : Int} {tm : Nat → Nat}
theorem St_set {a i : Nat} {v : Option Nat} (h : ∀ q, q ∈ spL → ¬ (q.1 = a ∧ q.2.1 = i)) (hS : Static M) : Static (rowP M a (fu (mP M a) i v)) := by
  refine ⟨hS.1, hS.2.1, fun q hq => ?_⟩
  by_cases z : q.1 = a
  · rw [z, mP_row]
    unfold fu
    rw [if_neg (fun y => h q hq ⟨z, y⟩), ← z]
    exact hS.2.2 q hq
  · rw [mP_row_ne z]; exact hS.2.2 q hq
theorem sp95 {i : Nat} (h : i < 4) : ∀ q, q ∈ spL → ¬ (q.1 = 95 ∧ q.2.1 = i) := by
  have s : ∀ q ∈ spL, q.1 = 95 → 4 ≤ q.2.1 := by decide +kernel
  intro q hq ⟨h1, h2⟩
  have := s q hq h1
  omega
/-- a card's object: what was told, what was made of it -/
def CO (M : Mem) (c : Nat) (q : Bk) (hr wd : Int) (rows : Rw) (t : Int) (re : Bool) : Prop :=
  CK M c ∧ mI M c 1 = iZ t ∧ mI M c 2 = iZ (acR q hr wd rows).2.1 ∧ ((mI M c 3 = iZ 1 ∧ outN q hr wd (acR q hr wd rows).2.1 t re) ∨ (mI M c 3 = iZ 0 ∧ ¬ outN q hr wd (acR q hr wd rows).2.1 t re)) ∧ mI M c 4 = iZ (nFa rows) ∧ (∀ j, j < 8 → mI M (c + 2) j = iZ ((acR q hr wd rows).1 j)) ∧ ∀ j y, (acR q hr wd rows).2.2[j]? = some y → mI M (c + 1) j = iZ y
theorem rowP_rowP {f g : Nat → Option Nat} : rowP (rowP M a f) a g = rowP M a g := by
  unfold rowP; simp only [fu_fu]
theorem crM_old (hN : mN M = c + 1) {y : Nat} (hy : y < c) : mI (crM M c) y = mI M y ∧ mJ (crM M c) y = mJ M y ∧ mP (crM M c) y = mP M y ∧ mK (crM M c) y = mK M y := by
  unfold crM
  have hN1 : mN (setP (newC M 20 40) c 5 (some (c + 1))) = c + 2 := by show mN M + 1 = _; rw [hN]
  refine ⟨?_, ?_, ?_, ?_⟩
  · show mI (newC _ 20 8) y = _
    rw [mI_new_ne (by omega)]
    show mI (newC M 20 40) y = _
    rw [mI_new_ne (by omega)]
  · show mJ (newC _ 20 8) y = _
    rw [mJ_new_ne (by omega)]
    show mJ (newC M 20 40) y = _
    rw [mJ_new_ne (by omega)]
  · rw [setP_d, mP_row_ne (by omega), mP_new_ne (by omega), setP_d, mP_row_ne (by omega), mP_new_ne (by omega)]
  · show mK (newC _ 20 8) y = _
    rw [mK_new_ne (by omega)]
    show mK (newC M 20 40) y = _
    rw [mK_new_ne (by omega)]
theorem crM_new (hN : mN M = c + 1) : mN (crM M c) = c + 3 ∧ mK (crM M c) c = mK M c ∧ mK (crM M c) (c + 1) = (20, 40) ∧ mK (crM M c) (c + 2) = (20, 8) ∧ mP (crM M c) c 5 = some (c + 1) ∧ mP (crM M c) c 6 = some (c + 2) ∧ mP (crM M c) c 7 = mP M c 7 ∧ mI (crM M c) c = mI M c ∧ (∀ j, mI (crM M c) (c + 1) j = 0) ∧ ∀ j, mI (crM M c) (c + 2) j = 0 := by
  unfold crM
  have hN1 : mN (setP (newC M 20 40) c 5 (some (c + 1))) = c + 2 := by show mN M + 1 = _; rw [hN]
  refine ⟨?_, ?_, ?_, ?_, ?_, ?_, ?_, ?_, fun j => ?_, fun j => ?_⟩
  · show mN (setP (newC M 20 40) c 5 (some (c + 1))) + 1 = _; rw [hN1]
  · show mK (newC _ 20 8) c = _
    rw [mK_new_ne (by omega)]
    show mK (newC M 20 40) c = _
    rw [mK_new_ne (by omega)]
  · show mK (newC _ 20 8) (c + 1) = _
    rw [mK_new_ne (by omega)]
    show mK (newC M 20 40) (c + 1) = _
    rw [← hN, mK_newC]
  · show mK (newC _ 20 8) (c + 2) = _
    rw [← hN1, mK_newC]
  · rw [setP_d, mP_row]
    show (if (5 : Nat) = 6 then _ else mP (newC _ 20 8) c 5) = _
    rw [if_neg (by decide), mP_new_ne (by omega), setP_d, mP_row]
    exact if_pos rfl
  · rw [setP_d, mP_row]; exact if_pos rfl
  · rw [setP_d, mP_row]
    show (if (7 : Nat) = 6 then _ else mP (newC _ 20 8) c 7) = _
    rw [if_neg (by decide), mP_new_ne (by omega), setP_d, mP_row]
    show (if (7 : Nat) = 5 then _ else mP (newC M 20 40) c 7) = _
    rw [if_neg (by decide), mP_new_ne (by omega)]
  · show mI (newC _ 20 8) c = _
    rw [mI_new_ne (by omega)]
    show mI (newC M 20 40) c = _
    rw [mI_new_ne (by omega)]
  · show mI (newC _ 20 8) (c + 1) j = _
    rw [mI_new_ne (by omega)]
    show mI (newC M 20 40) (c + 1) j = _
    rw [← hN, mI_newC]
  · show mI (newC _ 20 8) (c + 2) j = _
    rw [← hN1, mI_newC]
/-- but for the reader's cells and what is new all is as it was -/
def FF (M M' : Mem) (k c : Nat) : Prop := Static M' ∧ mN M' = c + 3 ∧ mI M' 91 0 = mI M 91 0 ∧ ∀ y, y < c → mK M' y = mK M y ∧ mJ M' y = mJ M y ∧ (y ≠ 95 → mP M' y = mP M y) ∧ (y ≠ 91 → y ≠ 95 → y ≠ 96 → y ≠ k + 8 → y ≠ k + 9 → mI M' y = mI M y)
theorem FF_Fc (h : FF M M' k c) (h' : Fc M' M'' k c) : FF M M'' k c := by
  obtain ⟨a1, a2, a3, a4⟩ := h
  have S := Fc_S h' a1
  obtain ⟨b1, b2, b3, b4, b5, b6, b7⟩ := h'
  refine ⟨S, b2.trans a2, b6.trans a3, fun y hy => ?_⟩
  obtain ⟨e1, e2, e3, e4⟩ := a4 y hy
  rw [b1, b3, b4]
  exact ⟨e1, e2, e3, fun h1 h2 h3 h4 h5 => (b5 y h1 h2 h3 h4 h5 (Or.inl hy)).trans (e4 h1 h2 h3 h4 h5)⟩
def QC (M : Mem) (k c : Nat) (q : Bk) (hr wd : Int) (r : (Nat × Nat) ⊕ (Rw × Int × Bool)) (v : Option Nat) (M' : Mem) : Prop := FF M M' k c ∧ match r with
  | .inl (e, p) => v = none ∧ mI M' 91 2 = iZ e ∧ mI M' 91 3 = iZ p
  | .inr (rows, t, re) => v = some c ∧ mI M' 91 2 = iZ 0 ∧ mI M' 91 3 = iZ (-1) ∧ CO M' c q hr wd rows t re ∧ mP M' c 7 = none
theorem QC_i {r : (Nat × Nat) ⊕ (Rw × Int × Bool)} {e p : Nat} {v : Option Nat} (h : r = .inl (e, p)) : QC M k c q hr wd r v M' = (FF M M' k c ∧ v = none ∧ mI M' 91 2 = iZ e ∧ mI M' 91 3 = iZ p) := by rw [h]; rfl
theorem QC_r {r : (Nat × Nat) ⊕ (Rw × Int × Bool)} {rows : Rw} {t : Int} {re : Bool} {v : Option Nat} (h : r = .inr (rows, t, re)) : QC M k c q hr wd r v M' = (FF M M' k c ∧ v = some c ∧ mI M' 91 2 = iZ 0 ∧ mI M' 91 3 = iZ (-1) ∧ CO M' c q hr wd rows t re ∧ mP M' c 7 = none) := by rw [h]; rfl
/-- the card so far: rows and time -/
def CT (M M' : Mem) (k c : Nat) (q : Bk) (hr wd : Int) (rows : Rw) (t : Int) : Prop :=
  Fc M M' k c ∧ mI M' c 1 = iZ t ∧ mI M' c 2 = iZ (acR q hr wd rows).2.1 ∧ mI M' c 4 = iZ (nFa rows) ∧ (∀ j, j < 8 → mI M' (c + 2) j = iZ ((acR q hr wd rows).1 j)) ∧ ∀ j y, (acR q hr wd rows).2.2[j]? = some y → mI M' (c + 1) j = iZ y
theorem CT_fr {rows : Rw} {t : Int} (h : CT M M' k c q hr wd rows t) (h' : Fc M' M'' k c) (h1 : ∀ y, c ≤ y → mI M'' y = mI M' y) : CT M M'' k c q hr wd rows t := by
  obtain ⟨a1, a2, a3, a4, a5, a6⟩ := h
  unfold CT
  rw [h1 c (Nat.le_refl _), h1 (c + 1) (by omega), h1 (c + 2) (by omega)]
  exact ⟨Fc_tr a1 h', a2, a3, a4, a5, a6⟩
/-- behind the sign of 'retired', or without it -/
theorem c182r (hst : (gl G).stackTraces = false) {M0 : Mem} (hS : Static M) (hE : CE M k N s a c q hr wd) (hF : FF M0 M k c) (h7 : mP M c 7 = none) {R : (Nat × Nat) ⊕ (Rw × Int × Bool)} {Mi : Mem} {rows : Rw} {t : Int} {re : Bool} {x1 x2 x3 : Option Nat} (hT : TC Mi B n b) (hC : CT M Mi k c q hr wd rows t) (t1 : 0 ≤ t) (t2 : t ≤ 99999) (hR : R = if tkd B n b = 0 then .inr (rows, t, re) else .inl (1, b)) : ∀ m, wp (WCo G (d + 11) 182 (rA fun v M' => QC M0 k c q hr wd R v M') nX) 182 (m + 300) 146 [aR (some 95), aR x1, aR x2, aR x3, aI (if re then iZ 1 else iZ 0)] [] Mi 0 := by
  intro m
  have Si := Fc_S hC.1 hS
  have Ei := Fc_CE hC.1 hE
  have k1 := ce_k hE
  obtain ⟨c1, ck⟩ := ce_c hE
  have g1 := hT.2.2.1
  have tb := tkd_b (B := B) (n := n) (b := b)
  have r1 := c130 (G := G) (d := d + 10) (k := 1) hst Si hT
  by_cases h0 : tkd B n b = 0
  · rw [if_pos h0] at hR
    obtain ⟨e1, e2, e3, e4, e5, e6⟩ := id hC
    -- what the card is then
    have fin : ∀ M2, Fc Mi M2 k c → mI M2 91 = mI Mi 91 → (∀ y, c ≤ y → mI M2 y = mI Mi y) → ∀ o : Int32, ((o = iZ 1 ∧ outN q hr wd (acR q hr wd rows).2.1 t re) ∨ (o = iZ 0 ∧ ¬ outN q hr wd (acR q hr wd rows).2.1 t re)) → QC M0 k c q hr wd R (some c) (rowI M2 c (fu (mI M2 c) 3 o)) := by
      intro M2 F2 I91 I2 o ho
      have E2 := Fc_CE F2 Ei
      have hck := E2.2.2.2.2.1
      rw [QC_r hR]
      have F3 : Fc M (rowI M2 c (fu (mI M2 c) 3 o)) k c := Fc_tr hC.1 (Fc_tr F2 (Fc_row (by omega) k1 c1))
      refine ⟨FF_Fc hF F3, rfl, ?_, ?_, ⟨?_, ?_, ?_, ?_, ?_, ?_, ?_⟩, ?_⟩
      · rw [mI_row_ne (by omega), I91]; exact hT.1.2.2.2.1
      · rw [mI_row_ne (by omega), I91]; exact hT.1.2.2.2.2
      · exact hck
      · rw [mI_row, I2 c (Nat.le_refl _)]; exact e2
      · rw [mI_row, I2 c (Nat.le_refl _)]; exact e3
      · rw [mI_row]; exact ho
      · rw [mI_row, I2 c (Nat.le_refl _)]; exact e4
      · rw [mI_row_ne (by omega), I2 _ (by omega)]; exact e5
      · rw [mI_row_ne (by omega), I2 _ (by omega)]; exact e6
      · rw [F3.2.2.1]; exact h7
    have fin0 := fin Mi Fc_rfl rfl (fun _ _ => rfl)
    cases re with
    | true =>
      have hh := fin0 (iZ 1) (Or.inl ⟨rfl, Or.inl rfl⟩)
      simp (disch := omega) only [wcQ, wcX, wcG, wcL, wcS, w182_146, w182_147, w182_150, w182_153, w182_167, w182_168, w182_171, w182_173, w182_190, w182_191, w182_194, w182_195, w182_198, w182_199, w182_202, toI, toJ, toI64, inb_T, inb_iZ, Int.toNat_natCast, cl_0, cl_1, cl_2, cl_3, cl_4, cl_5, cl_6, cl_7, cl_8, cl_9, cl_10, cl_11, cl_12, cl_13, cl_14, cl_15, cl_16, cl_17, cl_18, cl_19, cl_20, cl_21, cl_22, cl_23, cl_24, cl_25, cl_26, cl_27, cl_28, cl_29, cl_30, cl_31, cl_32, cl_36, cl_40, cl_48, cl_60, cl_108, cl_120, cl_200, cl_201, cl_576, cl_600, cl_864, cl_900, cl_960, cl_5400, cl_8040, j2_0, iN_iZ, iN_lit0, iZ_add, iZ_sub, iZ_mul, iZ_neg, jZ_add, jZ_sub, jZ_mul, jZ_neg, isB0, isB1, isBZ, eq0, eq1, bZ0, vI_, vJ_, vA_, rI_, rJ_, rA_, rV_, nX_, tX_, true_and, and_true, false_and, and_false, and_self, implies_true, forall_const, not_true_eq_false, not_false_eq_true, false_implies, true_implies, ↓reduceIte, Nat.reduceEqDiff, Int.reduceToNat, Int.reduceAdd, Int.reduceSub, Int.reduceLT, Int.reduceLE, Int.reduceEq, Int.add_zero, Int.neg_zero, Int.add_sub_cancel, Int.reduceNeg, Nat.reduceLeDiff, Nat.reduceSub, true_or, or_true, false_or, or_false, setI_d, setJ_d, setP_d, mI_row, mJ_row, mP_row, mI_row_ne, mJ_row_ne, mP_row_ne, rowI_rowI, rowJ_rowJ, rowI_sort, rowJ_sort, rowJ_rowI, rowP_rowI, rowP_rowJ, fu_app, fu_fu, mI_rowJ, mI_rowP, mJ_rowI, mJ_rowP, mP_rowI, mP_rowJ, mK_rowI, mN_rowI, mK_rowJ, mN_rowJ, mK_rowP, mN_rowP, oB_rowI, oB_rowJ, iA_rowI, iA_rowJ, iR_rowI, iR_rowJ, St_rowI, St_rowJ, K91 Si, O91 Si, K95 Si, O95 Si, ce_p0 Ei, ce_p3 Ei, ce_oc Ei, g1, h0]
      exact hh
    | false =>
      have hff : (if false = true then iZ 1 else iZ 0) = iZ 0 := rfl
      rw [hff]
      have ea := c180 (G := G) (d := d + 10) hst Si Ei e2 t1 t2
      have eb := c181 (G := G) (d := d + 7) hst Si Ei e3 e2
      by_cases hl : bL q ≠ -1 ∧ bL q < t
      · have hl' := eq_true hl
        have hh := fin0 (iZ 1) (Or.inl ⟨rfl, Or.inr (Or.inl hl)⟩)
        simp (disch := omega) only [wcQ, wcX, wcG, wcL, wcS, w182_146, w182_147, w182_150, w182_153, w182_167, w182_168, w182_171, w182_173, w182_176, w182_177, toI, toJ, toI64, inb_T, inb_iZ, Int.toNat_natCast, cl_0, cl_1, cl_2, cl_3, cl_4, cl_5, cl_6, cl_7, cl_8, cl_9, cl_10, cl_11, cl_12, cl_13, cl_14, cl_15, cl_16, cl_17, cl_18, cl_19, cl_20, cl_21, cl_22, cl_23, cl_24, cl_25, cl_26, cl_27, cl_28, cl_29, cl_30, cl_31, cl_32, cl_36, cl_40, cl_48, cl_60, cl_108, cl_120, cl_200, cl_201, cl_576, cl_600, cl_864, cl_900, cl_960, cl_5400, cl_8040, j2_0, iN_iZ, iN_lit0, iZ_add, iZ_sub, iZ_mul, iZ_neg, jZ_add, jZ_sub, jZ_mul, jZ_neg, isB0, isB1, isBZ, eq0, eq1, bZ0, vI_, vJ_, vA_, rI_, rJ_, rA_, rV_, nX_, tX_, true_and, and_true, false_and, and_false, and_self, implies_true, forall_const, not_true_eq_false, not_false_eq_true, false_implies, true_implies, ↓reduceIte, Nat.reduceEqDiff, Int.reduceToNat, Int.reduceAdd, Int.reduceSub, Int.reduceLT, Int.reduceLE, Int.reduceEq, Int.add_zero, Int.neg_zero, Int.add_sub_cancel, Int.reduceNeg, Nat.reduceLeDiff, Nat.reduceSub, true_or, or_true, false_or, or_false, setI_d, setJ_d, setP_d, mI_row, mJ_row, mP_row, mI_row_ne, mJ_row_ne, mP_row_ne, rowI_rowI, rowJ_rowJ, rowI_sort, rowJ_sort, rowJ_rowI, rowP_rowI, rowP_rowJ, fu_app, fu_fu, mI_rowJ, mI_rowP, mJ_rowI, mJ_rowP, mP_rowI, mP_rowJ, mK_rowI, mN_rowI, mK_rowJ, mN_rowJ, mK_rowP, mN_rowP, oB_rowI, oB_rowJ, iA_rowI, iA_rowJ, iR_rowI, iR_rowJ, St_rowI, St_rowJ, K91 Si, O91 Si, K95 Si, O95 Si, ce_p0 Ei, ce_p3 Ei, ce_oc Ei, g1, h0]
        refine kI0 ea ?_
        simp (disch := omega) only [wcQ, wcX, wcG, wcL, wcS, w182_180, w182_190, w182_191, w182_194, w182_195, w182_198, w182_199, w182_202, toI, toJ, toI64, inb_T, inb_iZ, Int.toNat_natCast, cl_0, cl_1, cl_2, cl_3, cl_4, cl_5, cl_6, cl_7, cl_8, cl_9, cl_10, cl_11, cl_12, cl_13, cl_14, cl_15, cl_16, cl_17, cl_18, cl_19, cl_20, cl_21, cl_22, cl_23, cl_24, cl_25, cl_26, cl_27, cl_28, cl_29, cl_30, cl_31, cl_32, cl_36, cl_40, cl_48, cl_60, cl_108, cl_120, cl_200, cl_201, cl_576, cl_600, cl_864, cl_900, cl_960, cl_5400, cl_8040, j2_0, iN_iZ, iN_lit0, iZ_add, iZ_sub, iZ_mul, iZ_neg, jZ_add, jZ_sub, jZ_mul, jZ_neg, isB0, isB1, isBZ, eq0, eq1, bZ0, vI_, vJ_, vA_, rI_, rJ_, rA_, rV_, nX_, tX_, true_and, and_true, false_and, and_false, and_self, implies_true, forall_const, not_true_eq_false, not_false_eq_true, false_implies, true_implies, ↓reduceIte, Nat.reduceEqDiff, Int.reduceToNat, Int.reduceAdd, Int.reduceSub, Int.reduceLT, Int.reduceLE, Int.reduceEq, Int.add_zero, Int.neg_zero, Int.add_sub_cancel, Int.reduceNeg, Nat.reduceLeDiff, Nat.reduceSub, true_or, or_true, false_or, or_false, setI_d, setJ_d, setP_d, mI_row, mJ_row, mP_row, mI_row_ne, mJ_row_ne, mP_row_ne, rowI_rowI, rowJ_rowJ, rowI_sort, rowJ_sort, rowJ_rowI, rowP_rowI, rowP_rowJ, fu_app, fu_fu, mI_rowJ, mI_rowP, mJ_rowI, mJ_rowP, mP_rowI, mP_rowJ, mK_rowI, mN_rowI, mK_rowJ, mN_rowJ, mK_rowP, mN_rowP, oB_rowI, oB_rowJ, iA_rowI, iA_rowJ, iR_rowI, iR_rowJ, St_rowI, St_rowJ, hl', ce_oc Ei, ce_p3 Ei, K95 Si, O95 Si]
        exact hh
      · have hl' := eq_false hl
        simp (disch := omega) only [wcQ, wcX, wcG, wcL, wcS, w182_146, w182_147, w182_150, w182_153, w182_167, w182_168, w182_171, w182_173, w182_176, w182_177, toI, toJ, toI64, inb_T, inb_iZ, Int.toNat_natCast, cl_0, cl_1, cl_2, cl_3, cl_4, cl_5, cl_6, cl_7, cl_8, cl_9, cl_10, cl_11, cl_12, cl_13, cl_14, cl_15, cl_16, cl_17, cl_18, cl_19, cl_20, cl_21, cl_22, cl_23, cl_24, cl_25, cl_26, cl_27, cl_28, cl_29, cl_30, cl_31, cl_32, cl_36, cl_40, cl_48, cl_60, cl_108, cl_120, cl_200, cl_201, cl_576, cl_600, cl_864, cl_900, cl_960, cl_5400, cl_8040, j2_0, iN_iZ, iN_lit0, iZ_add, iZ_sub, iZ_mul, iZ_neg, jZ_add, jZ_sub, jZ_mul, jZ_neg, isB0, isB1, isBZ, eq0, eq1, bZ0, vI_, vJ_, vA_, rI_, rJ_, rA_, rV_, nX_, tX_, true_and, and_true, false_and, and_false, and_self, implies_true, forall_const, not_true_eq_false, not_false_eq_true, false_implies, true_implies, ↓reduceIte, Nat.reduceEqDiff, Int.reduceToNat, Int.reduceAdd, Int.reduceSub, Int.reduceLT, Int.reduceLE, Int.reduceEq, Int.add_zero, Int.neg_zero, Int.add_sub_cancel, Int.reduceNeg, Nat.reduceLeDiff, Nat.reduceSub, true_or, or_true, false_or, or_false, setI_d, setJ_d, setP_d, mI_row, mJ_row, mP_row, mI_row_ne, mJ_row_ne, mP_row_ne, rowI_rowI, rowJ_rowJ, rowI_sort, rowJ_sort, rowJ_rowI, rowP_rowI, rowP_rowJ, fu_app, fu_fu, mI_rowJ, mI_rowP, mJ_rowI, mJ_rowP, mP_rowI, mP_rowJ, mK_rowI, mN_rowI, mK_rowJ, mN_rowJ, mK_rowP, mN_rowP, oB_rowI, oB_rowJ, iA_rowI, iA_rowJ, iR_rowI, iR_rowJ, St_rowI, St_rowJ, K91 Si, O91 Si, K95 Si, O95 Si, ce_p0 Ei, ce_p3 Ei, ce_oc Ei, g1, h0]
        refine kI0 ea ?_
        simp (disch := omega) only [wcQ, wcX, wcG, wcL, wcS, w182_180, w182_183, w182_184, toI, toJ, toI64, inb_T, inb_iZ, Int.toNat_natCast, cl_0, cl_1, cl_2, cl_3, cl_4, cl_5, cl_6, cl_7, cl_8, cl_9, cl_10, cl_11, cl_12, cl_13, cl_14, cl_15, cl_16, cl_17, cl_18, cl_19, cl_20, cl_21, cl_22, cl_23, cl_24, cl_25, cl_26, cl_27, cl_28, cl_29, cl_30, cl_31, cl_32, cl_36, cl_40, cl_48, cl_60, cl_108, cl_120, cl_200, cl_201, cl_576, cl_600, cl_864, cl_900, cl_960, cl_5400, cl_8040, j2_0, iN_iZ, iN_lit0, iZ_add, iZ_sub, iZ_mul, iZ_neg, jZ_add, jZ_sub, jZ_mul, jZ_neg, isB0, isB1, isBZ, eq0, eq1, bZ0, vI_, vJ_, vA_, rI_, rJ_, rA_, rV_, nX_, tX_, true_and, and_true, false_and, and_false, and_self, implies_true, forall_const, not_true_eq_false, not_false_eq_true, false_implies, true_implies, ↓reduceIte, Nat.reduceEqDiff, Int.reduceToNat, Int.reduceAdd, Int.reduceSub, Int.reduceLT, Int.reduceLE, Int.reduceEq, Int.add_zero, Int.neg_zero, Int.add_sub_cancel, Int.reduceNeg, Nat.reduceLeDiff, Nat.reduceSub, true_or, or_true, false_or, or_false, setI_d, setJ_d, setP_d, mI_row, mJ_row, mP_row, mI_row_ne, mJ_row_ne, mP_row_ne, rowI_rowI, rowJ_rowJ, rowI_sort, rowJ_sort, rowJ_rowI, rowP_rowI, rowP_rowJ, fu_app, fu_fu, mI_rowJ, mI_rowP, mJ_rowI, mJ_rowP, mP_rowI, mP_rowJ, mK_rowI, mN_rowI, mK_rowJ, mN_rowJ, mK_rowP, mN_rowP, oB_rowI, oB_rowJ, iA_rowI, iA_rowJ, iR_rowI, iR_rowJ, St_rowI, St_rowJ, hl', O95 Si]
        refine kI eb (Nat.le_refl _) (fun v M2 hq => ?_) (fun e M' h => False.elim h)
        obtain ⟨hv, F2, I91, I2⟩ := hq
        have S2 := Fc_S F2 Si
        have E2 := Fc_CE F2 Ei
        rcases hv with ⟨rfl, hv⟩ | ⟨rfl, hv⟩
        · have hh := fin M2 F2 I91 I2 (iZ 1) (Or.inl ⟨rfl, Or.inr (Or.inr hv)⟩)
          simp (disch := omega) only [wcQ, wcX, wcG, wcL, wcS, w182_187, w182_190, w182_191, w182_194, w182_195, w182_198, w182_199, w182_202, toI, toJ, toI64, inb_T, inb_iZ, Int.toNat_natCast, cl_0, cl_1, cl_2, cl_3, cl_4, cl_5, cl_6, cl_7, cl_8, cl_9, cl_10, cl_11, cl_12, cl_13, cl_14, cl_15, cl_16, cl_17, cl_18, cl_19, cl_20, cl_21, cl_22, cl_23, cl_24, cl_25, cl_26, cl_27, cl_28, cl_29, cl_30, cl_31, cl_32, cl_36, cl_40, cl_48, cl_60, cl_108, cl_120, cl_200, cl_201, cl_576, cl_600, cl_864, cl_900, cl_960, cl_5400, cl_8040, j2_0, iN_iZ, iN_lit0, iZ_add, iZ_sub, iZ_mul, iZ_neg, jZ_add, jZ_sub, jZ_mul, jZ_neg, isB0, isB1, isBZ, eq0, eq1, bZ0, vI_, vJ_, vA_, rI_, rJ_, rA_, rV_, nX_, tX_, true_and, and_true, false_and, and_false, and_self, implies_true, forall_const, not_true_eq_false, not_false_eq_true, false_implies, true_implies, ↓reduceIte, Nat.reduceEqDiff, Int.reduceToNat, Int.reduceAdd, Int.reduceSub, Int.reduceLT, Int.reduceLE, Int.reduceEq, Int.add_zero, Int.neg_zero, Int.add_sub_cancel, Int.reduceNeg, Nat.reduceLeDiff, Nat.reduceSub, true_or, or_true, false_or, or_false, setI_d, setJ_d, setP_d, mI_row, mJ_row, mP_row, mI_row_ne, mJ_row_ne, mP_row_ne, rowI_rowI, rowJ_rowJ, rowI_sort, rowJ_sort, rowJ_rowI, rowP_rowI, rowP_rowJ, fu_app, fu_fu, mI_rowJ, mI_rowP, mJ_rowI, mJ_rowP, mP_rowI, mP_rowJ, mK_rowI, mN_rowI, mK_rowJ, mN_rowJ, mK_rowP, mN_rowP, oB_rowI, oB_rowJ, iA_rowI, iA_rowJ, iR_rowI, iR_rowJ, St_rowI, St_rowJ, K95 S2, O95 S2, ce_oc E2, ce_p3 E2]
          exact hh
        · have hh := fin M2 F2 I91 I2 (iZ 0) (Or.inr ⟨rfl, fun z => by
            rcases z with z | z | z
            · cases z
            · exact hl z
            · exact hv z⟩)
          simp (disch := omega) only [wcQ, wcX, wcG, wcL, wcS, w182_187, w182_190, w182_191, w182_194, w182_195, w182_198, w182_199, w182_202, toI, toJ, toI64, inb_T, inb_iZ, Int.toNat_natCast, cl_0, cl_1, cl_2, cl_3, cl_4, cl_5, cl_6, cl_7, cl_8, cl_9, cl_10, cl_11, cl_12, cl_13, cl_14, cl_15, cl_16, cl_17, cl_18, cl_19, cl_20, cl_21, cl_22, cl_23, cl_24, cl_25, cl_26, cl_27, cl_28, cl_29, cl_30, cl_31, cl_32, cl_36, cl_40, cl_48, cl_60, cl_108, cl_120, cl_200, cl_201, cl_576, cl_600, cl_864, cl_900, cl_960, cl_5400, cl_8040, j2_0, iN_iZ, iN_lit0, iZ_add, iZ_sub, iZ_mul, iZ_neg, jZ_add, jZ_sub, jZ_mul, jZ_neg, isB0, isB1, isBZ, eq0, eq1, bZ0, vI_, vJ_, vA_, rI_, rJ_, rA_, rV_, nX_, tX_, true_and, and_true, false_and, and_false, and_self, implies_true, forall_const, not_true_eq_false, not_false_eq_true, false_implies, true_implies, ↓reduceIte, Nat.reduceEqDiff, Int.reduceToNat, Int.reduceAdd, Int.reduceSub, Int.reduceLT, Int.reduceLE, Int.reduceEq, Int.add_zero, Int.neg_zero, Int.add_sub_cancel, Int.reduceNeg, Nat.reduceLeDiff, Nat.reduceSub, true_or, or_true, false_or, or_false, setI_d, setJ_d, setP_d, mI_row, mJ_row, mP_row, mI_row_ne, mJ_row_ne, mP_row_ne, rowI_rowI, rowJ_rowJ, rowI_sort, rowJ_sort, rowJ_rowI, rowP_rowI, rowP_rowJ, fu_app, fu_fu, mI_rowJ, mI_rowP, mJ_rowI, mJ_rowP, mP_rowI, mP_rowJ, mK_rowI, mN_rowI, mK_rowJ, mN_rowJ, mK_rowP, mN_rowP, oB_rowI, oB_rowJ, iA_rowI, iA_rowJ, iR_rowI, iR_rowJ, St_rowI, St_rowJ, K95 S2, O95 S2, ce_oc E2, ce_p3 E2]
          exact hh
  · rw [if_neg h0] at hR
    simp (disch := omega) only [wcQ, wcX, wcG, wcL, wcS, w182_146, w182_147, w182_150, w182_153, w182_156, w182_157, w182_160, w182_161, toI, toJ, toI64, inb_T, inb_iZ, Int.toNat_natCast, cl_0, cl_1, cl_2, cl_3, cl_4, cl_5, cl_6, cl_7, cl_8, cl_9, cl_10, cl_11, cl_12, cl_13, cl_14, cl_15, cl_16, cl_17, cl_18, cl_19, cl_20, cl_21, cl_22, cl_23, cl_24, cl_25, cl_26, cl_27, cl_28, cl_29, cl_30, cl_31, cl_32, cl_36, cl_40, cl_48, cl_60, cl_108, cl_120, cl_200, cl_201, cl_576, cl_600, cl_864, cl_900, cl_960, cl_5400, cl_8040, j2_0, iN_iZ, iN_lit0, iZ_add, iZ_sub, iZ_mul, iZ_neg, jZ_add, jZ_sub, jZ_mul, jZ_neg, isB0, isB1, isBZ, eq0, eq1, bZ0, vI_, vJ_, vA_, rI_, rJ_, rA_, rV_, nX_, tX_, true_and, and_true, false_and, and_false, and_self, implies_true, forall_const, not_true_eq_false, not_false_eq_true, false_implies, true_implies, ↓reduceIte, Nat.reduceEqDiff, Int.reduceToNat, Int.reduceAdd, Int.reduceSub, Int.reduceLT, Int.reduceLE, Int.reduceEq, Int.add_zero, Int.neg_zero, Int.add_sub_cancel, Int.reduceNeg, Nat.reduceLeDiff, Nat.reduceSub, true_or, or_true, false_or, or_false, setI_d, setJ_d, setP_d, mI_row, mJ_row, mP_row, mI_row_ne, mJ_row_ne, mP_row_ne, rowI_rowI, rowJ_rowJ, rowI_sort, rowJ_sort, rowJ_rowI, rowP_rowI, rowP_rowJ, fu_app, fu_fu, mI_rowJ, mI_rowP, mJ_rowI, mJ_rowP, mP_rowI, mP_rowJ, mK_rowI, mN_rowI, mK_rowJ, mN_rowJ, mK_rowP, mN_rowP, oB_rowI, oB_rowJ, iA_rowI, iA_rowJ, iR_rowI, iR_rowJ, St_rowI, St_rowJ, K91 Si, O91 Si, K95 Si, O95 Si, ce_p0 Ei, g1, h0]
    refine kI r1 (Nat.le_refl _) (fun v M2 hq => ?_) (fun e M' h => False.elim h)
    obtain ⟨rfl, rfl⟩ := hq
    simp (disch := omega) only [wcQ, wcX, wcG, wcL, wcS, w182_164, w182_165, w182_166, toI, toJ, toI64, inb_T, inb_iZ, Int.toNat_natCast, cl_0, cl_1, cl_2, cl_3, cl_4, cl_5, cl_6, cl_7, cl_8, cl_9, cl_10, cl_11, cl_12, cl_13, cl_14, cl_15, cl_16, cl_17, cl_18, cl_19, cl_20, cl_21, cl_22, cl_23, cl_24, cl_25, cl_26, cl_27, cl_28, cl_29, cl_30, cl_31, cl_32, cl_36, cl_40, cl_48, cl_60, cl_108, cl_120, cl_200, cl_201, cl_576, cl_600, cl_864, cl_900, cl_960, cl_5400, cl_8040, j2_0, iN_iZ, iN_lit0, iZ_add, iZ_sub, iZ_mul, iZ_neg, jZ_add, jZ_sub, jZ_mul, jZ_neg, isB0, isB1, isBZ, eq0, eq1, bZ0, vI_, vJ_, vA_, rI_, rJ_, rA_, rV_, nX_, tX_, true_and, and_true, false_and, and_false, and_self, implies_true, forall_const, not_true_eq_false, not_false_eq_true, false_implies, true_implies, ↓reduceIte, Nat.reduceEqDiff, Int.reduceToNat, Int.reduceAdd, Int.reduceSub, Int.reduceLT, Int.reduceLE, Int.reduceEq, Int.add_zero, Int.neg_zero, Int.add_sub_cancel, Int.reduceNeg, Nat.reduceLeDiff, Nat.reduceSub, true_or, or_true, false_or, or_false, setI_d, setJ_d, setP_d, mI_row, mJ_row, mP_row, mI_row_ne, mJ_row_ne, mP_row_ne, rowI_rowI, rowJ_rowJ, rowI_sort, rowJ_sort, rowJ_rowI, rowP_rowI, rowP_rowJ, fu_app, fu_fu, mI_rowJ, mI_rowP, mJ_rowI, mJ_rowP, mP_rowI, mP_rowJ, mK_rowI, mN_rowI, mK_rowJ, mN_rowJ, mK_rowP, mN_rowP, oB_rowI, oB_rowJ, iA_rowI, iA_rowJ, iR_rowI, iR_rowJ, St_rowI, St_rowJ]
    rw [QC_i hR]
    exact ⟨FF_Fc hF (Fc_tr hC.1 Fc_rf), rfl, rf_2, rf_3⟩
/-- behind the time -/
theorem c182t (hst : (gl G).stackTraces = false) {M0 : Mem} (hS : Static M) (hE : CE M k N s a c q hr wd) (hF : FF M0 M k c) (h7 : mP M c 7 = none) {R : (Nat × Nat) ⊕ (Rw × Int × Bool)} {Mi : Mem} {rows : Rw} {t : Int} {x1 x2 x3 : Option Nat} (hT : TC Mi B n b) (hC : CT M Mi k c q hr wd rows t) (t1 : 0 ≤ t) (t2 : t ≤ 99999) (hR : R = match kRe B n b with
      | .inl e => .inl e
      | .inr (c', x) => if tkd B n c' = 0 then .inr (rows, t, x) else .inl (1, c')) : ∀ m, wp (WCo G (d + 11) 182 (rA fun v M' => QC M0 k c q hr wd R v M') nX) 182 (m + 400) 110 [aR (some 95), aR x1, aR x2, aR x3, aI (iZ 0)] [] Mi 0 := by
  intro m
  have Si := Fc_S hC.1 hS
  have Ei := Fc_CE hC.1 hE
  have ea := c129 (G := G) (d := d + 5) (a := 11) (k := 20) hst Si (by decide) (by decide) (by decide) str_ok.2.2.2.2.2.2.2.2.2.2 hT
  have h11 : (11 : Nat) < 30 := by decide
  unfold kRe at hR
  have k1 := ce_k hE
  obtain ⟨c1, ck⟩ := ce_c hE
  simp (disch := omega) only [wcQ, wcX, wcG, wcL, wcS, w182_110, w182_111, w182_114, w182_116, toI, toJ, toI64, inb_T, inb_iZ, Int.toNat_natCast, cl_0, cl_1, cl_2, cl_3, cl_4, cl_5, cl_6, cl_7, cl_8, cl_9, cl_10, cl_11, cl_12, cl_13, cl_14, cl_15, cl_16, cl_17, cl_18, cl_19, cl_20, cl_21, cl_22, cl_23, cl_24, cl_25, cl_26, cl_27, cl_28, cl_29, cl_30, cl_31, cl_32, cl_36, cl_40, cl_48, cl_60, cl_108, cl_120, cl_200, cl_201, cl_576, cl_600, cl_864, cl_900, cl_960, cl_5400, cl_8040, j2_0, iN_iZ, iN_lit0, iZ_add, iZ_sub, iZ_mul, iZ_neg, jZ_add, jZ_sub, jZ_mul, jZ_neg, isB0, isB1, isBZ, eq0, eq1, bZ0, vI_, vJ_, vA_, rI_, rJ_, rA_, rV_, nX_, tX_, true_and, and_true, false_and, and_false, and_self, implies_true, forall_const, not_true_eq_false, not_false_eq_true, false_implies, true_implies, ↓reduceIte, Nat.reduceEqDiff, Int.reduceToNat, Int.reduceAdd, Int.reduceSub, Int.reduceLT, Int.reduceLE, Int.reduceEq, Int.add_zero, Int.neg_zero, Int.add_sub_cancel, Int.reduceNeg, Nat.reduceLeDiff, Nat.reduceSub, true_or, or_true, false_or, or_false, setI_d, setJ_d, setP_d, mI_row, mJ_row, mP_row, mI_row_ne, mJ_row_ne, mP_row_ne, rowI_rowI, rowJ_rowJ, rowI_sort, rowJ_sort, rowJ_rowI, rowP_rowI, rowP_rowJ, fu_app, fu_fu, mI_rowJ, mI_rowP, mJ_rowI, mJ_rowP, mP_rowI, mP_rowJ, mK_rowI, mN_rowI, mK_rowJ, mN_rowJ, mK_rowP, mN_rowP, oB_rowI, oB_rowJ, iA_rowI, iA_rowJ, iR_rowI, iR_rowJ, St_rowI, St_rowJ, O91 Si, K95 Si, O95 Si, ce_p0 Ei, h11]
  refine kI0 ea ?_
  by_cases w : twd B n b 20
  · rw [if_pos w] at hR
    have w' := eq_true w
    have hbn : b < n := tk_lt (B := B) (by have := w.1; omega)
    have nb := nxT_b (B := B) (n := n) (b := b)
    have eb := c124t (G := G) (d := d + 10) hst Si hT
    simp (disch := omega) only [wcQ, wcX, wcG, wcL, wcS, w182_119, w182_122, w182_123, w182_125, w182_126, w182_129, toI, toJ, toI64, inb_T, inb_iZ, Int.toNat_natCast, cl_0, cl_1, cl_2, cl_3, cl_4, cl_5, cl_6, cl_7, cl_8, cl_9, cl_10, cl_11, cl_12, cl_13, cl_14, cl_15, cl_16, cl_17, cl_18, cl_19, cl_20, cl_21, cl_22, cl_23, cl_24, cl_25, cl_26, cl_27, cl_28, cl_29, cl_30, cl_31, cl_32, cl_36, cl_40, cl_48, cl_60, cl_108, cl_120, cl_200, cl_201, cl_576, cl_600, cl_864, cl_900, cl_960, cl_5400, cl_8040, j2_0, iN_iZ, iN_lit0, iZ_add, iZ_sub, iZ_mul, iZ_neg, jZ_add, jZ_sub, jZ_mul, jZ_neg, isB0, isB1, isBZ, eq0, eq1, bZ0, vI_, vJ_, vA_, rI_, rJ_, rA_, rV_, nX_, tX_, true_and, and_true, false_and, and_false, and_self, implies_true, forall_const, not_true_eq_false, not_false_eq_true, false_implies, true_implies, ↓reduceIte, Nat.reduceEqDiff, Int.reduceToNat, Int.reduceAdd, Int.reduceSub, Int.reduceLT, Int.reduceLE, Int.reduceEq, Int.add_zero, Int.neg_zero, Int.add_sub_cancel, Int.reduceNeg, Nat.reduceLeDiff, Nat.reduceSub, true_or, or_true, false_or, or_false, setI_d, setJ_d, setP_d, mI_row, mJ_row, mP_row, mI_row_ne, mJ_row_ne, mP_row_ne, rowI_rowI, rowJ_rowJ, rowI_sort, rowJ_sort, rowJ_rowI, rowP_rowI, rowP_rowJ, fu_app, fu_fu, mI_rowJ, mI_rowP, mJ_rowI, mJ_rowP, mP_rowI, mP_rowJ, mK_rowI, mN_rowI, mK_rowJ, mN_rowJ, mK_rowP, mN_rowP, oB_rowI, oB_rowJ, iA_rowI, iA_rowJ, iR_rowI, iR_rowJ, St_rowI, St_rowJ, w', O91 Si, K95 Si, O95 Si, ce_p0 Ei]
    refine kV eb (Nat.le_refl _) (fun M2 hq => ?_) (fun e M' h => False.elim h)
    have F2 : Fc Mi M2 k c := by rw [hq]; exact Fc_st
    have T2 : TC M2 B n (nxT B n b) := by rw [hq]; exact TC_st hT.1 (nb.2.1 (by omega))
    have C2 : CT M M2 k c q hr wd rows t := CT_fr hC F2 (fun y hy => by rw [hq]; unfold stM; rw [mI_row_ne (by omega)])
    clear hq
    have S2 := Fc_S F2 Si
    have E2 := Fc_CE F2 Ei
    have ec := c139 (G := G) (d := d + 9) (c := 59) hst S2 (by decide) T2
    simp (disch := omega) only [wcQ, wcX, wcG, wcL, wcS, w182_132, w182_133, w182_136, w182_138, toI, toJ, toI64, inb_T, inb_iZ, Int.toNat_natCast, cl_0, cl_1, cl_2, cl_3, cl_4, cl_5, cl_6, cl_7, cl_8, cl_9, cl_10, cl_11, cl_12, cl_13, cl_14, cl_15, cl_16, cl_17, cl_18, cl_19, cl_20, cl_21, cl_22, cl_23, cl_24, cl_25, cl_26, cl_27, cl_28, cl_29, cl_30, cl_31, cl_32, cl_36, cl_40, cl_48, cl_60, cl_108, cl_120, cl_200, cl_201, cl_576, cl_600, cl_864, cl_900, cl_960, cl_5400, cl_8040, j2_0, iN_iZ, iN_lit0, iZ_add, iZ_sub, iZ_mul, iZ_neg, jZ_add, jZ_sub, jZ_mul, jZ_neg, isB0, isB1, isBZ, eq0, eq1, bZ0, vI_, vJ_, vA_, rI_, rJ_, rA_, rV_, nX_, tX_, true_and, and_true, false_and, and_false, and_self, implies_true, forall_const, not_true_eq_false, not_false_eq_true, false_implies, true_implies, ↓reduceIte, Nat.reduceEqDiff, Int.reduceToNat, Int.reduceAdd, Int.reduceSub, Int.reduceLT, Int.reduceLE, Int.reduceEq, Int.add_zero, Int.neg_zero, Int.add_sub_cancel, Int.reduceNeg, Nat.reduceLeDiff, Nat.reduceSub, true_or, or_true, false_or, or_false, setI_d, setJ_d, setP_d, mI_row, mJ_row, mP_row, mI_row_ne, mJ_row_ne, mP_row_ne, rowI_rowI, rowJ_rowJ, rowI_sort, rowJ_sort, rowJ_rowI, rowP_rowI, rowP_rowJ, fu_app, fu_fu, mI_rowJ, mI_rowP, mJ_rowI, mJ_rowP, mP_rowI, mP_rowJ, mK_rowI, mN_rowI, mK_rowJ, mN_rowJ, mK_rowP, mN_rowP, oB_rowI, oB_rowJ, iA_rowI, iA_rowJ, iR_rowI, iR_rowJ, St_rowI, St_rowJ, O91 S2, K95 S2, O95 S2, ce_p0 E2]
    refine kI ec (Nat.le_refl _) (fun v M3 hq => ?_) (fun e M' h => False.elim h)
    rcases hq with ⟨hs, rfl, hq⟩ | ⟨hs, rfl, rfl⟩
    · rw [if_pos hs] at hR
      have hbn2 : nxT B n b < n := tk_lt (B := B) (by have := hs.1; omega)
      have nb2 := nxT_b (B := B) (n := n) (b := nxT B n b)
      have T3 : TC M3 B n (nxT B n (nxT B n b)) := by rw [hq]; exact TC_st T2.1 (nb2.2.1 (by omega))
      have C3 : CT M M3 k c q hr wd rows t := CT_fr C2 (by rw [hq]; exact Fc_st) (fun y hy => by rw [hq]; unfold stM; rw [mI_row_ne (by omega)])
      simp (disch := omega) only [wcQ, wcX, wcG, wcL, wcS, w182_141, toI, toJ, toI64, inb_T, inb_iZ, Int.toNat_natCast, cl_0, cl_1, cl_2, cl_3, cl_4, cl_5, cl_6, cl_7, cl_8, cl_9, cl_10, cl_11, cl_12, cl_13, cl_14, cl_15, cl_16, cl_17, cl_18, cl_19, cl_20, cl_21, cl_22, cl_23, cl_24, cl_25, cl_26, cl_27, cl_28, cl_29, cl_30, cl_31, cl_32, cl_36, cl_40, cl_48, cl_60, cl_108, cl_120, cl_200, cl_201, cl_576, cl_600, cl_864, cl_900, cl_960, cl_5400, cl_8040, j2_0, iN_iZ, iN_lit0, iZ_add, iZ_sub, iZ_mul, iZ_neg, jZ_add, jZ_sub, jZ_mul, jZ_neg, isB0, isB1, isBZ, eq0, eq1, bZ0, vI_, vJ_, vA_, rI_, rJ_, rA_, rV_, nX_, tX_, true_and, and_true, false_and, and_false, and_self, implies_true, forall_const, not_true_eq_false, not_false_eq_true, false_implies, true_implies, ↓reduceIte, Nat.reduceEqDiff, Int.reduceToNat, Int.reduceAdd, Int.reduceSub, Int.reduceLT, Int.reduceLE, Int.reduceEq, Int.add_zero, Int.neg_zero, Int.add_sub_cancel, Int.reduceNeg, Nat.reduceLeDiff, Nat.reduceSub, true_or, or_true, false_or, or_false, setI_d, setJ_d, setP_d, mI_row, mJ_row, mP_row, mI_row_ne, mJ_row_ne, mP_row_ne, rowI_rowI, rowJ_rowJ, rowI_sort, rowJ_sort, rowJ_rowI, rowP_rowI, rowP_rowJ, fu_app, fu_fu, mI_rowJ, mI_rowP, mJ_rowI, mJ_rowP, mP_rowI, mP_rowJ, mK_rowI, mN_rowI, mK_rowJ, mN_rowJ, mK_rowP, mN_rowP, oB_rowI, oB_rowJ, iA_rowI, iA_rowJ, iR_rowI, iR_rowJ, St_rowI, St_rowJ]
      exact c182r (re := true) hst hS hE hF h7 T3 C3 t1 t2 hR _
    · rw [if_neg hs] at hR
      simp (disch := omega) only [wcQ, wcX, wcG, wcL, wcS, w182_141, w182_144, w182_145, toI, toJ, toI64, inb_T, inb_iZ, Int.toNat_natCast, cl_0, cl_1, cl_2, cl_3, cl_4, cl_5, cl_6, cl_7, cl_8, cl_9, cl_10, cl_11, cl_12, cl_13, cl_14, cl_15, cl_16, cl_17, cl_18, cl_19, cl_20, cl_21, cl_22, cl_23, cl_24, cl_25, cl_26, cl_27, cl_28, cl_29, cl_30, cl_31, cl_32, cl_36, cl_40, cl_48, cl_60, cl_108, cl_120, cl_200, cl_201, cl_576, cl_600, cl_864, cl_900, cl_960, cl_5400, cl_8040, j2_0, iN_iZ, iN_lit0, iZ_add, iZ_sub, iZ_mul, iZ_neg, jZ_add, jZ_sub, jZ_mul, jZ_neg, isB0, isB1, isBZ, eq0, eq1, bZ0, vI_, vJ_, vA_, rI_, rJ_, rA_, rV_, nX_, tX_, true_and, and_true, false_and, and_false, and_self, implies_true, forall_const, not_true_eq_false, not_false_eq_true, false_implies, true_implies, ↓reduceIte, Nat.reduceEqDiff, Int.reduceToNat, Int.reduceAdd, Int.reduceSub, Int.reduceLT, Int.reduceLE, Int.reduceEq, Int.add_zero, Int.neg_zero, Int.add_sub_cancel, Int.reduceNeg, Nat.reduceLeDiff, Nat.reduceSub, true_or, or_true, false_or, or_false, setI_d, setJ_d, setP_d, mI_row, mJ_row, mP_row, mI_row_ne, mJ_row_ne, mP_row_ne, rowI_rowI, rowJ_rowJ, rowI_sort, rowJ_sort, rowJ_rowI, rowP_rowI, rowP_rowJ, fu_app, fu_fu, mI_rowJ, mI_rowP, mJ_rowI, mJ_rowP, mP_rowI, mP_rowJ, mK_rowI, mN_rowI, mK_rowJ, mN_rowJ, mK_rowP, mN_rowP, oB_rowI, oB_rowJ, iA_rowI, iA_rowJ, iR_rowI, iR_rowJ, St_rowI, St_rowJ]
      rw [QC_i hR]
      exact ⟨FF_Fc hF (Fc_tr C2.1 Fc_rf), rfl, rf_2, rf_3⟩
  · rw [if_neg w] at hR
    have w' := eq_false w
    simp (disch := omega) only [wcQ, wcX, wcG, wcL, wcS, w182_119, toI, toJ, toI64, inb_T, inb_iZ, Int.toNat_natCast, cl_0, cl_1, cl_2, cl_3, cl_4, cl_5, cl_6, cl_7, cl_8, cl_9, cl_10, cl_11, cl_12, cl_13, cl_14, cl_15, cl_16, cl_17, cl_18, cl_19, cl_20, cl_21, cl_22, cl_23, cl_24, cl_25, cl_26, cl_27, cl_28, cl_29, cl_30, cl_31, cl_32, cl_36, cl_40, cl_48, cl_60, cl_108, cl_120, cl_200, cl_201, cl_576, cl_600, cl_864, cl_900, cl_960, cl_5400, cl_8040, j2_0, iN_iZ, iN_lit0, iZ_add, iZ_sub, iZ_mul, iZ_neg, jZ_add, jZ_sub, jZ_mul, jZ_neg, isB0, isB1, isBZ, eq0, eq1, bZ0, vI_, vJ_, vA_, rI_, rJ_, rA_, rV_, nX_, tX_, true_and, and_true, false_and, and_false, and_self, implies_true, forall_const, not_true_eq_false, not_false_eq_true, false_implies, true_implies, ↓reduceIte, Nat.reduceEqDiff, Int.reduceToNat, Int.reduceAdd, Int.reduceSub, Int.reduceLT, Int.reduceLE, Int.reduceEq, Int.add_zero, Int.neg_zero, Int.add_sub_cancel, Int.reduceNeg, Nat.reduceLeDiff, Nat.reduceSub, true_or, or_true, false_or, or_false, setI_d, setJ_d, setP_d, mI_row, mJ_row, mP_row, mI_row_ne, mJ_row_ne, mP_row_ne, rowI_rowI, rowJ_rowJ, rowI_sort, rowJ_sort, rowJ_rowI, rowP_rowI, rowP_rowJ, fu_app, fu_fu, mI_rowJ, mI_rowP, mJ_rowI, mJ_rowP, mP_rowI, mP_rowJ, mK_rowI, mN_rowI, mK_rowJ, mN_rowJ, mK_rowP, mN_rowP, oB_rowI, oB_rowJ, iA_rowI, iA_rowJ, iR_rowI, iR_rowJ, St_rowI, St_rowJ, w']
    exact c182r (re := false) hst hS hE hF h7 hT hC t1 t2 hR _
end

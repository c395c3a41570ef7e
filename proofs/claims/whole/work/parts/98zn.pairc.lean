/-! SCALE: groups, and the class's pairs. -/
section
variable {G : GE} {d : Nat} {M M' M'' : Mem} {W : Nat → Nat → Int} {r t : Nat → Int} {g g' : Nat → Nat} {E E' : Nat → Nat → Prop} {a b w i j : Nat}
/-- each stands with the least that it is joined with, by what stands in E -/
def Gi (E : Nat → Nat → Prop) (g : Nat → Nat) : Prop := (∀ a b, E a b → g a = g b) ∧ (∀ x, g x ≤ x ∧ g (g x) = g x) ∧ ∀ f : Nat → Nat, (∀ a b, E a b → f a = f b) → ∀ x, f (g x) = f x
theorem Gi_0 : Gi (fun _ _ => False) (fun x => x) := ⟨fun _ _ h => False.elim h, fun _ => ⟨Nat.le_refl _, rfl⟩, fun _ _ _ => rfl⟩
theorem Gi_iff (h : Gi E g) (e : ∀ a b, E a b ↔ E' a b) : Gi E' g := ⟨fun a b z => h.1 a b ((e a b).mpr z), h.2.1, fun f hf => h.2.2 f (fun a b z => hf a b ((e a b).mp z))⟩
/-- there is but one such -/
theorem Gi_one (h : Gi E g) (h' : Gi E' g') (e : ∀ f : Nat → Nat, (∀ a b, E a b → f a = f b) ↔ (∀ a b, E' a b → f a = f b)) (x : Nat) : g x = g' x := by
  have e1 := h.2.2 g' ((e g').mpr h'.1) x
  have e2 := h'.2.2 g ((e g).mp h.1) x
  have l1 := (h'.2.1 (g x)).1
  have l2 := (h.2.1 (g' x)).1
  omega
theorem Gi_s (h : Gi E g) (a b : Nat) : Gi (fun x y => E x y ∨ (x = a ∧ y = b)) (mgG g a b) := by
  obtain ⟨h1, h2, h3⟩ := h
  obtain ⟨lo, hlo⟩ : ∃ lo, lo = min (g a) (g b) := ⟨_, rfl⟩
  obtain ⟨hi, hhi⟩ : ∃ hi, hi = max (g a) (g b) := ⟨_, rfl⟩
  have hm : ∀ x, mgG g a b x = if g x = hi then lo else g x := fun x => by unfold mgG; rw [← hhi, ← hlo]
  have ga := (h2 a).2
  have gb := (h2 b).2
  have hl : (lo = g a ∧ hi = g b) ∨ (lo = g b ∧ hi = g a) := by omega
  have gl : g lo = lo := by rcases hl with ⟨z, _⟩ | ⟨z, _⟩ <;> rw [z] <;> assumption
  have ll : lo ≤ hi := by omega
  refine ⟨fun x y z => ?_, fun x => ?_, fun f hf x => ?_⟩
  · rw [hm, hm]
    rcases z with z | ⟨rfl, rfl⟩
    · rw [h1 x y z]
    · rcases hl with ⟨z1, z2⟩ | ⟨z1, z2⟩
      · rw [if_pos z2.symm]
        split
        · rfl
        · exact z1.symm
      · rw [if_pos z2.symm]
        split
        · rfl
        · exact z1
  · have := h2 x
    rw [hm x]
    by_cases z : g x = hi
    · rw [if_pos z]
      refine ⟨by omega, ?_⟩
      rw [hm, gl]
      split <;> rfl
    · rw [if_neg z]
      refine ⟨this.1, ?_⟩
      rw [hm, this.2, if_neg z]
  · have fE : ∀ x, f (g x) = f x := h3 f (fun a b z => hf a b (Or.inl z))
    have fab : f a = f b := hf a b (Or.inr ⟨rfl, rfl⟩)
    rw [hm]
    by_cases z : g x = hi
    · rw [if_pos z, ← fE x, z]
      have fa := fE a
      have fb := fE b
      rcases hl with ⟨z1, z2⟩ | ⟨z1, z2⟩ <;> rw [z1, z2] <;> omega
    · rw [if_neg z]; exact fE x
/-- both have a total -/
def eT (t : Nat → Int) (a b : Nat) : Prop := a ≠ b ∧ t a ≠ -1 ∧ t b ≠ -1
/-- but for pairs, sums and groups all is as it was -/
def FP (M M' : Mem) : Prop := mK M' = mK M ∧ mN M' = mN M ∧ mP M' = mP M ∧ mJ M' = mJ M ∧ ∀ c, c ≠ 111 → (c < 138 ∨ 144 < c) → mI M' c = mI M c
theorem FP_rfl : FP M M := ⟨rfl, rfl, rfl, rfl, fun _ _ _ => rfl⟩
theorem FP_tr (h : FP M M') (h' : FP M' M'') : FP M M'' := by
  obtain ⟨a1, a2, a3, a4, a5⟩ := h
  obtain ⟨b1, b2, b3, b4, b5⟩ := h'
  exact ⟨b1.trans a1, b2.trans a2, b3.trans a3, b4.trans a4, fun c h1 h2 => (b5 c h1 h2).trans (a5 c h1 h2)⟩
theorem FP_row {c : Nat} {f : Nat → Int32} (h : c = 111 ∨ (138 ≤ c ∧ c ≤ 144)) : FP M (rowI M c f) := ⟨rfl, rfl, rfl, rfl, fun y h1 h2 => mI_row_ne (by omega)⟩
theorem FP_FZ (h : FP M M') : FZ M M' := ⟨h.1, h.2.1, h.2.2.1, h.2.2.2.1, fun c hc => h.2.2.2.2 c (by omega) (by omega)⟩
noncomputable def pW (W : Nat → Nat → Int) (t : Nat → Int) (i j x y : Nat) : Int := W x y + ind ((x < i ∨ (x = i ∧ y < j)) ∧ eT t x y)
noncomputable def dT (t : Nat → Int) (x y : Nat) : Int := ind (eT t x y) * (t x - t y)
noncomputable def pRr (r : Nat → Int) (t : Nat → Int) (i j x : Nat) : Int := r x + sN (dT t x) (if x < i then 6 else if x = i then j else 0)
def pE (E : Nat → Nat → Prop) (t : Nat → Int) (i j x y : Nat) : Prop := E x y ∨ ((x < i ∨ (x = i ∧ y < j)) ∧ y < 6 ∧ eT t x y)
theorem c223 (hst : (gl G).stackTraces = false) (hS : Static M) (hw : w < 24) (ht : ∀ j, j < 6 → mI M (113 + w) j = iZ (t j)) (tb : ∀ j, j < 6 → -1 ≤ t j ∧ t j ≤ 1000000) (hW : ZW M W) (hR : ZR M r) (hG : ZG M g) (hg : Gi E g) : Ev G (d + 3) 223 [aR (some 110), aR (some (113 + w))] M 0 (rV fun M' => FP M M' ∧ ZW M' (pW W t 6 0) ∧ ZR M' (pRr r t 6 0) ∧ ∃ g', ZG M' g' ∧ Gi (pE E t 6 0) g') nX := by
  have pW0 : ZW M (pW W t 0 0) := fun x y hx hy => by
    rw [hW x y hx hy]; congr 1; unfold pW; rw [ind_f (fun z => by omega)]; omega
  have pR0 : ZR M (pRr r t 0 0) := fun x hx => by
    rw [hR x hx]; congr 1; unfold pRr; rw [if_neg (by omega)]; split <;> (show r x = r x + 0; omega)
  have pE0 : Gi (pE E t 0 0) g := Gi_iff hg (fun x y => ⟨Or.inl, fun z => z.elim id (fun z => by omega)⟩)
  refine Ev_wp 2000 hst (by decide) (Nat.le_of_ble_eq_true rfl) ?_; simp (disch := omega) only [en223, wcQ, wcX, wcG, wcL, wcS, w223_0, w223_1, h223_2, w223_2, toI, toJ, toI64, inb_T, inb_iZ, Int.toNat_natCast, cl_0, cl_1, cl_2, cl_3, cl_4, cl_5, cl_6, cl_7, cl_8, cl_9, cl_10, cl_11, cl_12, cl_13, cl_14, cl_15, cl_16, cl_17, cl_18, cl_19, cl_20, cl_21, cl_22, cl_23, cl_24, cl_25, cl_26, cl_27, cl_28, cl_29, cl_30, cl_31, cl_32, cl_36, cl_40, cl_48, cl_60, cl_108, cl_120, cl_200, cl_201, cl_576, cl_600, cl_864, cl_900, cl_960, cl_5400, cl_8040, j2_0, iN_iZ, iN_lit0, iZ_add, iZ_sub, iZ_mul, iZ_neg, jZ_add, jZ_sub, jZ_mul, jZ_neg, isB0, isB1, isBZ, eq0, eq1, bZ0, vI_, vJ_, vA_, rI_, rJ_, rA_, rV_, nX_, tX_, true_and, and_true, false_and, and_false, and_self, implies_true, forall_const, not_true_eq_false, not_false_eq_true, false_implies, true_implies, ↓reduceIte, Nat.reduceEqDiff, Int.reduceToNat, Int.reduceAdd, Int.reduceSub, Int.reduceLT, Int.reduceLE, Int.reduceEq, Int.add_zero, Int.neg_zero, Int.add_sub_cancel, Int.reduceNeg, Nat.reduceLeDiff, Nat.reduceSub, true_or, or_true, false_or, or_false, setI_d, setJ_d, setP_d, mI_row, mJ_row, mP_row, mI_row_ne, mJ_row_ne, mP_row_ne, rowI_rowI, rowJ_rowJ, rowI_sort, rowJ_sort, rowJ_rowI, rowP_rowI, rowP_rowJ, fu_app, fu_fu, mI_rowJ, mI_rowP, mJ_rowI, mJ_rowP, mP_rowI, mP_rowJ, mK_rowI, mN_rowI, mK_rowJ, mN_rowJ, mK_rowP, mN_rowP, oB_rowI, oB_rowJ, iA_rowI, iA_rowJ, iR_rowI, iR_rowJ, St_rowI, St_rowJ]
  refine loopN 6 (fun i ls M' => (∃ x, ls = [aR (some 110), aR (some (113 + w)), aI (iZ i), x]) ∧ FP M M' ∧ ZW M' (pW W t i 0) ∧ ZR M' (pRr r t i 0) ∧ ∃ g', ZG M' g' ∧ Gi (pE E t i 0) g') ⟨⟨_, rfl⟩, FP_rfl, pW0, pR0, g, hG, pE0⟩ ?_ ?_
  · intro i hi ls Mi ⟨⟨x, hl⟩, hF, iW, iR, gi, iG, iE⟩ K
    subst hl
    have hi' : (i : Int) < 6 := by omega
    refine wp1_go (n := 2000) ?_
    simp (disch := omega) only [wcQ, wcX, wcG, wcL, wcS, h223_2, w223_2, w223_3, w223_5, w223_8, w223_9, h223_10, w223_10, toI, toJ, toI64, inb_T, inb_iZ, Int.toNat_natCast, cl_0, cl_1, cl_2, cl_3, cl_4, cl_5, cl_6, cl_7, cl_8, cl_9, cl_10, cl_11, cl_12, cl_13, cl_14, cl_15, cl_16, cl_17, cl_18, cl_19, cl_20, cl_21, cl_22, cl_23, cl_24, cl_25, cl_26, cl_27, cl_28, cl_29, cl_30, cl_31, cl_32, cl_36, cl_40, cl_48, cl_60, cl_108, cl_120, cl_200, cl_201, cl_576, cl_600, cl_864, cl_900, cl_960, cl_5400, cl_8040, j2_0, iN_iZ, iN_lit0, iZ_add, iZ_sub, iZ_mul, iZ_neg, jZ_add, jZ_sub, jZ_mul, jZ_neg, isB0, isB1, isBZ, eq0, eq1, bZ0, vI_, vJ_, vA_, rI_, rJ_, rA_, rV_, nX_, tX_, true_and, and_true, false_and, and_false, and_self, implies_true, forall_const, not_true_eq_false, not_false_eq_true, false_implies, true_implies, ↓reduceIte, Nat.reduceEqDiff, Int.reduceToNat, Int.reduceAdd, Int.reduceSub, Int.reduceLT, Int.reduceLE, Int.reduceEq, Int.add_zero, Int.neg_zero, Int.add_sub_cancel, Int.reduceNeg, Nat.reduceLeDiff, Nat.reduceSub, true_or, or_true, false_or, or_false, setI_d, setJ_d, setP_d, mI_row, mJ_row, mP_row, mI_row_ne, mJ_row_ne, mP_row_ne, rowI_rowI, rowJ_rowJ, rowI_sort, rowJ_sort, rowJ_rowI, rowP_rowI, rowP_rowJ, fu_app, fu_fu, mI_rowJ, mI_rowP, mJ_rowI, mJ_rowP, mP_rowI, mP_rowJ, mK_rowI, mN_rowI, mK_rowJ, mN_rowJ, mK_rowP, mN_rowP, oB_rowI, oB_rowJ, iA_rowI, iA_rowJ, iR_rowI, iR_rowJ, St_rowI, St_rowJ, hi']
    refine loopN 6 (fun j ls M' => ls = [aR (some 110), aR (some (113 + w)), aI (iZ i), aI (iZ j)] ∧ FP M M' ∧ ZW M' (pW W t i j) ∧ ZR M' (pRr r t i j) ∧ ∃ g', ZG M' g' ∧ Gi (pE E t i j) g') ⟨rfl, hF, iW, iR, gi, iG, iE⟩ ?_ ?_
    · intro j hj ls Mj ⟨hl, jF, jW, jR, gj, jG, jE⟩ Kj
      subst hl
      have hj' : (j : Int) < 6 := by omega
      have Sj := FZ_S (FP_FZ jF) hS
      have ti : mI Mj (113 + w) i = iZ (t i) := by rw [jF.2.2.2.2 _ (by omega) (by omega)]; exact ht i hi
      have tj : mI Mj (113 + w) j = iZ (t j) := by rw [jF.2.2.2.2 _ (by omega) (by omega)]; exact ht j hj
      have bi := tb i hi
      have bj := tb j hj
      have wne : ¬ eT t i j → ZW Mj (pW W t i (j + 1)) ∧ ZR Mj (pRr r t i (j + 1)) ∧ ∃ g', ZG Mj g' ∧ Gi (pE E t i (j + 1)) g' := fun hn => by
        refine ⟨fun x y hx hy => ?_, fun x hx => ?_, gj, jG, Gi_iff jE (fun x y => ?_)⟩
        · rw [jW x y hx hy]; congr 1
          refine congrArg (W x y + ·) (ind_iff ⟨fun ⟨z, z2⟩ => ⟨by omega, z2⟩, fun ⟨z, z2⟩ => ⟨?_, z2⟩⟩)
          by_cases q : x = i ∧ y = j
          · obtain ⟨rfl, rfl⟩ := q; exact absurd z2 hn
          · omega
        · rw [jR x hx]; congr 1; unfold pRr
          by_cases z : x < i
          · rw [if_pos z, if_pos z]
          · rw [if_neg z, if_neg z]
            by_cases y : x = i
            · subst y
              rw [if_pos rfl, if_pos rfl]
              show _ = r x + (sN (dT t x) j + dT t x j)
              unfold dT
              rw [ind_f hn]; omega
            · rw [if_neg y, if_neg y]
        · constructor
          · rintro (z | ⟨z, z2⟩)
            · exact Or.inl z
            · exact Or.inr ⟨by omega, z2⟩
          · rintro (z | ⟨z, z2⟩)
            · exact Or.inl z
            · by_cases q : x = i ∧ y = j
              · obtain ⟨rfl, rfl⟩ := q; exact absurd z2.2 hn
              · exact Or.inr ⟨by omega, z2⟩
      refine wp1_go (n := 2000) ?_
      by_cases e1 : i = j
      · have e1' : (i : Int) = (j : Int) := by omega
        have h := wne (fun z => z.1 e1)
        simp (disch := omega) only [wcQ, wcX, wcG, wcL, wcS, h223_10, w223_10, w223_11, w223_13, w223_16, w223_17, w223_18, w223_79, w223_82, toI, toJ, toI64, inb_T, inb_iZ, Int.toNat_natCast, cl_0, cl_1, cl_2, cl_3, cl_4, cl_5, cl_6, cl_7, cl_8, cl_9, cl_10, cl_11, cl_12, cl_13, cl_14, cl_15, cl_16, cl_17, cl_18, cl_19, cl_20, cl_21, cl_22, cl_23, cl_24, cl_25, cl_26, cl_27, cl_28, cl_29, cl_30, cl_31, cl_32, cl_36, cl_40, cl_48, cl_60, cl_108, cl_120, cl_200, cl_201, cl_576, cl_600, cl_864, cl_900, cl_960, cl_5400, cl_8040, j2_0, iN_iZ, iN_lit0, iZ_add, iZ_sub, iZ_mul, iZ_neg, jZ_add, jZ_sub, jZ_mul, jZ_neg, isB0, isB1, isBZ, eq0, eq1, bZ0, vI_, vJ_, vA_, rI_, rJ_, rA_, rV_, nX_, tX_, true_and, and_true, false_and, and_false, and_self, implies_true, forall_const, not_true_eq_false, not_false_eq_true, false_implies, true_implies, ↓reduceIte, Nat.reduceEqDiff, Int.reduceToNat, Int.reduceAdd, Int.reduceSub, Int.reduceLT, Int.reduceLE, Int.reduceEq, Int.add_zero, Int.neg_zero, Int.add_sub_cancel, Int.reduceNeg, Nat.reduceLeDiff, Nat.reduceSub, true_or, or_true, false_or, or_false, setI_d, setJ_d, setP_d, mI_row, mJ_row, mP_row, mI_row_ne, mJ_row_ne, mP_row_ne, rowI_rowI, rowJ_rowJ, rowI_sort, rowJ_sort, rowJ_rowI, rowP_rowI, rowP_rowJ, fu_app, fu_fu, mI_rowJ, mI_rowP, mJ_rowI, mJ_rowP, mP_rowI, mP_rowJ, mK_rowI, mN_rowI, mK_rowJ, mN_rowJ, mK_rowP, mN_rowP, oB_rowI, oB_rowJ, iA_rowI, iA_rowJ, iR_rowI, iR_rowJ, St_rowI, St_rowJ, hi', hj', eq_true e1']
        exact Kj _ _ ⟨rfl, jF, h⟩
      · have e1' : ¬ (i : Int) = (j : Int) := by omega
        by_cases e2 : t i = -1
        · have h := wne (fun z => z.2.1 e2)
          simp (disch := omega) only [wcQ, wcX, wcG, wcL, wcS, h223_10, w223_10, w223_11, w223_13, w223_16, w223_17, w223_18, w223_21, w223_22, w223_23, w223_24, w223_25, w223_79, w223_82, toI, toJ, toI64, inb_T, inb_iZ, Int.toNat_natCast, cl_0, cl_1, cl_2, cl_3, cl_4, cl_5, cl_6, cl_7, cl_8, cl_9, cl_10, cl_11, cl_12, cl_13, cl_14, cl_15, cl_16, cl_17, cl_18, cl_19, cl_20, cl_21, cl_22, cl_23, cl_24, cl_25, cl_26, cl_27, cl_28, cl_29, cl_30, cl_31, cl_32, cl_36, cl_40, cl_48, cl_60, cl_108, cl_120, cl_200, cl_201, cl_576, cl_600, cl_864, cl_900, cl_960, cl_5400, cl_8040, j2_0, iN_iZ, iN_lit0, iZ_add, iZ_sub, iZ_mul, iZ_neg, jZ_add, jZ_sub, jZ_mul, jZ_neg, isB0, isB1, isBZ, eq0, eq1, bZ0, vI_, vJ_, vA_, rI_, rJ_, rA_, rV_, nX_, tX_, true_and, and_true, false_and, and_false, and_self, implies_true, forall_const, not_true_eq_false, not_false_eq_true, false_implies, true_implies, ↓reduceIte, Nat.reduceEqDiff, Int.reduceToNat, Int.reduceAdd, Int.reduceSub, Int.reduceLT, Int.reduceLE, Int.reduceEq, Int.add_zero, Int.neg_zero, Int.add_sub_cancel, Int.reduceNeg, Nat.reduceLeDiff, Nat.reduceSub, true_or, or_true, false_or, or_false, setI_d, setJ_d, setP_d, mI_row, mJ_row, mP_row, mI_row_ne, mJ_row_ne, mP_row_ne, rowI_rowI, rowJ_rowJ, rowI_sort, rowJ_sort, rowJ_rowI, rowP_rowI, rowP_rowJ, fu_app, fu_fu, mI_rowJ, mI_rowP, mJ_rowI, mJ_rowP, mP_rowI, mP_rowJ, mK_rowI, mN_rowI, mK_rowJ, mN_rowJ, mK_rowP, mN_rowP, oB_rowI, oB_rowJ, iA_rowI, iA_rowJ, iR_rowI, iR_rowJ, St_rowI, St_rowJ, AA113 Sj hw, KK113 Sj hw, hi', hj', e1', ti, e2]
          exact Kj _ _ ⟨rfl, jF, h⟩
        · by_cases e3 : t j = -1
          · have h := wne (fun z => z.2.2 e3)
            simp (disch := omega) only [wcQ, wcX, wcG, wcL, wcS, h223_10, w223_10, w223_11, w223_13, w223_16, w223_17, w223_18, w223_21, w223_22, w223_23, w223_24, w223_25, w223_28, w223_29, w223_30, w223_31, w223_32, w223_79, w223_82, toI, toJ, toI64, inb_T, inb_iZ, Int.toNat_natCast, cl_0, cl_1, cl_2, cl_3, cl_4, cl_5, cl_6, cl_7, cl_8, cl_9, cl_10, cl_11, cl_12, cl_13, cl_14, cl_15, cl_16, cl_17, cl_18, cl_19, cl_20, cl_21, cl_22, cl_23, cl_24, cl_25, cl_26, cl_27, cl_28, cl_29, cl_30, cl_31, cl_32, cl_36, cl_40, cl_48, cl_60, cl_108, cl_120, cl_200, cl_201, cl_576, cl_600, cl_864, cl_900, cl_960, cl_5400, cl_8040, j2_0, iN_iZ, iN_lit0, iZ_add, iZ_sub, iZ_mul, iZ_neg, jZ_add, jZ_sub, jZ_mul, jZ_neg, isB0, isB1, isBZ, eq0, eq1, bZ0, vI_, vJ_, vA_, rI_, rJ_, rA_, rV_, nX_, tX_, true_and, and_true, false_and, and_false, and_self, implies_true, forall_const, not_true_eq_false, not_false_eq_true, false_implies, true_implies, ↓reduceIte, Nat.reduceEqDiff, Int.reduceToNat, Int.reduceAdd, Int.reduceSub, Int.reduceLT, Int.reduceLE, Int.reduceEq, Int.add_zero, Int.neg_zero, Int.add_sub_cancel, Int.reduceNeg, Nat.reduceLeDiff, Nat.reduceSub, true_or, or_true, false_or, or_false, setI_d, setJ_d, setP_d, mI_row, mJ_row, mP_row, mI_row_ne, mJ_row_ne, mP_row_ne, rowI_rowI, rowJ_rowJ, rowI_sort, rowJ_sort, rowJ_rowI, rowP_rowI, rowP_rowJ, fu_app, fu_fu, mI_rowJ, mI_rowP, mJ_rowI, mJ_rowP, mP_rowI, mP_rowJ, mK_rowI, mN_rowI, mK_rowJ, mN_rowJ, mK_rowP, mN_rowP, oB_rowI, oB_rowJ, iA_rowI, iA_rowJ, iR_rowI, iR_rowJ, St_rowI, St_rowJ, AA113 Sj hw, KK113 Sj hw, hi', hj', e1', ti, e2, tj, e3]
            exact Kj _ _ ⟨rfl, jF, h⟩
          · have he : eT t i j := ⟨e1, e2, e3⟩
            have wij : mI Mj (138 + i) j = iZ (pW W t i j i j) := jW i j hi hj
            have rij : mI Mj 144 i = iZ (pRr r t i j i) := jR i hi
            obtain ⟨gb1, gb2⟩ : gj i < 6 ∧ gj j < 6 := by
              have := (jE.2.1 i).1
              have := (jE.2.1 j).1
              omega
            have gi1 := jG i hi
            have gj1 := jG j hj
            simp (disch := omega) only [wcQ, wcX, wcG, wcL, wcS, h223_10, w223_10, w223_11, w223_13, w223_16, w223_17, w223_18, w223_21, w223_22, w223_23, w223_24, w223_25, w223_28, w223_29, w223_30, w223_31, w223_32, w223_35, w223_36, w223_39, w223_40, w223_41, w223_42, w223_43, w223_44, w223_45, w223_46, w223_47, w223_48, w223_51, w223_52, w223_53, w223_54, w223_55, w223_56, w223_57, w223_58, w223_59, w223_60, w223_61, w223_62, w223_63, w223_64, w223_65, w223_68, w223_69, w223_70, w223_71, w223_74, w223_75, w223_76, toI, toJ, toI64, inb_T, inb_iZ, Int.toNat_natCast, cl_0, cl_1, cl_2, cl_3, cl_4, cl_5, cl_6, cl_7, cl_8, cl_9, cl_10, cl_11, cl_12, cl_13, cl_14, cl_15, cl_16, cl_17, cl_18, cl_19, cl_20, cl_21, cl_22, cl_23, cl_24, cl_25, cl_26, cl_27, cl_28, cl_29, cl_30, cl_31, cl_32, cl_36, cl_40, cl_48, cl_60, cl_108, cl_120, cl_200, cl_201, cl_576, cl_600, cl_864, cl_900, cl_960, cl_5400, cl_8040, j2_0, iN_iZ, iN_lit0, iZ_add, iZ_sub, iZ_mul, iZ_neg, jZ_add, jZ_sub, jZ_mul, jZ_neg, isB0, isB1, isBZ, eq0, eq1, bZ0, vI_, vJ_, vA_, rI_, rJ_, rA_, rV_, nX_, tX_, true_and, and_true, false_and, and_false, and_self, implies_true, forall_const, not_true_eq_false, not_false_eq_true, false_implies, true_implies, ↓reduceIte, Nat.reduceEqDiff, Int.reduceToNat, Int.reduceAdd, Int.reduceSub, Int.reduceLT, Int.reduceLE, Int.reduceEq, Int.add_zero, Int.neg_zero, Int.add_sub_cancel, Int.reduceNeg, Nat.reduceLeDiff, Nat.reduceSub, true_or, or_true, false_or, or_false, setI_d, setJ_d, setP_d, mI_row, mJ_row, mP_row, mI_row_ne, mJ_row_ne, mP_row_ne, rowI_rowI, rowJ_rowJ, rowI_sort, rowJ_sort, rowJ_rowI, rowP_rowI, rowP_rowJ, fu_app, fu_fu, mI_rowJ, mI_rowP, mJ_rowI, mJ_rowP, mP_rowI, mP_rowJ, mK_rowI, mN_rowI, mK_rowJ, mN_rowJ, mK_rowP, mN_rowP, oB_rowI, oB_rowJ, iA_rowI, iA_rowJ, iR_rowI, iR_rowJ, St_rowI, St_rowJ, AA113 Sj hw, KK113 Sj hw, hi', hj', e1', ti, e2, tj, e3, O110 Sj, P110_0 Sj, P110_2 Sj, P110_3 Sj, O137 Sj, K137 Sj, A137 Sj, R137 Sj, PP137 Sj hi, AA138 Sj hi, KK138 Sj hi, K144 Sj, O144 Sj, A144 Sj, K111 Sj, O111 Sj, A111 Sj, wij, rij, gi1, gj1]
            obtain ⟨M1, hM1⟩ : ∃ M1, M1 = rowI (rowI Mj (138 + i) (fu (mI Mj (138 + i)) j (iZ (pW W t i j i j + 1)))) 144 (fu (mI Mj 144) i (iZ (pRr r t i j i + (t i - t j)))) := ⟨_, rfl⟩
            rw [← hM1]
            have F1 : FP Mj M1 := by rw [hM1]; exact FP_tr (FP_row (by omega)) (FP_row (by omega))
            have S1 := FZ_S (FP_FZ F1) Sj
            have G1 : ZG M1 gj := by rw [hM1]; exact ZG_ne (by omega) (ZG_ne (by omega) jG)
            have e222 := c222 (G := G) (d := d) (M := M1) (g := gj) (a := i) (b := j) hst S1 G1 (fun x hx => by have := (jE.2.1 x).1; omega) hi hj
            refine kV e222 (Nat.zero_le _) (fun M2 hq => ?_) (fun e M' h => False.elim h)
            obtain ⟨f, hM2, G2⟩ := hq
            simp (disch := omega) only [wcQ, wcX, wcG, wcL, wcS, h223_10, w223_10, w223_79, w223_82, toI, toJ, toI64, inb_T, inb_iZ, Int.toNat_natCast, cl_0, cl_1, cl_2, cl_3, cl_4, cl_5, cl_6, cl_7, cl_8, cl_9, cl_10, cl_11, cl_12, cl_13, cl_14, cl_15, cl_16, cl_17, cl_18, cl_19, cl_20, cl_21, cl_22, cl_23, cl_24, cl_25, cl_26, cl_27, cl_28, cl_29, cl_30, cl_31, cl_32, cl_36, cl_40, cl_48, cl_60, cl_108, cl_120, cl_200, cl_201, cl_576, cl_600, cl_864, cl_900, cl_960, cl_5400, cl_8040, j2_0, iN_iZ, iN_lit0, iZ_add, iZ_sub, iZ_mul, iZ_neg, jZ_add, jZ_sub, jZ_mul, jZ_neg, isB0, isB1, isBZ, eq0, eq1, bZ0, vI_, vJ_, vA_, rI_, rJ_, rA_, rV_, nX_, tX_, true_and, and_true, false_and, and_false, and_self, implies_true, forall_const, not_true_eq_false, not_false_eq_true, false_implies, true_implies, ↓reduceIte, Nat.reduceEqDiff, Int.reduceToNat, Int.reduceAdd, Int.reduceSub, Int.reduceLT, Int.reduceLE, Int.reduceEq, Int.add_zero, Int.neg_zero, Int.add_sub_cancel, Int.reduceNeg, Nat.reduceLeDiff, Nat.reduceSub, true_or, or_true, false_or, or_false, setI_d, setJ_d, setP_d, mI_row, mJ_row, mP_row, mI_row_ne, mJ_row_ne, mP_row_ne, rowI_rowI, rowJ_rowJ, rowI_sort, rowJ_sort, rowJ_rowI, rowP_rowI, rowP_rowJ, fu_app, fu_fu, mI_rowJ, mI_rowP, mJ_rowI, mJ_rowP, mP_rowI, mP_rowJ, mK_rowI, mN_rowI, mK_rowJ, mN_rowJ, mK_rowP, mN_rowP, oB_rowI, oB_rowJ, iA_rowI, iA_rowJ, iR_rowI, iR_rowJ, St_rowI, St_rowJ]
            refine Kj _ _ ⟨rfl, FP_tr jF (FP_tr F1 (by rw [hM2]; exact FP_row (by omega))), fun x y hx hy => ?_, fun x hx => ?_, mgG gj i j, G2, Gi_iff (Gi_s jE i j) (fun x y => ?_)⟩
            · rw [hM2, mI_row_ne (by omega), hM1, mI_row_ne (by omega)]
              by_cases z : x = i
              · subst z
                rw [mI_row]
                by_cases q : y = j
                · subst q
                  refine (if_pos rfl).trans ?_
                  congr 1
                  unfold pW
                  rw [ind_f (fun z => by omega), ind_t ⟨by omega, he⟩]
                  omega
                · refine (if_neg q).trans ((jW x y hx hy).trans ?_)
                  congr 1
                  exact congrArg (W x y + ·) (ind_iff ⟨fun ⟨z, z2⟩ => ⟨by omega, z2⟩, fun ⟨z, z2⟩ => ⟨by omega, z2⟩⟩)
              · rw [mI_row_ne (by omega), jW x y hx hy]
                congr 1
                exact congrArg (W x y + ·) (ind_iff ⟨fun ⟨z, z2⟩ => ⟨by omega, z2⟩, fun ⟨z, z2⟩ => ⟨by omega, z2⟩⟩)
            · rw [hM2, mI_row_ne (by omega), hM1, mI_row]
              by_cases z : x = i
              · subst z
                refine (if_pos rfl).trans ?_
                congr 1
                unfold pRr
                rw [if_neg (by omega), if_pos rfl, if_neg (by omega), if_pos rfl]
                show _ = r x + (sN (dT t x) j + dT t x j)
                rw [show dT t x j = t x - t j from by unfold dT; rw [ind_t he]; omega]
                omega
              · refine (if_neg z).trans ((jR x hx).trans ?_)
                congr 1
                unfold pRr
                rw [if_neg z, if_neg z]
            · constructor
              · rintro ((z | ⟨z, z2⟩) | ⟨rfl, rfl⟩)
                · exact Or.inl z
                · exact Or.inr ⟨by omega, z2⟩
                · exact Or.inr ⟨by omega, hj, he⟩
              · rintro (z | ⟨z, z2⟩)
                · exact Or.inl (Or.inl z)
                · by_cases q : x = i ∧ y = j
                  · exact Or.inr q
                  · exact Or.inl (Or.inr ⟨by omega, z2⟩)
    · intro ls Mj ⟨hl, jF, jW, jR, gj, jG, jE⟩
      subst hl
      refine wp1_go (n := 2000) ?_
      simp (disch := omega) only [wcQ, wcX, wcG, wcL, wcS, h223_2, w223_2, h223_10, w223_10, w223_11, w223_13, w223_85, w223_88, toI, toJ, toI64, inb_T, inb_iZ, Int.toNat_natCast, cl_0, cl_1, cl_2, cl_3, cl_4, cl_5, cl_6, cl_7, cl_8, cl_9, cl_10, cl_11, cl_12, cl_13, cl_14, cl_15, cl_16, cl_17, cl_18, cl_19, cl_20, cl_21, cl_22, cl_23, cl_24, cl_25, cl_26, cl_27, cl_28, cl_29, cl_30, cl_31, cl_32, cl_36, cl_40, cl_48, cl_60, cl_108, cl_120, cl_200, cl_201, cl_576, cl_600, cl_864, cl_900, cl_960, cl_5400, cl_8040, j2_0, iN_iZ, iN_lit0, iZ_add, iZ_sub, iZ_mul, iZ_neg, jZ_add, jZ_sub, jZ_mul, jZ_neg, isB0, isB1, isBZ, eq0, eq1, bZ0, vI_, vJ_, vA_, rI_, rJ_, rA_, rV_, nX_, tX_, true_and, and_true, false_and, and_false, and_self, implies_true, forall_const, not_true_eq_false, not_false_eq_true, false_implies, true_implies, ↓reduceIte, Nat.reduceEqDiff, Int.reduceToNat, Int.reduceAdd, Int.reduceSub, Int.reduceLT, Int.reduceLE, Int.reduceEq, Int.add_zero, Int.neg_zero, Int.add_sub_cancel, Int.reduceNeg, Nat.reduceLeDiff, Nat.reduceSub, true_or, or_true, false_or, or_false, setI_d, setJ_d, setP_d, mI_row, mJ_row, mP_row, mI_row_ne, mJ_row_ne, mP_row_ne, rowI_rowI, rowJ_rowJ, rowI_sort, rowJ_sort, rowJ_rowI, rowP_rowI, rowP_rowJ, fu_app, fu_fu, mI_rowJ, mI_rowP, mJ_rowI, mJ_rowP, mP_rowI, mP_rowJ, mK_rowI, mN_rowI, mK_rowJ, mN_rowJ, mK_rowP, mN_rowP, oB_rowI, oB_rowJ, iA_rowI, iA_rowJ, iR_rowI, iR_rowJ, St_rowI, St_rowJ]
      refine K _ _ ⟨⟨_, rfl⟩, jF, fun x y hx hy => ?_, fun x hx => ?_, gj, jG, Gi_iff jE (fun x y => ?_)⟩
      · rw [jW x y hx hy]; congr 1
        exact congrArg (W x y + ·) (ind_iff ⟨fun ⟨z, z2⟩ => ⟨by omega, z2⟩, fun ⟨z, z2⟩ => ⟨by omega, z2⟩⟩)
      · rw [jR x hx]; congr 1; unfold pRr
        congr 2
        by_cases z : x < i
        · rw [if_pos z, if_pos (by omega)]
        · rw [if_neg z]
          by_cases y : x = i
          · rw [if_pos y, if_pos (by omega)]
          · rw [if_neg y, if_neg (by omega)]; split <;> rfl
      · unfold pE
        constructor
        · rintro (z | ⟨z, z2⟩)
          · exact Or.inl z
          · exact Or.inr ⟨by omega, z2⟩
        · rintro (z | ⟨z, z2⟩)
          · exact Or.inl z
          · exact Or.inr ⟨by omega, z2⟩
  · intro ls Mi ⟨⟨x, hl⟩, hF, iW, iR, gi, iG, iE⟩
    subst hl
    refine wp1_go (n := 2000) ?_
    simp (disch := omega) only [wcQ, wcX, wcG, wcL, wcS, h223_2, w223_2, w223_3, w223_5, w223_91, toI, toJ, toI64, inb_T, inb_iZ, Int.toNat_natCast, cl_0, cl_1, cl_2, cl_3, cl_4, cl_5, cl_6, cl_7, cl_8, cl_9, cl_10, cl_11, cl_12, cl_13, cl_14, cl_15, cl_16, cl_17, cl_18, cl_19, cl_20, cl_21, cl_22, cl_23, cl_24, cl_25, cl_26, cl_27, cl_28, cl_29, cl_30, cl_31, cl_32, cl_36, cl_40, cl_48, cl_60, cl_108, cl_120, cl_200, cl_201, cl_576, cl_600, cl_864, cl_900, cl_960, cl_5400, cl_8040, j2_0, iN_iZ, iN_lit0, iZ_add, iZ_sub, iZ_mul, iZ_neg, jZ_add, jZ_sub, jZ_mul, jZ_neg, isB0, isB1, isBZ, eq0, eq1, bZ0, vI_, vJ_, vA_, rI_, rJ_, rA_, rV_, nX_, tX_, true_and, and_true, false_and, and_false, and_self, implies_true, forall_const, not_true_eq_false, not_false_eq_true, false_implies, true_implies, ↓reduceIte, Nat.reduceEqDiff, Int.reduceToNat, Int.reduceAdd, Int.reduceSub, Int.reduceLT, Int.reduceLE, Int.reduceEq, Int.add_zero, Int.neg_zero, Int.add_sub_cancel, Int.reduceNeg, Nat.reduceLeDiff, Nat.reduceSub, true_or, or_true, false_or, or_false, setI_d, setJ_d, setP_d, mI_row, mJ_row, mP_row, mI_row_ne, mJ_row_ne, mP_row_ne, rowI_rowI, rowJ_rowJ, rowI_sort, rowJ_sort, rowJ_rowI, rowP_rowI, rowP_rowJ, fu_app, fu_fu, mI_rowJ, mI_rowP, mJ_rowI, mJ_rowP, mP_rowI, mP_rowJ, mK_rowI, mN_rowI, mK_rowJ, mN_rowJ, mK_rowP, mN_rowP, oB_rowI, oB_rowJ, iA_rowI, iA_rowJ, iR_rowI, iR_rowJ, St_rowI, St_rowJ]
    exact ⟨hF, iW, iR, gi, iG, iE⟩
end

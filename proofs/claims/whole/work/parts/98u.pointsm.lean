/-! TRIALS, RUNS, CARDS as the reference keeps them; points worked out. -/
section
variable {G : GE} {d : Nat} {M M' M'' : Mem} {s : Sn} {u c : Nat} {k : Int}
def MSn (M : Mem) (s : Sn) : Prop :=
  (mI M 154 24 = iZ (nBk s) ∧ ∀ r, r < nBk s → ∃ sz, sz ≤ 900 ∧ MC M r sz (eBk s r)) ∧
  (mI M 154 42 = iZ (nTl s) ∧ ∀ i, i < nTl s → mI M 179 i = iZ (eTl s i).1 ∧ mI M 180 i = iZ (eTl s i).2.1 ∧ mI M 181 i = iZ (eTl s i).2.2) ∧
  (mI M 154 43 = iZ (nRn s) ∧ ∀ i, i < nRn s → mI M 182 i = iZ (eRn s i).1 ∧ mI M 183 i = iZ (eRn s i).2.1 ∧ mI M 184 i = iZ (eRn s i).2.2.1 ∧ mI M 185 i = iZ (eRn s i).2.2.2) ∧
  (mI M 154 44 = iZ (nCd s) ∧ ∀ i, i < nCd s → MCd M i (cRn s i) (cDy s i) (cRw s i) (cTm s i) (cRe s i)) ∧
  (mI M 154 45 = iZ (nPt s) ∧ ∀ i, i < nPt s → mI M 195 i = iZ (ePt s i).1 ∧ mI M 196 i = iZ (ePt s i).2.1 ∧ ((ePt s i).2.1 ≠ -1 → mI M 197 i = iZ (ePt s i).2.2.1 ∧ mI M 198 i = iZ (ePt s i).2.2.2))
/-- but for what is worked out all is as it was -/
def FJ (M M' : Mem) : Prop := mK M' = mK M ∧ mN M' = mN M ∧ mP M' = mP M ∧ mJ M' = mJ M ∧ ∀ c, c ≠ 177 → c ≠ 178 → (c < 203 ∨ 212 < c) → mI M' c = mI M c
theorem FJ_rfl : FJ M M := ⟨rfl, rfl, rfl, rfl, fun _ _ _ _ => rfl⟩
theorem FJ_tr (h : FJ M M') (h' : FJ M' M'') : FJ M M'' := by
  obtain ⟨a1, a2, a3, a4, a5⟩ := h
  obtain ⟨b1, b2, b3, b4, b5⟩ := h'
  exact ⟨b1.trans a1, b2.trans a2, b3.trans a3, b4.trans a4, fun c h1 h2 h3 => (b5 c h1 h2 h3).trans (a5 c h1 h2 h3)⟩
theorem FJ_row {c : Nat} {g : Nat → Int32} (h : c = 177 ∨ c = 178 ∨ (203 ≤ c ∧ c ≤ 212)) : FJ M (rowI M c g) := ⟨rfl, rfl, rfl, rfl, fun y h1 h2 h3 => mI_row_ne (by omega)⟩
theorem FJ_S (h : FJ M M') (hS : Static M) : Static M' := by
  obtain ⟨a1, a2, a3, _⟩ := h
  unfold Static at *
  rw [a1, a2, a3]
  exact hS
/-- the reference's cells of TRIALS and so on are as they were -/
def GJ (M M' : Mem) : Prop := (∀ j, (j = 24 ∨ (42 ≤ j ∧ j ≤ 45)) → mI M' 154 j = mI M 154 j) ∧ ∀ c, 162 ≤ c → c ≤ 198 → c ≠ 177 → c ≠ 178 → mI M' c = mI M c
theorem FJ_GJ (h : FJ M M') : GJ M M' := ⟨fun j _ => by rw [h.2.2.2.2 154 (by decide) (by decide) (by decide)], fun c h1 h2 h3 h4 => h.2.2.2.2 c h3 h4 (by omega)⟩
theorem MSn_GJ (h : GJ M M') (hM : MSn M s) : MSn M' s := by
  obtain ⟨h0, h1⟩ := h
  have e := fun c (a : 162 ≤ c) (b : c ≤ 176) => h1 c a (by omega) (by omega) (by omega)
  have f := fun c (a : 179 ≤ c) (b : c ≤ 198) => h1 c (by omega) b (by omega) (by omega)
  unfold MSn MCd MF MB MC ML NM at *
  rw [h0 24 (by omega), h0 42 (by omega), h0 43 (by omega), h0 44 (by omega), h0 45 (by omega)]
  rw [e 162 (by decide) (by decide), e 163 (by decide) (by decide), e 164 (by decide) (by decide), e 165 (by decide) (by decide), e 166 (by decide) (by decide), e 167 (by decide) (by decide), e 168 (by decide) (by decide), e 169 (by decide) (by decide), e 170 (by decide) (by decide), e 171 (by decide) (by decide), e 172 (by decide) (by decide), e 173 (by decide) (by decide), e 174 (by decide) (by decide), e 175 (by decide) (by decide), e 176 (by decide) (by decide)]
  rw [f 179 (by decide) (by decide), f 180 (by decide) (by decide), f 181 (by decide) (by decide), f 182 (by decide) (by decide), f 183 (by decide) (by decide), f 184 (by decide) (by decide), f 185 (by decide) (by decide), f 186 (by decide) (by decide), f 187 (by decide) (by decide), f 188 (by decide) (by decide), f 189 (by decide) (by decide), f 190 (by decide) (by decide), f 191 (by decide) (by decide), f 192 (by decide) (by decide), f 193 (by decide) (by decide), f 194 (by decide) (by decide), f 195 (by decide) (by decide), f 196 (by decide) (by decide), f 197 (by decide) (by decide), f 198 (by decide) (by decide)]
  exact hM
theorem MSn_FJ (h : FJ M M') (hM : MSn M s) : MSn M' s := MSn_GJ (FJ_GJ h) hM
theorem flt_r : ∀ (rows : Rw) (q : Bk), rwK q rows → ∀ y, y ∈ flt rows → y.1 < (bP q).length ∧ y.2.1 < (bF q).length ∧ 0 ≤ y.2.2 ∧ y.2.2 ≤ 99999
  | [], _, _, y, h => absurd h (by show ¬ y ∈ ([] : List (Nat × Nat × Int)); simp)
  | (p, l) :: rows, q, hk, y, h => by
    have h : y ∈ l.map (fun y => (p, y.1, y.2)) ++ flt rows := h
    rcases List.mem_append.mp h with z | z
    · obtain ⟨y0, h0, rfl⟩ := List.mem_map.mp z
      have := hk (p, l) List.mem_cons_self
      exact ⟨this.1, this.2 y0 h0⟩
    · exact flt_r rows q (fun y hy => hk y (List.mem_cons_of_mem _ hy)) y z
theorem c69 (hst : (gl G).stackTraces = false) (hS : Static M) (hO : Sok s) (hM : MSn M s) (hc : c < nCd s) (hu : cRn s c = u) : Ev G (d + 3) 69 [aR (some 154), aI (iZ u), aI (iZ c)] M 0 (rI fun v M' => v = iZ (aC s c).2.1 ∧ FJ M M' ∧ (∀ j, j < (bP (uBk s u)).length → mI M' 205 (8 * u + j) = iZ ((aC s c).1 j)) ∧ (∀ j, (j < 8 * u ∨ 8 * u + 8 ≤ j) → mI M' 205 j = mI M 205 j) ∧ (∀ j y, (aC s c).2.2[j]? = some y → mI M' 206 j = iZ y) ∧ mI M' 203 = mI M 203 ∧ mI M' 204 = mI M 204 ∧ mI M' 208 = mI M 208 ∧ mI M' 209 = mI M 209) nX := by
  obtain ⟨o1, o2, o3, o4, o5, o6⟩ := hO.2.2.2.1.2 c hc
  have n200 := hO.2.2.2.1.1
  have n120 := hO.2.2.1.1
  have t20 := hO.2.1.1
  have b6 := hO.1.1
  rw [hu] at o1 o3
  obtain ⟨x1, x2, x3⟩ := hO.2.2.1.2 u o1
  obtain ⟨y1, y2, y3, y4⟩ := hO.2.1.2 _ x1
  have bo := uBkO hO o1
  have hb := hO.2.1.2
  obtain ⟨m1, m2, m3, m4⟩ := hM.2.2.1.2 u o1
  obtain ⟨m5, _, _⟩ := hM.2.1.2 _ x1
  obtain ⟨sz, z9, hmc⟩ := hM.1.2 _ y1
  obtain ⟨d1, d2, d3, ⟨f1, f2, f3⟩, ⟨bz, bz1, bz2, bz3⟩, d6⟩ := hM.2.2.2.1.2 c hc
  have hA : aC s c = acR (uBk s u) (uHr s u) (uWd s u) (cRw s c) := by unfold aC; rw [hu]
  have frl := flt_r (cRw s c) (uBk s u) o3
  rw [hA]
  have hq : uBk s u = eBk s (eTl s (eRn s u).1).1 := rfl
  generalize uBk s u = q at *
  rw [← hq] at hmc
  have hhr : uHr s u = (eRn s u).2.2.1 := rfl
  have hwd : uWd s u = (eRn s u).2.2.2 := rfl
  generalize uHr s u = hr at *
  generalize uWd s u = wd at *
  generalize (eTl s (eRn s u).1).1 = r at *
  generalize hF : flt (cRw s c) = F at *
  generalize cRw s c = rows at *
  have aP := fun p => acR_p (q := q) (hr := hr) (wd := wd) (p := p) rows (-1) o4
  rw [hF] at aP
  obtain ⟨ab1, ab2⟩ := acR_b (q := q) (hr := hr) (wd := wd) bo.2.1.2 rows
  have aS := acR_sum (q := q) (hr := hr) (wd := wd) rows (-1) (bP q).length o4 (by decide) (fun y hy => (o3 y hy).1)
  have aO := acR_off (q := q) (hr := hr) (wd := wd) rows (-1) [] o4 (fun _ _ => rfl)
  have al := acR_len (q := q) (hr := hr) (wd := wd) rows
  have fl := flt_len rows
  rw [hF] at aO fl
  have p8 := bo.2.1.1
  have f10 := bo.2.2.1
  obtain ⟨g0, _, gP⟩ := hmc.1
  have gF := hmc.2.1.2.2
  generalize hAA : acR q hr wd rows = A at *
  have fb : ∀ j, 0 ≤ A.1 j ∧ A.1 j ≤ 99 := ab2
  refine Ev_wp 2000 hst (by decide) (Nat.le_of_ble_eq_true rfl) ?_; simp (disch := omega) only [en69, wcQ, wcX, wcG, wcL, wcS, w69_0, w69_1, w69_4, w69_5, w69_8, w69_9, w69_10, w69_11, w69_12, w69_13, w69_15, w69_16, h69_18, w69_18, toI, toJ, toI64, inb_T, inb_iZ, Int.toNat_natCast, cl_0, cl_1, cl_2, cl_3, cl_4, cl_5, cl_6, cl_7, cl_8, cl_9, cl_10, cl_11, cl_12, cl_13, cl_14, cl_15, cl_16, cl_17, cl_18, cl_19, cl_20, cl_21, cl_22, cl_23, cl_24, cl_25, cl_26, cl_27, cl_28, cl_29, cl_30, cl_31, cl_32, cl_36, cl_40, cl_48, cl_60, cl_108, cl_120, cl_200, cl_201, cl_576, cl_600, cl_864, cl_900, cl_960, cl_5400, cl_8040, j2_0, iN_iZ, iN_lit0, iZ_add, iZ_sub, iZ_mul, iZ_neg, jZ_add, jZ_sub, jZ_mul, jZ_neg, isB0, isB1, isBZ, eq0, eq1, bZ0, vI_, vJ_, vA_, rI_, rJ_, rA_, rV_, nX_, tX_, true_and, and_true, false_and, and_false, and_self, implies_true, forall_const, not_true_eq_false, not_false_eq_true, false_implies, true_implies, ↓reduceIte, Nat.reduceEqDiff, Int.reduceToNat, Int.reduceAdd, Int.reduceSub, Int.reduceLT, Int.reduceLE, Int.reduceEq, Int.add_zero, Int.neg_zero, Int.add_sub_cancel, Int.reduceNeg, Nat.reduceLeDiff, Nat.reduceSub, true_or, or_true, false_or, or_false, setI_d, setJ_d, setP_d, mI_row, mJ_row, mP_row, mI_row_ne, mJ_row_ne, mP_row_ne, rowI_rowI, rowJ_rowJ, rowI_sort, rowJ_sort, rowJ_rowI, rowP_rowI, rowP_rowJ, fu_app, fu_fu, mI_rowJ, mI_rowP, mJ_rowI, mJ_rowP, mP_rowI, mP_rowJ, mK_rowI, mN_rowI, mK_rowJ, mN_rowJ, mK_rowP, mN_rowP, oB_rowI, oB_rowJ, iA_rowI, iA_rowJ, iR_rowI, iR_rowJ, St_rowI, St_rowJ, K154 hS, O154 hS, P154_0 hS, P154_1 hS, P154_7 hS, P154_8 hS, P154_9 hS, P154_10 hS, P154_11 hS, P154_25 hS, P154_26 hS, P154_27 hS, P154_28 hS, P154_29 hS, P154_30 hS, P154_31 hS, P154_32 hS, P154_33 hS, P154_34 hS, P154_35 hS, P154_36 hS, P154_37 hS, P154_38 hS, P154_39 hS, P154_40 hS, P154_41 hS, P154_46 hS, P154_47 hS, P154_48 hS, P154_49 hS, P154_50 hS, P154_51 hS, P154_52 hS, P154_53 hS, P154_54 hS, P154_55 hS, P154_56 hS, P154_57 hS, P154_58 hS, P154_59 hS, P154_60 hS, P154_61 hS, P154_62 hS, P154_63 hS, P154_64 hS, P154_65 hS, P154_68 hS, P154_69 hS, P154_70 hS, P154_71 hS, P154_72 hS, P154_73 hS, P154_74 hS, P154_75 hS, P154_76 hS, P154_77 hS, P154_78 hS, P154_79 hS, P154_80 hS, P154_81 hS, P154_82 hS, P154_83 hS, P154_84 hS, P154_85 hS, P154_86 hS, P154_87 hS, P154_88 hS, P154_89 hS, K182 hS, O182 hS, A182 hS, K179 hS, O179 hS, A179 hS, P154_46 hS, P154_49 hS, m1, m5]
  refine loopN (bP q).length (fun p ls M' => (∃ x6 x7 x8 x9, ls = [aR (some 154), aI (iZ u), aI (iZ c), aI (iZ r), aI (iZ (sN (fun j => A.1 j) p)), aI (iZ p), x6, x7, x8, x9]) ∧ FJ M M' ∧ (∀ j, j < p → mI M' 205 (8 * u + j) = iZ (A.1 j)) ∧ (∀ j, (j < 8 * u ∨ 8 * u + 8 ≤ j) → mI M' 205 j = mI M 205 j) ∧ (∀ i' y, F[i']? = some y → y.1 < p → mI M' 206 i' = iZ (offI q hr wd F i' y)) ∧ mI M' 203 = mI M 203 ∧ mI M' 204 = mI M 204 ∧ mI M' 208 = mI M 208 ∧ mI M' 209 = mI M 209) ⟨⟨aU, aU, aU, aU, rfl⟩, FJ_rfl, fun j hj => absurd hj (by omega), fun _ _ => rfl, fun _ _ _ h => absurd h (by omega), rfl, rfl, rfl, rfl⟩ ?_ ?_
  · intro p hp ls Mp ⟨⟨x6, x7, x8, x9, hl⟩, hJ, h205, h205b, h206, h203, h204, h208, h209⟩ Kp
    subst hl
    have Sp := FJ_S hJ hS
    have ip := hJ.2.2.2.2
    have gp : mI Mp 164 r = iZ (bP q).length := by rw [ip 164 (by decide) (by decide) (by decide)]; exact g0
    have bzp : mI Mp 190 c = iZ bz := by rw [ip 190 (by decide) (by decide) (by decide)]; exact bz2
    obtain ⟨yp, hyp⟩ := ls_get hp
    have pp : mI Mp 165 (8 * r + p) = iZ yp.2 := by rw [ip 165 (by decide) (by decide) (by decide)]; exact (gP p yp hyp).1
    have vpp : vP q p = yp.2 := by unfold vP; rw [hyp]
    have bit := bit_get (n := bz) (i := p) (by omega) (by omega)
    have hp' : (p : Int) < (bP q).length := by omega
    have sb := sN_b (f := fun j => A.1 j) (a := 0) (b := 99) p (fun j _ => fb j)
    have hix : ((8 : Int) * r + p).toNat = 8 * r + p := by omega
    have vb := bo.2.1.2 p
    -- what is left at first
    have J : ∀ (m : Nat) (L0 : Int), (hasP rows p → L0 = vP q p) → (¬ hasP rows p → L0 = 0) → ∀ x6 : AV, wp (WCo G (d + 2) 69 (rI fun v M' => v = iZ A.2.1 ∧ FJ M M' ∧ (∀ j, j < (bP q).length → mI M' 205 (8 * u + j) = iZ (A.1 j)) ∧ (∀ j, (j < 8 * u ∨ 8 * u + 8 ≤ j) → mI M' 205 j = mI M 205 j) ∧ (∀ j y, A.2.2[j]? = some y → mI M' 206 j = iZ y) ∧ mI M' 203 = mI M 203 ∧ mI M' 204 = mI M 204 ∧ mI M' 208 = mI M 208 ∧ mI M' 209 = mI M 209) nX) 69 (m + 300) 60 [aR (some 154), aI (iZ u), aI (iZ c), aI (iZ r), aI (iZ (sN (fun j => A.1 j) p)), aI (iZ p), x6, x7, x8, x9] [aI (iZ L0)] Mp 0 := by
      intro m L0 hL1 hL0 x6
      have L0b : 0 ≤ L0 ∧ L0 ≤ 99 := by
        by_cases z : hasP rows p
        · rw [hL1 z]; exact vb
        · rw [hL0 z]; decide
      simp (disch := omega) only [wcQ, wcX, wcG, wcL, wcS, w69_60, w69_62, w69_63, h69_65, w69_65, toI, toJ, toI64, inb_T, inb_iZ, Int.toNat_natCast, cl_0, cl_1, cl_2, cl_3, cl_4, cl_5, cl_6, cl_7, cl_8, cl_9, cl_10, cl_11, cl_12, cl_13, cl_14, cl_15, cl_16, cl_17, cl_18, cl_19, cl_20, cl_21, cl_22, cl_23, cl_24, cl_25, cl_26, cl_27, cl_28, cl_29, cl_30, cl_31, cl_32, cl_36, cl_40, cl_48, cl_60, cl_108, cl_120, cl_200, cl_201, cl_576, cl_600, cl_864, cl_900, cl_960, cl_5400, cl_8040, j2_0, iN_iZ, iN_lit0, iZ_add, iZ_sub, iZ_mul, iZ_neg, jZ_add, jZ_sub, jZ_mul, jZ_neg, isB0, isB1, isBZ, eq0, eq1, bZ0, vI_, vJ_, vA_, rI_, rJ_, rA_, rV_, nX_, tX_, true_and, and_true, false_and, and_false, and_self, implies_true, forall_const, not_true_eq_false, not_false_eq_true, false_implies, true_implies, ↓reduceIte, Nat.reduceEqDiff, Int.reduceToNat, Int.reduceAdd, Int.reduceSub, Int.reduceLT, Int.reduceLE, Int.reduceEq, Int.add_zero, Int.neg_zero, Int.add_sub_cancel, Int.reduceNeg, Nat.reduceLeDiff, Nat.reduceSub, true_or, or_true, false_or, or_false, setI_d, setJ_d, setP_d, mI_row, mJ_row, mP_row, mI_row_ne, mJ_row_ne, mP_row_ne, rowI_rowI, rowJ_rowJ, rowI_sort, rowJ_sort, rowJ_rowI, rowP_rowI, rowP_rowJ, fu_app, fu_fu, mI_rowJ, mI_rowP, mJ_rowI, mJ_rowP, mP_rowI, mP_rowJ, mK_rowI, mN_rowI, mK_rowJ, mN_rowJ, mK_rowP, mN_rowP, oB_rowI, oB_rowJ, iA_rowI, iA_rowJ, iR_rowI, iR_rowJ, St_rowI, St_rowJ]
      refine loopN 10 (fun n ls M' => (∃ x8 x9, ls = [aR (some 154), aI (iZ u), aI (iZ c), aI (iZ r), aI (iZ (sN (fun j => A.1 j) p)), aI (iZ p), aI (iZ L0), aI (iZ n), x8, x9]) ∧ ∃ g, M' = rowI Mp 207 g ∧ ∀ j, j < n → g j = iZ 0) ⟨⟨x8, x9, rfl⟩, mI Mp 207, rowI_mI.symm, fun j hj => absurd hj (by omega)⟩ ?_ ?_
      · intro n hn ls Mn ⟨⟨x8, x9, hl⟩, g, hMn, hg⟩ Kn
        subst hl
        have hn' : (n : Int) < 10 := by omega
        have Sn' : Static Mn := by rw [hMn]; exact Sp
        refine wp1_go (n := 2000) ?_
        simp (disch := omega) only [wcQ, wcX, wcG, wcL, wcS, h69_65, w69_65, w69_67, w69_69, w69_72, w69_73, w69_76, w69_78, w69_79, w69_80, w69_83, toI, toJ, toI64, inb_T, inb_iZ, Int.toNat_natCast, cl_0, cl_1, cl_2, cl_3, cl_4, cl_5, cl_6, cl_7, cl_8, cl_9, cl_10, cl_11, cl_12, cl_13, cl_14, cl_15, cl_16, cl_17, cl_18, cl_19, cl_20, cl_21, cl_22, cl_23, cl_24, cl_25, cl_26, cl_27, cl_28, cl_29, cl_30, cl_31, cl_32, cl_36, cl_40, cl_48, cl_60, cl_108, cl_120, cl_200, cl_201, cl_576, cl_600, cl_864, cl_900, cl_960, cl_5400, cl_8040, j2_0, iN_iZ, iN_lit0, iZ_add, iZ_sub, iZ_mul, iZ_neg, jZ_add, jZ_sub, jZ_mul, jZ_neg, isB0, isB1, isBZ, eq0, eq1, bZ0, vI_, vJ_, vA_, rI_, rJ_, rA_, rV_, nX_, tX_, true_and, and_true, false_and, and_false, and_self, implies_true, forall_const, not_true_eq_false, not_false_eq_true, false_implies, true_implies, ↓reduceIte, Nat.reduceEqDiff, Int.reduceToNat, Int.reduceAdd, Int.reduceSub, Int.reduceLT, Int.reduceLE, Int.reduceEq, Int.add_zero, Int.neg_zero, Int.add_sub_cancel, Int.reduceNeg, Nat.reduceLeDiff, Nat.reduceSub, true_or, or_true, false_or, or_false, setI_d, setJ_d, setP_d, mI_row, mJ_row, mP_row, mI_row_ne, mJ_row_ne, mP_row_ne, rowI_rowI, rowJ_rowJ, rowI_sort, rowJ_sort, rowJ_rowI, rowP_rowI, rowP_rowJ, fu_app, fu_fu, mI_rowJ, mI_rowP, mJ_rowI, mJ_rowP, mP_rowI, mP_rowJ, mK_rowI, mN_rowI, mK_rowJ, mN_rowJ, mK_rowP, mN_rowP, oB_rowI, oB_rowJ, iA_rowI, iA_rowJ, iR_rowI, iR_rowJ, St_rowI, St_rowJ, K154 Sn', O154 Sn', P154_76 Sn', K207 Sn', O207 Sn', A207 Sn', hn']
        refine Kn _ _ ⟨⟨_, _, rfl⟩, fu g n (iZ 0), ?_, fun j hj => ?_⟩
        · rw [hMn, mI_row, rowI_rowI]
        · show (if j = n then _ else g j) = _
          by_cases z : j = n
          · rw [if_pos z]
          · rw [if_neg z]; exact hg j (by omega)
      · intro ls Mn ⟨⟨x8, x9, hl⟩, g, hMn, hg⟩
        subst hl
        have Sn' : Static Mn := by rw [hMn]; exact Sp
        refine wp1_go (n := 2000) ?_
        simp (disch := omega) only [wcQ, wcX, wcG, wcL, wcS, h69_65, w69_65, w69_67, w69_69, w69_86, w69_87, h69_89, w69_89, toI, toJ, toI64, inb_T, inb_iZ, Int.toNat_natCast, cl_0, cl_1, cl_2, cl_3, cl_4, cl_5, cl_6, cl_7, cl_8, cl_9, cl_10, cl_11, cl_12, cl_13, cl_14, cl_15, cl_16, cl_17, cl_18, cl_19, cl_20, cl_21, cl_22, cl_23, cl_24, cl_25, cl_26, cl_27, cl_28, cl_29, cl_30, cl_31, cl_32, cl_36, cl_40, cl_48, cl_60, cl_108, cl_120, cl_200, cl_201, cl_576, cl_600, cl_864, cl_900, cl_960, cl_5400, cl_8040, j2_0, iN_iZ, iN_lit0, iZ_add, iZ_sub, iZ_mul, iZ_neg, jZ_add, jZ_sub, jZ_mul, jZ_neg, isB0, isB1, isBZ, eq0, eq1, bZ0, vI_, vJ_, vA_, rI_, rJ_, rA_, rV_, nX_, tX_, true_and, and_true, false_and, and_false, and_self, implies_true, forall_const, not_true_eq_false, not_false_eq_true, false_implies, true_implies, ↓reduceIte, Nat.reduceEqDiff, Int.reduceToNat, Int.reduceAdd, Int.reduceSub, Int.reduceLT, Int.reduceLE, Int.reduceEq, Int.add_zero, Int.neg_zero, Int.add_sub_cancel, Int.reduceNeg, Nat.reduceLeDiff, Nat.reduceSub, true_or, or_true, false_or, or_false, setI_d, setJ_d, setP_d, mI_row, mJ_row, mP_row, mI_row_ne, mJ_row_ne, mP_row_ne, rowI_rowI, rowJ_rowJ, rowI_sort, rowJ_sort, rowJ_rowI, rowP_rowI, rowP_rowJ, fu_app, fu_fu, mI_rowJ, mI_rowP, mJ_rowI, mJ_rowP, mP_rowI, mP_rowJ, mK_rowI, mN_rowI, mK_rowJ, mN_rowJ, mK_rowP, mN_rowP, oB_rowI, oB_rowJ, iA_rowI, iA_rowJ, iR_rowI, iR_rowJ, St_rowI, St_rowJ]
        refine loopN F.length (fun i ls M' => (∃ x8 x9, ls = [aR (some 154), aI (iZ u), aI (iZ c), aI (iZ r), aI (iZ (sN (fun j => A.1 j) p)), aI (iZ p), aI (iZ (acF q hr wd L0 (fun _ => 0) (pick p (F.take i))).1), aI (iZ i), x8, x9]) ∧ FJ Mp M' ∧ mI M' 205 = mI Mp 205 ∧ (mI M' 203 = mI Mp 203 ∧ mI M' 204 = mI Mp 204 ∧ mI M' 208 = mI Mp 208 ∧ mI M' 209 = mI Mp 209) ∧ (∀ j, j < 10 → mI M' 207 j = iZ (tmA (fun _ => 0) (pick p (F.take i)) j)) ∧ ∀ i' y, F[i']? = some y → (y.1 < p ∨ (y.1 = p ∧ i' < i)) → mI M' 206 i' = iZ (offI q hr wd F i' y)) ⟨⟨x8, x9, rfl⟩, by rw [hMn]; exact FJ_row (by omega), by rw [hMn, mI_row_ne (by decide)], ⟨by rw [hMn, mI_row_ne (by decide)], by rw [hMn, mI_row_ne (by decide)], by rw [hMn, mI_row_ne (by decide)], by rw [hMn, mI_row_ne (by decide)]⟩, fun j hj => by rw [hMn, mI_row]; exact hg j hj, fun i' y hy h => by rw [hMn, mI_row_ne (by decide)]; exact h206 i' y hy (by omega)⟩ ?_ ?_
        · intro i hi ls Mi ⟨⟨x8, x9, hl⟩, iJ, i205, iO, i207, i206⟩ Ki
          subst hl
          have Ji := FJ_tr hJ iJ
          have Si := FJ_S Ji hS
          have ii := Ji.2.2.2.2
          obtain ⟨y, hy⟩ := ls_get hi
          obtain ⟨e1, e2, e3⟩ := f3 i y hy
          have gi : mI Mi 189 c = iZ F.length := by rw [ii 189 (by decide) (by decide) (by decide)]; exact f1
          have e1 : mI Mi 191 (40 * c + i) = iZ y.1 := by rw [ii 191 (by decide) (by decide) (by decide)]; exact e1
          have e2 : mI Mi 192 (40 * c + i) = iZ y.2.1 := by rw [ii 192 (by decide) (by decide) (by decide)]; exact e2
          have e3 : mI Mi 193 (40 * c + i) = iZ y.2.2 := by rw [ii 193 (by decide) (by decide) (by decide)]; exact e3
          obtain ⟨q1, q2, q3, q4⟩ := frl y (List.mem_of_getElem? hy)
          have hi' : (i : Int) < F.length := by omega
          have hix2 : ((40 : Int) * c + i).toNat = 40 * c + i := by omega
          have tk : F.take (i + 1) = F.take i ++ [y] := by rw [List.take_add_one, hy]; rfl
          have lf := acF_b (q := q) (hr := hr) (wd := wd) (pick p (F.take i)) L0 (fun _ => 0) L0b.1
          have pl := pick_len (p := p) (F.take i)
          have tl : (F.take i).length ≤ 40 := by rw [List.length_take]; omega
          refine wp1_go (n := 2000) ?_
          by_cases hy1 : y.1 = p
          · have hasp : hasP rows p := by
              apply Classical.byContradiction
              intro hn
              have h0 := ((aP p).2 hn).2
              rw [← List.take_append_drop (i + 1) F, pick_app, tk, pick_app] at h0
              have : pick p [y] = [(y.2.1, y.2.2)] := if_pos hy1
              rw [this] at h0
              simp at h0
            have hL := hL1 hasp
            have e1' : mI Mi 191 (40 * c + i) = iZ p := by rw [e1, hy1]
            have pk : pick p (F.take (i + 1)) = pick p (F.take i) ++ [(y.2.1, y.2.2)] := by
              rw [tk, pick_app]
              congr 1
              exact if_pos hy1
            have ho : offI q hr wd F i y = offN (vF hr wd y.2.2 (tI (tmA (fun _ => 0) (pick p (F.take i))) y.2.1 y.2.1) (acF q hr wd L0 (fun _ => 0) (pick p (F.take i))).1 0 0) (cF q y.2.1) (acF q hr wd L0 (fun _ => 0) (pick p (F.take i))).1 := by
              unfold offI
              rw [hy1, hL]
            have ap := acF_app (q := q) (hr := hr) (wd := wd) (w := y.2.1) (x := y.2.2) (pick p (F.take i)) L0 (fun _ => 0)
            rw [← ho, ← pk] at ap
            have tap := tmA_app (w := y.2.1) (x := y.2.2) (pick p (F.take i)) (fun _ => 0)
            rw [← pk] at tap
            have tle := tmA_le (pick p (F.take i)) (fun _ => 0) y.2.1
            have i207y := i207 y.2.1 (by omega)
            obtain ⟨fy, hfy⟩ := ls_get q2
            obtain ⟨_, st, s1, s2, s3, s4⟩ := gF y.2.1 fy hfy
            have s1 : mI Mi 167 (10 * r + y.2.1) = iZ st := by rw [ii 167 (by decide) (by decide) (by decide)]; exact s1
            have s2 : mI Mi 168 (10 * r + y.2.1) = iZ ((st + (mc fy.2).length : Nat) : Int) := by rw [ii 168 (by decide) (by decide) (by decide)]; exact s2
            have s3 : ML Mi (900 * r + st) (mc fy.2) := by unfold ML at *; rw [ii 176 (by decide) (by decide) (by decide)]; exact s3
            have hwe := bo.1.1 y.2.1 fy hfy
            have m3 : mI Mi 184 u = iZ hr := by rw [ii 184 (by decide) (by decide) (by decide), hhr]; exact m3
            have m4 : mI Mi 185 u = iZ wd := by rw [ii 185 (by decide) (by decide) (by decide), hwd]; exact m4
            generalize hLF : (acF q hr wd L0 (fun _ => 0) (pick p (F.take i))).1 = left at *
            have tIe : tI (tmA (fun _ => 0) (pick p (F.take i))) y.2.1 y.2.1 = tmA (fun _ => 0) (pick p (F.take i)) y.2.1 + 1 := if_pos rfl
            rw [tIe] at ho
            generalize hTM : tmA (fun _ => 0) (pick p (F.take i)) = tm at *
            obtain ⟨M1, hM1⟩ : ∃ M1, M1 = rowI Mi 207 (fu (mI Mi 207) y.2.1 (iZ ((tm y.2.1 : Int) + 1))) := ⟨_, rfl⟩
            have S1 : Static M1 := by rw [hM1]; exact Si
            have ec := c66 (G := G) (d := d + 1) (M := M1) (u := u) hst S1 (by omega)
            have w1 : mI M1 184 u = iZ hr := by rw [hM1, mI_row_ne (by decide)]; exact m3
            have w2 : mI M1 185 u = iZ wd := by rw [hM1, mI_row_ne (by decide)]; exact m4
            rw [w1, w2] at ec
            have hix3 : ((10 : Int) * r + y.2.1).toNat = 10 * r + y.2.1 := by omega
            simp (disch := omega) only [wcQ, wcX, wcG, wcL, wcS, h69_89, w69_89, w69_91, w69_92, w69_95, w69_96, w69_97, w69_100, w69_102, w69_103, w69_104, w69_106, w69_107, w69_109, w69_110, w69_113, w69_115, w69_116, w69_118, w69_124, w69_125, w69_128, w69_130, w69_131, w69_133, w69_134, w69_137, w69_139, w69_140, w69_141, w69_142, w69_143, w69_144, w69_145, w69_146, toI, toJ, toI64, inb_T, inb_iZ, Int.toNat_natCast, cl_0, cl_1, cl_2, cl_3, cl_4, cl_5, cl_6, cl_7, cl_8, cl_9, cl_10, cl_11, cl_12, cl_13, cl_14, cl_15, cl_16, cl_17, cl_18, cl_19, cl_20, cl_21, cl_22, cl_23, cl_24, cl_25, cl_26, cl_27, cl_28, cl_29, cl_30, cl_31, cl_32, cl_36, cl_40, cl_48, cl_60, cl_108, cl_120, cl_200, cl_201, cl_576, cl_600, cl_864, cl_900, cl_960, cl_5400, cl_8040, j2_0, iN_iZ, iN_lit0, iZ_add, iZ_sub, iZ_mul, iZ_neg, jZ_add, jZ_sub, jZ_mul, jZ_neg, isB0, isB1, isBZ, eq0, eq1, bZ0, vI_, vJ_, vA_, rI_, rJ_, rA_, rV_, nX_, tX_, true_and, and_true, false_and, and_false, and_self, implies_true, forall_const, not_true_eq_false, not_false_eq_true, false_implies, true_implies, ↓reduceIte, Nat.reduceEqDiff, Int.reduceToNat, Int.reduceAdd, Int.reduceSub, Int.reduceLT, Int.reduceLE, Int.reduceEq, Int.add_zero, Int.neg_zero, Int.add_sub_cancel, Int.reduceNeg, Nat.reduceLeDiff, Nat.reduceSub, true_or, or_true, false_or, or_false, setI_d, setJ_d, setP_d, mI_row, mJ_row, mP_row, mI_row_ne, mJ_row_ne, mP_row_ne, rowI_rowI, rowJ_rowJ, rowI_sort, rowJ_sort, rowJ_rowI, rowP_rowI, rowP_rowJ, fu_app, fu_fu, mI_rowJ, mI_rowP, mJ_rowI, mJ_rowP, mP_rowI, mP_rowJ, mK_rowI, mN_rowI, mK_rowJ, mN_rowJ, mK_rowP, mN_rowP, oB_rowI, oB_rowJ, iA_rowI, iA_rowJ, iR_rowI, iR_rowJ, St_rowI, St_rowJ, K154 Si, O154 Si, P154_56 Si, P154_58 Si, P154_59 Si, P154_76 Si, K189 Si, O189 Si, A189 Si, K191 Si, O191 Si, A191 Si, K192 Si, O192 Si, A192 Si, K207 Si, O207 Si, A207 Si, gi, hi', hix2, e1', e2, i207y]
            rw [← hM1]
            refine kV ec (Nat.le_refl _) (fun M2 hq => ?_) (fun e M' h => False.elim h)
            have S2 : Static M2 := by rw [hq]; exact S1
            have i2 : ∀ j, j ≠ 177 → j ≠ 207 → mI M2 j = mI Mi j := fun j j1 j2 => by rw [hq, mI_row_ne j1, hM1, mI_row_ne j2]
            have v2 : mI M2 177 = tvR (mI M1 177) hr wd := by rw [hq, mI_row]; rfl
            have n2 : mI M2 207 = fu (mI Mi 207) y.2.1 (iZ ((tm y.2.1 : Int) + 1)) := by rw [hq, mI_row_ne (by decide), hM1, mI_row]
            have n2y : mI M2 207 y.2.1 = iZ ((tm y.2.1 : Int) + 1) := by rw [n2]; exact if_pos rfl
            have e3 : mI M2 193 (40 * c + i) = iZ y.2.2 := by rw [i2 193 (by decide) (by decide)]; exact e3
            have s1 : mI M2 167 (10 * r + y.2.1) = iZ st := by rw [i2 167 (by decide) (by decide)]; exact s1
            have s2 : mI M2 168 (10 * r + y.2.1) = iZ ((st + (mc fy.2).length : Nat) : Int) := by rw [i2 168 (by decide) (by decide)]; exact s2
            have F2 : FJ Mi M2 := by rw [hq, hM1]; exact FJ_tr (FJ_row (by omega)) (FJ_row (by omega))
            clear hq
            obtain ⟨V, hV⟩ : ∃ V, V = fu (fu (fu (tvR (mI M1 177) hr wd) 0 (iZ y.2.2)) 1 (iZ ((tm y.2.1 : Int) + 1))) 4 (iZ left) := ⟨_, rfl⟩
            obtain ⟨M3, hM3⟩ : ∃ M3, M3 = rowI M2 177 V := ⟨_, rfl⟩
            have S3 : Static M3 := by rw [hM3]; exact S2
            have V3 : mI M3 177 = V := by rw [hM3, mI_row]
            have ml3 : ML M3 (900 * r + st) (mc fy.2) := by unfold ML at *; rw [hM3, mI_row_ne (by decide), i2 176 (by decide) (by decide)]; exact s3
            have ed := c68 (G := G) (d := d) (M := M3) (r := r) (t := st) (u := st + (mc fy.2).length) hst S3 (by omega) hwe ml3 rfl (by omega)
            rw [V3] at ed
            have hvl : vl V fy.2 = vl (vF hr wd y.2.2 ((tm y.2.1 + 1 : Nat) : Int) left 0 0) fy.2 := by
              refine vl_cong (fun j hj => ?_) hwe
              have t := tv_ (f := mI M1 177) (hr := hr) (wd := wd) hj
              have hj : j = 0 ∨ j = 1 ∨ j = 2 ∨ j = 3 ∨ j = 4 ∨ j = 5 ∨ j = 6 := by omega
              rw [hV]
              unfold vF fu
              rcases hj with rfl | rfl | rfl | rfl | rfl | rfl | rfl <;> simp [t]
            simp (disch := omega) only [wcQ, wcX, wcG, wcL, wcS, w69_149, w69_150, w69_153, w69_154, w69_155, w69_158, w69_160, w69_161, w69_162, w69_163, w69_166, w69_167, w69_168, w69_171, w69_173, w69_174, w69_175, w69_176, w69_179, w69_180, w69_182, w69_183, w69_184, w69_187, w69_189, w69_191, w69_192, w69_193, w69_194, w69_195, w69_198, w69_200, w69_201, w69_202, w69_204, w69_205, w69_206, w69_207, w69_210, w69_212, w69_213, w69_214, w69_216, w69_217, w69_218, toI, toJ, toI64, inb_T, inb_iZ, Int.toNat_natCast, cl_0, cl_1, cl_2, cl_3, cl_4, cl_5, cl_6, cl_7, cl_8, cl_9, cl_10, cl_11, cl_12, cl_13, cl_14, cl_15, cl_16, cl_17, cl_18, cl_19, cl_20, cl_21, cl_22, cl_23, cl_24, cl_25, cl_26, cl_27, cl_28, cl_29, cl_30, cl_31, cl_32, cl_36, cl_40, cl_48, cl_60, cl_108, cl_120, cl_200, cl_201, cl_576, cl_600, cl_864, cl_900, cl_960, cl_5400, cl_8040, j2_0, iN_iZ, iN_lit0, iZ_add, iZ_sub, iZ_mul, iZ_neg, jZ_add, jZ_sub, jZ_mul, jZ_neg, isB0, isB1, isBZ, eq0, eq1, bZ0, vI_, vJ_, vA_, rI_, rJ_, rA_, rV_, nX_, tX_, true_and, and_true, false_and, and_false, and_self, implies_true, forall_const, not_true_eq_false, not_false_eq_true, false_implies, true_implies, ↓reduceIte, Nat.reduceEqDiff, Int.reduceToNat, Int.reduceAdd, Int.reduceSub, Int.reduceLT, Int.reduceLE, Int.reduceEq, Int.add_zero, Int.neg_zero, Int.add_sub_cancel, Int.reduceNeg, Nat.reduceLeDiff, Nat.reduceSub, true_or, or_true, false_or, or_false, setI_d, setJ_d, setP_d, mI_row, mJ_row, mP_row, mI_row_ne, mJ_row_ne, mP_row_ne, rowI_rowI, rowJ_rowJ, rowI_sort, rowJ_sort, rowJ_rowI, rowP_rowI, rowP_rowJ, fu_app, fu_fu, mI_rowJ, mI_rowP, mJ_rowI, mJ_rowP, mP_rowI, mP_rowJ, mK_rowI, mN_rowI, mK_rowJ, mN_rowJ, mK_rowP, mN_rowP, oB_rowI, oB_rowJ, iA_rowI, iA_rowJ, iR_rowI, iR_rowJ, St_rowI, St_rowJ, K154 S2, O154 S2, P154_40 S2, P154_60 S2, P154_76 S2, P154_75 S2, P154_30 S2, P154_31 S2, K177 S2, O177 S2, A177 S2, K193 S2, O193 S2, A193 S2, K207 S2, O207 S2, A207 S2, K167 S2, O167 S2, A167 S2, K168 S2, O168 S2, A168 S2, hix2, hix3, e3, n2y, s1, s2, v2]
            rw [← hV, ← hM3]
            refine kI ed (Nat.le_refl _) (fun v M4 hq => ?_) (fun e M' h => False.elim h)
            obtain ⟨hv, g4, hM4⟩ := hq
            obtain ⟨z, z1, z2, hz⟩ := i32 v
            have S4 : Static M4 := by rw [hM4]; exact S3
            have j4 := jd4 (G := G) (d := d + 1) (M := M4) (x := 0) (y := z) hst (by omega) (by omega) z1 z2
            have j5 := jd5 (G := G) (d := d + 1) (M := M4) (x := left) (y := if 0 < z then z else 0) hst (by omega) (by omega) (by split <;> omega) (by split <;> omega)
            have hoff : offI q hr wd F i y = if (if 0 < z then z else 0) < left then (if 0 < z then z else 0) else left := by
              rw [ho]
              unfold offN
              rw [cF_at hfy, ← hvl, ← hv, hz, toI z1 z2]
              omega
            have ob : 0 ≤ offI q hr wd F i y ∧ offI q hr wd F i y ≤ left := by rw [ho]; exact offN_b lf.1
            rw [← hoff] at j5
            generalize hOI : offI q hr wd F i y = off at *
            rw [hz]
            simp (disch := omega) only [wcQ, wcX, wcG, wcL, wcS, w69_221, toI, toJ, toI64, inb_T, inb_iZ, Int.toNat_natCast, cl_0, cl_1, cl_2, cl_3, cl_4, cl_5, cl_6, cl_7, cl_8, cl_9, cl_10, cl_11, cl_12, cl_13, cl_14, cl_15, cl_16, cl_17, cl_18, cl_19, cl_20, cl_21, cl_22, cl_23, cl_24, cl_25, cl_26, cl_27, cl_28, cl_29, cl_30, cl_31, cl_32, cl_36, cl_40, cl_48, cl_60, cl_108, cl_120, cl_200, cl_201, cl_576, cl_600, cl_864, cl_900, cl_960, cl_5400, cl_8040, j2_0, iN_iZ, iN_lit0, iZ_add, iZ_sub, iZ_mul, iZ_neg, jZ_add, jZ_sub, jZ_mul, jZ_neg, isB0, isB1, isBZ, eq0, eq1, bZ0, vI_, vJ_, vA_, rI_, rJ_, rA_, rV_, nX_, tX_, true_and, and_true, false_and, and_false, and_self, implies_true, forall_const, not_true_eq_false, not_false_eq_true, false_implies, true_implies, ↓reduceIte, Nat.reduceEqDiff, Int.reduceToNat, Int.reduceAdd, Int.reduceSub, Int.reduceLT, Int.reduceLE, Int.reduceEq, Int.add_zero, Int.neg_zero, Int.add_sub_cancel, Int.reduceNeg, Nat.reduceLeDiff, Nat.reduceSub, true_or, or_true, false_or, or_false, setI_d, setJ_d, setP_d, mI_row, mJ_row, mP_row, mI_row_ne, mJ_row_ne, mP_row_ne, rowI_rowI, rowJ_rowJ, rowI_sort, rowJ_sort, rowJ_rowI, rowP_rowI, rowP_rowJ, fu_app, fu_fu, mI_rowJ, mI_rowP, mJ_rowI, mJ_rowP, mP_rowI, mP_rowJ, mK_rowI, mN_rowI, mK_rowJ, mN_rowJ, mK_rowP, mN_rowP, oB_rowI, oB_rowJ, iA_rowI, iA_rowJ, iR_rowI, iR_rowJ, St_rowI, St_rowJ]
            refine kI0 j4 ?_
            simp (disch := omega) only [wcQ, wcX, wcG, wcL, wcS, w69_224, toI, toJ, toI64, inb_T, inb_iZ, Int.toNat_natCast, cl_0, cl_1, cl_2, cl_3, cl_4, cl_5, cl_6, cl_7, cl_8, cl_9, cl_10, cl_11, cl_12, cl_13, cl_14, cl_15, cl_16, cl_17, cl_18, cl_19, cl_20, cl_21, cl_22, cl_23, cl_24, cl_25, cl_26, cl_27, cl_28, cl_29, cl_30, cl_31, cl_32, cl_36, cl_40, cl_48, cl_60, cl_108, cl_120, cl_200, cl_201, cl_576, cl_600, cl_864, cl_900, cl_960, cl_5400, cl_8040, j2_0, iN_iZ, iN_lit0, iZ_add, iZ_sub, iZ_mul, iZ_neg, jZ_add, jZ_sub, jZ_mul, jZ_neg, isB0, isB1, isBZ, eq0, eq1, bZ0, vI_, vJ_, vA_, rI_, rJ_, rA_, rV_, nX_, tX_, true_and, and_true, false_and, and_false, and_self, implies_true, forall_const, not_true_eq_false, not_false_eq_true, false_implies, true_implies, ↓reduceIte, Nat.reduceEqDiff, Int.reduceToNat, Int.reduceAdd, Int.reduceSub, Int.reduceLT, Int.reduceLE, Int.reduceEq, Int.add_zero, Int.neg_zero, Int.add_sub_cancel, Int.reduceNeg, Nat.reduceLeDiff, Nat.reduceSub, true_or, or_true, false_or, or_false, setI_d, setJ_d, setP_d, mI_row, mJ_row, mP_row, mI_row_ne, mJ_row_ne, mP_row_ne, rowI_rowI, rowJ_rowJ, rowI_sort, rowJ_sort, rowJ_rowI, rowP_rowI, rowP_rowJ, fu_app, fu_fu, mI_rowJ, mI_rowP, mJ_rowI, mJ_rowP, mP_rowI, mP_rowJ, mK_rowI, mN_rowI, mK_rowJ, mN_rowJ, mK_rowP, mN_rowP, oB_rowI, oB_rowJ, iA_rowI, iA_rowJ, iR_rowI, iR_rowJ, St_rowI, St_rowJ]
            refine kI0 j5 ?_
            simp (disch := omega) only [wcQ, wcX, wcG, wcL, wcS, h69_89, w69_89, w69_227, w69_228, w69_230, w69_231, w69_234, w69_236, w69_237, w69_238, w69_240, w69_243, toI, toJ, toI64, inb_T, inb_iZ, Int.toNat_natCast, cl_0, cl_1, cl_2, cl_3, cl_4, cl_5, cl_6, cl_7, cl_8, cl_9, cl_10, cl_11, cl_12, cl_13, cl_14, cl_15, cl_16, cl_17, cl_18, cl_19, cl_20, cl_21, cl_22, cl_23, cl_24, cl_25, cl_26, cl_27, cl_28, cl_29, cl_30, cl_31, cl_32, cl_36, cl_40, cl_48, cl_60, cl_108, cl_120, cl_200, cl_201, cl_576, cl_600, cl_864, cl_900, cl_960, cl_5400, cl_8040, j2_0, iN_iZ, iN_lit0, iZ_add, iZ_sub, iZ_mul, iZ_neg, jZ_add, jZ_sub, jZ_mul, jZ_neg, isB0, isB1, isBZ, eq0, eq1, bZ0, vI_, vJ_, vA_, rI_, rJ_, rA_, rV_, nX_, tX_, true_and, and_true, false_and, and_false, and_self, implies_true, forall_const, not_true_eq_false, not_false_eq_true, false_implies, true_implies, ↓reduceIte, Nat.reduceEqDiff, Int.reduceToNat, Int.reduceAdd, Int.reduceSub, Int.reduceLT, Int.reduceLE, Int.reduceEq, Int.add_zero, Int.neg_zero, Int.add_sub_cancel, Int.reduceNeg, Nat.reduceLeDiff, Nat.reduceSub, true_or, or_true, false_or, or_false, setI_d, setJ_d, setP_d, mI_row, mJ_row, mP_row, mI_row_ne, mJ_row_ne, mP_row_ne, rowI_rowI, rowJ_rowJ, rowI_sort, rowJ_sort, rowJ_rowI, rowP_rowI, rowP_rowJ, fu_app, fu_fu, mI_rowJ, mI_rowP, mJ_rowI, mJ_rowP, mP_rowI, mP_rowJ, mK_rowI, mN_rowI, mK_rowJ, mN_rowJ, mK_rowP, mN_rowP, oB_rowI, oB_rowJ, iA_rowI, iA_rowJ, iR_rowI, iR_rowJ, St_rowI, St_rowJ, K154 S4, O154 S4, P154_75 S4, K206 S4, O206 S4, A206 S4]
            have i4 : ∀ j, j ≠ 177 → j ≠ 178 → j ≠ 207 → mI M4 j = mI Mi j := fun j j1 j2 j3 => by rw [hM4, mI_row_ne j2, hM3, mI_row_ne j1, i2 j j1 j3]
            have n4 : mI M4 207 = fu (mI Mi 207) y.2.1 (iZ ((tm y.2.1 : Int) + 1)) := by rw [hM4, mI_row_ne (by decide), hM3, mI_row_ne (by decide), n2]
            have F4 : FJ Mi M4 := FJ_tr F2 (by rw [hM4, hM3]; exact FJ_tr (FJ_row (by omega)) (FJ_row (by omega)))
            refine Ki _ _ ⟨⟨aI (iZ (40 * (c : Int) + i)), aI (iZ y.2.1), ?_⟩, FJ_tr iJ (FJ_tr F4 (FJ_row (by omega))), ?_, ⟨?_, ?_, ?_, ?_⟩, fun j hj => ?_, fun i' y' hy' h => ?_⟩
            · rw [ap]; rfl
            · rw [mI_row_ne (by decide), i4 205 (by decide) (by decide) (by decide)]; exact i205
            · rw [mI_row_ne (by decide), i4 203 (by decide) (by decide) (by decide)]; exact iO.1
            · rw [mI_row_ne (by decide), i4 204 (by decide) (by decide) (by decide)]; exact iO.2.1
            · rw [mI_row_ne (by decide), i4 208 (by decide) (by decide) (by decide)]; exact iO.2.2.1
            · rw [mI_row_ne (by decide), i4 209 (by decide) (by decide) (by decide)]; exact iO.2.2.2
            · rw [mI_row_ne (by decide), n4, tap]
              unfold fu tI
              by_cases w : j = y.2.1
              · subst w; rw [if_pos rfl, if_pos rfl]; rfl
              · rw [if_neg w, if_neg w]; exact i207 j hj
            · rw [mI_row, i4 206 (by decide) (by decide) (by decide)]
              show (if i' = i then _ else mI Mi 206 i') = _
              by_cases w : i' = i
              · subst w
                rw [hy] at hy'
                cases hy'
                rw [if_pos rfl, hOI]
              · rw [if_neg w]; exact i206 i' y' hy' (by omega)
          · have hy1' : ¬ (y.1 : Int) = (p : Int) := by omega
            have pk : pick p (F.take (i + 1)) = pick p (F.take i) := by
              rw [tk, pick_app, show pick p [y] = [] from if_neg hy1, List.append_nil]
            simp (disch := omega) only [wcQ, wcX, wcG, wcL, wcS, h69_89, w69_89, w69_91, w69_92, w69_95, w69_96, w69_97, w69_100, w69_102, w69_103, w69_104, w69_106, w69_107, w69_109, w69_110, w69_113, w69_115, w69_116, w69_118, w69_121, w69_240, w69_243, toI, toJ, toI64, inb_T, inb_iZ, Int.toNat_natCast, cl_0, cl_1, cl_2, cl_3, cl_4, cl_5, cl_6, cl_7, cl_8, cl_9, cl_10, cl_11, cl_12, cl_13, cl_14, cl_15, cl_16, cl_17, cl_18, cl_19, cl_20, cl_21, cl_22, cl_23, cl_24, cl_25, cl_26, cl_27, cl_28, cl_29, cl_30, cl_31, cl_32, cl_36, cl_40, cl_48, cl_60, cl_108, cl_120, cl_200, cl_201, cl_576, cl_600, cl_864, cl_900, cl_960, cl_5400, cl_8040, j2_0, iN_iZ, iN_lit0, iZ_add, iZ_sub, iZ_mul, iZ_neg, jZ_add, jZ_sub, jZ_mul, jZ_neg, isB0, isB1, isBZ, eq0, eq1, bZ0, vI_, vJ_, vA_, rI_, rJ_, rA_, rV_, nX_, tX_, true_and, and_true, false_and, and_false, and_self, implies_true, forall_const, not_true_eq_false, not_false_eq_true, false_implies, true_implies, ↓reduceIte, Nat.reduceEqDiff, Int.reduceToNat, Int.reduceAdd, Int.reduceSub, Int.reduceLT, Int.reduceLE, Int.reduceEq, Int.add_zero, Int.neg_zero, Int.add_sub_cancel, Int.reduceNeg, Nat.reduceLeDiff, Nat.reduceSub, true_or, or_true, false_or, or_false, setI_d, setJ_d, setP_d, mI_row, mJ_row, mP_row, mI_row_ne, mJ_row_ne, mP_row_ne, rowI_rowI, rowJ_rowJ, rowI_sort, rowJ_sort, rowJ_rowI, rowP_rowI, rowP_rowJ, fu_app, fu_fu, mI_rowJ, mI_rowP, mJ_rowI, mJ_rowP, mP_rowI, mP_rowJ, mK_rowI, mN_rowI, mK_rowJ, mN_rowJ, mK_rowP, mN_rowP, oB_rowI, oB_rowJ, iA_rowI, iA_rowJ, iR_rowI, iR_rowJ, St_rowI, St_rowJ, K154 Si, O154 Si, P154_56 Si, P154_58 Si, K189 Si, O189 Si, A189 Si, K191 Si, O191 Si, A191 Si, gi, hi', hix2, e1, hy1']
            refine Ki _ _ ⟨⟨_, _, by rw [pk]; rfl⟩, iJ, i205, iO, by rw [pk]; exact i207, fun i' y' hy' h => ?_⟩
            refine i206 i' y' hy' ?_
            by_cases w : i' = i
            · subst w
              rw [hy] at hy'
              cases hy'
              omega
            · omega
        · intro ls Mi ⟨⟨x8, x9, hl⟩, iJ, i205, iO, i207, i206⟩
          subst hl
          rw [List.take_length]
          have Ji := FJ_tr hJ iJ
          have Si := FJ_S Ji hS
          have ii := Ji.2.2.2.2
          have gi : mI Mi 189 c = iZ F.length := by rw [ii 189 (by decide) (by decide) (by decide)]; exact f1
          have hleft : (acF q hr wd L0 (fun _ => 0) (pick p F)).1 = A.1 p := by
            by_cases z : hasP rows p
            · rw [hL1 z]; exact ((aP p).1 z).symm
            · rw [((aP p).2 z).2, ((aP p).2 z).1, hL0 z]; rfl
          rw [hleft]
          have hix4 : ((8 : Int) * u + p).toNat = 8 * u + p := by omega
          have fbp := fb p
          refine wp1_go (n := 2000) ?_
          simp (disch := omega) only [wcQ, wcX, wcG, wcL, wcS, h69_18, w69_18, h69_89, w69_89, w69_91, w69_92, w69_95, w69_96, w69_97, w69_246, w69_247, w69_250, w69_252, w69_253, w69_254, w69_256, w69_257, w69_259, w69_260, w69_262, w69_264, w69_265, w69_267, w69_270, toI, toJ, toI64, inb_T, inb_iZ, Int.toNat_natCast, cl_0, cl_1, cl_2, cl_3, cl_4, cl_5, cl_6, cl_7, cl_8, cl_9, cl_10, cl_11, cl_12, cl_13, cl_14, cl_15, cl_16, cl_17, cl_18, cl_19, cl_20, cl_21, cl_22, cl_23, cl_24, cl_25, cl_26, cl_27, cl_28, cl_29, cl_30, cl_31, cl_32, cl_36, cl_40, cl_48, cl_60, cl_108, cl_120, cl_200, cl_201, cl_576, cl_600, cl_864, cl_900, cl_960, cl_5400, cl_8040, j2_0, iN_iZ, iN_lit0, iZ_add, iZ_sub, iZ_mul, iZ_neg, jZ_add, jZ_sub, jZ_mul, jZ_neg, isB0, isB1, isBZ, eq0, eq1, bZ0, vI_, vJ_, vA_, rI_, rJ_, rA_, rV_, nX_, tX_, true_and, and_true, false_and, and_false, and_self, implies_true, forall_const, not_true_eq_false, not_false_eq_true, false_implies, true_implies, ↓reduceIte, Nat.reduceEqDiff, Int.reduceToNat, Int.reduceAdd, Int.reduceSub, Int.reduceLT, Int.reduceLE, Int.reduceEq, Int.add_zero, Int.neg_zero, Int.add_sub_cancel, Int.reduceNeg, Nat.reduceLeDiff, Nat.reduceSub, true_or, or_true, false_or, or_false, setI_d, setJ_d, setP_d, mI_row, mJ_row, mP_row, mI_row_ne, mJ_row_ne, mP_row_ne, rowI_rowI, rowJ_rowJ, rowI_sort, rowJ_sort, rowJ_rowI, rowP_rowI, rowP_rowJ, fu_app, fu_fu, mI_rowJ, mI_rowP, mJ_rowI, mJ_rowP, mP_rowI, mP_rowJ, mK_rowI, mN_rowI, mK_rowJ, mN_rowJ, mK_rowP, mN_rowP, oB_rowI, oB_rowJ, iA_rowI, iA_rowJ, iR_rowI, iR_rowJ, St_rowI, St_rowJ, K154 Si, O154 Si, P154_56 Si, P154_74 Si, K189 Si, O189 Si, A189 Si, K205 Si, O205 Si, A205 Si, gi, Int.lt_irrefl, hix4]
          refine Kp _ _ ⟨⟨_, _, _, _, rfl⟩, FJ_tr Ji (FJ_row (by omega)), fun j hj => ?_, fun j hj => ?_, fun i' y' hy' h => ?_, ?_, ?_, ?_, ?_⟩
          · rw [mI_row, i205]
            show (if 8 * u + j = 8 * u + p then _ else mI Mp 205 (8 * u + j)) = _
            by_cases w : j = p
            · subst w; rw [if_pos rfl]
            · rw [if_neg (by omega)]; exact h205 j (by omega)
          · rw [mI_row, i205]
            show (if j = 8 * u + p then _ else mI Mp 205 j) = _
            rw [if_neg (by omega)]; exact h205b j hj
          · rw [mI_row_ne (by decide)]
            refine i206 i' y' hy' ?_
            have : i' < F.length := by
              by_cases w : i' < F.length
              · exact w
              · rw [List.getElem?_eq_none (by omega)] at hy'; cases hy'
            omega
          · rw [mI_row_ne (by decide), iO.1]; exact h203
          · rw [mI_row_ne (by decide), iO.2.1]; exact h204
          · rw [mI_row_ne (by decide), iO.2.2.1]; exact h208
          · rw [mI_row_ne (by decide), iO.2.2.2]; exact h209
    have bq := bz3 p (by omega)
    refine wp1_go (n := 2000) ?_
    by_cases hb1 : bz / 2 ^ p % 2 = 1
    · have hb1' : ((bz / 2 ^ p % 2 : Nat) : Int) = 1 := by omega
      simp (disch := omega) only [wcQ, wcX, wcG, wcL, wcS, h69_18, w69_18, w69_20, w69_21, w69_24, w69_25, w69_26, w69_29, w69_30, w69_33, w69_34, w69_35, w69_37, w69_38, w69_39, w69_40, w69_41, w69_44, w69_45, w69_48, w69_50, w69_51, w69_52, w69_54, w69_55, w69_56, toI, toJ, toI64, inb_T, inb_iZ, Int.toNat_natCast, cl_0, cl_1, cl_2, cl_3, cl_4, cl_5, cl_6, cl_7, cl_8, cl_9, cl_10, cl_11, cl_12, cl_13, cl_14, cl_15, cl_16, cl_17, cl_18, cl_19, cl_20, cl_21, cl_22, cl_23, cl_24, cl_25, cl_26, cl_27, cl_28, cl_29, cl_30, cl_31, cl_32, cl_36, cl_40, cl_48, cl_60, cl_108, cl_120, cl_200, cl_201, cl_576, cl_600, cl_864, cl_900, cl_960, cl_5400, cl_8040, j2_0, iN_iZ, iN_lit0, iZ_add, iZ_sub, iZ_mul, iZ_neg, jZ_add, jZ_sub, jZ_mul, jZ_neg, isB0, isB1, isBZ, eq0, eq1, bZ0, vI_, vJ_, vA_, rI_, rJ_, rA_, rV_, nX_, tX_, true_and, and_true, false_and, and_false, and_self, implies_true, forall_const, not_true_eq_false, not_false_eq_true, false_implies, true_implies, ↓reduceIte, Nat.reduceEqDiff, Int.reduceToNat, Int.reduceAdd, Int.reduceSub, Int.reduceLT, Int.reduceLE, Int.reduceEq, Int.add_zero, Int.neg_zero, Int.add_sub_cancel, Int.reduceNeg, Nat.reduceLeDiff, Nat.reduceSub, true_or, or_true, false_or, or_false, setI_d, setJ_d, setP_d, mI_row, mJ_row, mP_row, mI_row_ne, mJ_row_ne, mP_row_ne, rowI_rowI, rowJ_rowJ, rowI_sort, rowJ_sort, rowJ_rowI, rowP_rowI, rowP_rowJ, fu_app, fu_fu, mI_rowJ, mI_rowP, mJ_rowI, mJ_rowP, mP_rowI, mP_rowJ, mK_rowI, mN_rowI, mK_rowJ, mN_rowJ, mK_rowP, mN_rowP, oB_rowI, oB_rowJ, iA_rowI, iA_rowJ, iR_rowI, iR_rowJ, St_rowI, St_rowJ, K154 Sp, O154 Sp, P154_27 Sp, P154_57 Sp, P154_28 Sp, K164 Sp, O164 Sp, A164 Sp, K190 Sp, O190 Sp, A190 Sp, K165 Sp, O165 Sp, A165 Sp, gp, hp', bzp, bit, hb1', hix, pp]
      exact J _ yp.2 (fun _ => vpp.symm) (fun z => absurd (bq.mp hb1) z) _
    · have hb1' : ¬ ((bz / 2 ^ p % 2 : Nat) : Int) = 1 := by omega
      simp (disch := omega) only [wcQ, wcX, wcG, wcL, wcS, h69_18, w69_18, w69_20, w69_21, w69_24, w69_25, w69_26, w69_29, w69_30, w69_33, w69_34, w69_35, w69_37, w69_38, w69_39, w69_40, w69_41, w69_59, toI, toJ, toI64, inb_T, inb_iZ, Int.toNat_natCast, cl_0, cl_1, cl_2, cl_3, cl_4, cl_5, cl_6, cl_7, cl_8, cl_9, cl_10, cl_11, cl_12, cl_13, cl_14, cl_15, cl_16, cl_17, cl_18, cl_19, cl_20, cl_21, cl_22, cl_23, cl_24, cl_25, cl_26, cl_27, cl_28, cl_29, cl_30, cl_31, cl_32, cl_36, cl_40, cl_48, cl_60, cl_108, cl_120, cl_200, cl_201, cl_576, cl_600, cl_864, cl_900, cl_960, cl_5400, cl_8040, j2_0, iN_iZ, iN_lit0, iZ_add, iZ_sub, iZ_mul, iZ_neg, jZ_add, jZ_sub, jZ_mul, jZ_neg, isB0, isB1, isBZ, eq0, eq1, bZ0, vI_, vJ_, vA_, rI_, rJ_, rA_, rV_, nX_, tX_, true_and, and_true, false_and, and_false, and_self, implies_true, forall_const, not_true_eq_false, not_false_eq_true, false_implies, true_implies, ↓reduceIte, Nat.reduceEqDiff, Int.reduceToNat, Int.reduceAdd, Int.reduceSub, Int.reduceLT, Int.reduceLE, Int.reduceEq, Int.add_zero, Int.neg_zero, Int.add_sub_cancel, Int.reduceNeg, Nat.reduceLeDiff, Nat.reduceSub, true_or, or_true, false_or, or_false, setI_d, setJ_d, setP_d, mI_row, mJ_row, mP_row, mI_row_ne, mJ_row_ne, mP_row_ne, rowI_rowI, rowJ_rowJ, rowI_sort, rowJ_sort, rowJ_rowI, rowP_rowI, rowP_rowJ, fu_app, fu_fu, mI_rowJ, mI_rowP, mJ_rowI, mJ_rowP, mP_rowI, mP_rowJ, mK_rowI, mN_rowI, mK_rowJ, mN_rowJ, mK_rowP, mN_rowP, oB_rowI, oB_rowJ, iA_rowI, iA_rowJ, iR_rowI, iR_rowJ, St_rowI, St_rowJ, K154 Sp, O154 Sp, P154_27 Sp, P154_57 Sp, K164 Sp, O164 Sp, A164 Sp, K190 Sp, O190 Sp, A190 Sp, gp, hp', bzp, bit, hb1']
      exact J _ 0 (fun z => absurd (bq.mpr z) hb1) (fun _ => rfl) _
  · intro ls Mp ⟨⟨x6, x7, x8, x9, hl⟩, hJ, h205, h205b, h206, h203, h204, h208, h209⟩
    subst hl
    rw [aS]
    have Sp := FJ_S hJ hS
    have ip := hJ.2.2.2.2
    have gp : mI Mp 164 r = iZ (bP q).length := by rw [ip 164 (by decide) (by decide) (by decide)]; exact g0
    refine wp1_go (n := 2000) ?_
    simp (disch := omega) only [wcQ, wcX, wcG, wcL, wcS, h69_18, w69_18, w69_20, w69_21, w69_24, w69_25, w69_26, w69_273, w69_275, toI, toJ, toI64, inb_T, inb_iZ, Int.toNat_natCast, cl_0, cl_1, cl_2, cl_3, cl_4, cl_5, cl_6, cl_7, cl_8, cl_9, cl_10, cl_11, cl_12, cl_13, cl_14, cl_15, cl_16, cl_17, cl_18, cl_19, cl_20, cl_21, cl_22, cl_23, cl_24, cl_25, cl_26, cl_27, cl_28, cl_29, cl_30, cl_31, cl_32, cl_36, cl_40, cl_48, cl_60, cl_108, cl_120, cl_200, cl_201, cl_576, cl_600, cl_864, cl_900, cl_960, cl_5400, cl_8040, j2_0, iN_iZ, iN_lit0, iZ_add, iZ_sub, iZ_mul, iZ_neg, jZ_add, jZ_sub, jZ_mul, jZ_neg, isB0, isB1, isBZ, eq0, eq1, bZ0, vI_, vJ_, vA_, rI_, rJ_, rA_, rV_, nX_, tX_, true_and, and_true, false_and, and_false, and_self, implies_true, forall_const, not_true_eq_false, not_false_eq_true, false_implies, true_implies, ↓reduceIte, Nat.reduceEqDiff, Int.reduceToNat, Int.reduceAdd, Int.reduceSub, Int.reduceLT, Int.reduceLE, Int.reduceEq, Int.add_zero, Int.neg_zero, Int.add_sub_cancel, Int.reduceNeg, Nat.reduceLeDiff, Nat.reduceSub, true_or, or_true, false_or, or_false, setI_d, setJ_d, setP_d, mI_row, mJ_row, mP_row, mI_row_ne, mJ_row_ne, mP_row_ne, rowI_rowI, rowJ_rowJ, rowI_sort, rowJ_sort, rowJ_rowI, rowP_rowI, rowP_rowJ, fu_app, fu_fu, mI_rowJ, mI_rowP, mJ_rowI, mJ_rowP, mP_rowI, mP_rowJ, mK_rowI, mN_rowI, mK_rowJ, mN_rowJ, mK_rowP, mN_rowP, oB_rowI, oB_rowJ, iA_rowI, iA_rowJ, iR_rowI, iR_rowJ, St_rowI, St_rowJ, K154 Sp, O154 Sp, P154_27 Sp, K164 Sp, O164 Sp, A164 Sp, gp, Int.lt_irrefl]
    refine ⟨hJ, h205, h205b, fun j y hy => ?_, h203, h204, h208, h209⟩
    have hj : j < F.length := by
      by_cases w : j < F.length
      · exact w
      · rw [List.getElem?_eq_none (by omega)] at hy; cases hy
    obtain ⟨y', hy'⟩ := ls_get hj
    have e := aO j y' hy'
    rw [hy] at e
    cases e
    rw [h206 j y' hy' (frl y' (List.mem_of_getElem? hy')).1]
    show iZ (offI q hr wd F j y') = iZ (offI q hr wd ([] ++ F) (0 + j) y')
    rw [List.nil_append, Nat.zero_add]
end

/-! The law's loop (printed by a script of mine). -/
section
variable {G : GE} {d : Nat} {Q : QR} {P : Mem → Prop}
def op0 (G : GE) (d : Nat) (P : Mem → Prop) : Prop := ∀ M, P M → ∀ x1 : Int32, ∃ u, u ≤ 740 ∧ Ev G (d + 60) 233 [aR (some 61), aI x1, aR (some 221)] M u (rI fun c M1 => Static M1 ∧ (c = iZ 0 ∨ c = iZ 1 ∨ c = iZ 2) ∧ Ev G (d + 60) 18 [aR (some 154), aI x1] M1 0 (rI fun v M2 => okI P c v M2) nX) nX
def op1 (G : GE) (d : Nat) (P : Mem → Prop) : Prop := ∀ M, P M → ∀ x1 x2 x3 : Int32, ∃ u, u ≤ 740 ∧ Ev G (d + 60) 111 [aR (some 61), aI x1, aI x2, aI x3] M u (rI fun v M1 => Static M1 ∧ Ev G (d + 60) 22 [aR (some 154), aI x1, aI x2, aI x3] M1 0 (rI fun v2 M2 => v2 = v ∧ P M2) nX) nX
def op2 (G : GE) (d : Nat) (P : Mem → Prop) : Prop := ∀ M, P M → ∀ x1 x2 : Int32, ∃ u, u ≤ 740 ∧ Ev G (d + 60) 234 [aR (some 61), aI x1, aI x2, aR (some 221)] M u (rI fun c M1 => Static M1 ∧ (c = iZ 0 ∨ c = iZ 1 ∨ c = iZ 2) ∧ Ev G (d + 60) 23 [aR (some 154), aI x1, aI x2] M1 0 (rJ fun v M2 => okJ P c v M2) nX) nX
def op3 (G : GE) (d : Nat) (P : Mem → Prop) : Prop := ∀ M, P M → ∀ x1 : Int32, ∃ u, u ≤ 740 ∧ Ev G (d + 60) 235 [aR (some 61), aI x1, aR (some 221)] M u (rI fun c M1 => Static M1 ∧ (c = iZ 0 ∨ c = iZ 1 ∨ c = iZ 2) ∧ Ev G (d + 60) 24 [aR (some 154), aI x1] M1 0 (rJ fun v M2 => okJ P c v M2) nX) nX
def op4 (G : GE) (d : Nat) (P : Mem → Prop) : Prop := ∀ M, P M → ∀ x1 x2 x3 x4 x5 : Int32, ∃ u, u ≤ 740 ∧ Ev G (d + 60) 121 [aR (some 61), aI x1, aI x2, aI x3, aI x4, aI x5] M u (rI fun v M1 => Static M1 ∧ Ev G (d + 60) 25 [aR (some 154), aI x1, aI x2, aI x3, aI x4, aI x5] M1 0 (rI fun v2 M2 => v2 = v ∧ P M2) nX) nX
def op5 (G : GE) (d : Nat) (P : Mem → Prop) : Prop := ∀ M, P M → ∀ x1 : Int32, ∃ u, u ≤ 740 ∧ Ev G (d + 60) 236 [aR (some 61), aI x1, aR (some 221)] M u (rI fun c M1 => Static M1 ∧ (c = iZ 0 ∨ c = iZ 1 ∨ c = iZ 2) ∧ Ev G (d + 60) 55 [aR (some 154), aI x1] M1 0 (rI fun v M2 => okI P c v M2) nX) nX
def op6 (G : GE) (d : Nat) (P : Mem → Prop) : Prop := ∀ M, P M → ∃ u, u ≤ 740 ∧ Ev G (d + 60) 160 [aR (some 61)] M u (rI fun v M1 => Static M1 ∧ Ev G (d + 60) 56 [aR (some 154)] M1 0 (rI fun v2 M2 => v2 = v ∧ P M2) nX) nX
def op7 (G : GE) (d : Nat) (P : Mem → Prop) : Prop := ∀ M, P M → ∀ x1 : Int32, ∃ u, u ≤ 740 ∧ Ev G (d + 60) 237 [aR (some 61), aI x1, aR (some 221)] M u (rI fun c M1 => Static M1 ∧ (c = iZ 0 ∨ c = iZ 1 ∨ c = iZ 2) ∧ Ev G (d + 60) 57 [aR (some 154), aI x1] M1 0 (rI fun v M2 => okI P c v M2) nX) nX
def op8 (G : GE) (d : Nat) (P : Mem → Prop) : Prop := ∀ M, P M → ∀ x1 x2 x3 : Int32, ∃ u, u ≤ 740 ∧ Ev G (d + 60) 238 [aR (some 61), aI x1, aI x2, aI x3, aR (some 221)] M u (rI fun c M1 => Static M1 ∧ (c = iZ 0 ∨ c = iZ 1 ∨ c = iZ 2) ∧ Ev G (d + 60) 58 [aR (some 154), aI x1, aI x2, aI x3] M1 0 (rI fun v M2 => okI P c v M2) nX) nX
def op9 (G : GE) (d : Nat) (P : Mem → Prop) : Prop := ∀ M, P M → ∀ x1 x2 x3 x4 x5 : Int32, ∃ u, u ≤ 740 ∧ Ev G (d + 60) 239 [aR (some 61), aI x1, aI x2, aI x3, aI x4, aI x5, aR (some 221)] M u (rI fun c M1 => Static M1 ∧ (c = iZ 0 ∨ c = iZ 1 ∨ c = iZ 2) ∧ Ev G (d + 60) 59 [aR (some 154), aI x1, aI x2, aI x3, aI x4, aI x5] M1 0 (rI fun v M2 => okI P c v M2) nX) nX
def op10 (G : GE) (d : Nat) (P : Mem → Prop) : Prop := ∀ M, P M → ∀ x1 x2 : Int32, ∃ u, u ≤ 740 ∧ Ev G (d + 60) 240 [aR (some 61), aI x1, aI x2, aR (some 221)] M u (rI fun c M1 => Static M1 ∧ (c = iZ 0 ∨ c = iZ 1 ∨ c = iZ 2) ∧ Ev G (d + 60) 63 [aR (some 154), aI x1, aI x2] M1 0 (rI fun v M2 => okI P c v M2) nX) nX
def op11 (G : GE) (d : Nat) (P : Mem → Prop) : Prop := ∀ M, P M → ∀ x1 x2 x3 : Int32, ∃ u, u ≤ 740 ∧ Ev G (d + 60) 241 [aR (some 61), aI x1, aI x2, aI x3, aR (some 221)] M u (rI fun c M1 => Static M1 ∧ (c = iZ 0 ∨ c = iZ 1 ∨ c = iZ 2) ∧ Ev G (d + 60) 75 [aR (some 154), aI x1, aI x2, aI x3] M1 0 (rI fun v M2 => okI P c v M2) nX) nX
def op12 (G : GE) (d : Nat) (P : Mem → Prop) : Prop := ∀ M, P M → ∀ x1 x2 x3 : Int32, ∃ u, u ≤ 740 ∧ Ev G (d + 60) 242 [aR (some 61), aI x1, aI x2, aI x3, aR (some 221)] M u (rI fun c M1 => Static M1 ∧ (c = iZ 0 ∨ c = iZ 1 ∨ c = iZ 2) ∧ Ev G (d + 60) 76 [aR (some 154), aI x1, aI x2, aI x3] M1 0 (rI fun v M2 => okI P c v M2) nX) nX
def op13 (G : GE) (d : Nat) (P : Mem → Prop) : Prop := ∀ M, P M → ∀ x1 : Int32, ∃ u, u ≤ 740 ∧ Ev G (d + 60) 243 [aR (some 61), aI x1, aR (some 221)] M u (rI fun c M1 => Static M1 ∧ (c = iZ 0 ∨ c = iZ 1 ∨ c = iZ 2) ∧ Ev G (d + 60) 77 [aR (some 154), aI x1] M1 0 (rI fun v M2 => okI P c v M2) nX) nX
def op14 (G : GE) (d : Nat) (P : Mem → Prop) : Prop := ∀ M, P M → ∀ x1 x2 x3 : Int32, ∃ u, u ≤ 740 ∧ Ev G (d + 60) 244 [aR (some 61), aI x1, aI x2, aI x3, aR (some 221)] M u (rI fun c M1 => Static M1 ∧ (c = iZ 0 ∨ c = iZ 1 ∨ c = iZ 2) ∧ Ev G (d + 60) 78 [aR (some 154), aI x1, aI x2, aI x3] M1 0 (rI fun v M2 => okD P c v M2) nX) nX
def op15 (G : GE) (d : Nat) (P : Mem → Prop) : Prop := ∀ M, P M → ∀ x1 x2 x3 x4 : Int32, ∃ u, u ≤ 740 ∧ Ev G (d + 60) 245 [aR (some 61), aI x1, aI x2, aI x3, aI x4, aR (some 221)] M u (rI fun c M1 => Static M1 ∧ (c = iZ 0 ∨ c = iZ 1 ∨ c = iZ 2) ∧ Ev G (d + 60) 81 [aR (some 154), aI x1, aI x2, aI x3, aI x4] M1 0 (rI fun v M2 => okI P c v M2) nX) nX
def op16 (G : GE) (d : Nat) (P : Mem → Prop) : Prop := ∀ M, P M → ∀ x1 x2 x3 x4 : Int32, ∃ u, u ≤ 740 ∧ Ev G (d + 60) 246 [aR (some 61), aI x1, aI x2, aI x3, aI x4, aR (some 221)] M u (rI fun c M1 => Static M1 ∧ (c = iZ 0 ∨ c = iZ 1 ∨ c = iZ 2) ∧ Ev G (d + 60) 82 [aR (some 154), aI x1, aI x2, aI x3, aI x4] M1 0 (rI fun v M2 => okI P c v M2) nX) nX
def op17 (G : GE) (d : Nat) (P : Mem → Prop) : Prop := ∀ M, P M → ∃ u, u ≤ 740 ∧ Ev G (d + 60) 211 [aR (some 61)] M u (rV fun M1 => Static M1 ∧ Ev G (d + 60) 83 [aR (some 154)] M1 0 (rV fun M2 => P M2) nX) nX
def op18 (G : GE) (d : Nat) (P : Mem → Prop) : Prop := ∀ M, P M → ∀ x1 : Int32, ∃ u, u ≤ 740 ∧ Ev G (d + 60) 247 [aR (some 61), aI x1, aR (some 221)] M u (rI fun c M1 => Static M1 ∧ (c = iZ 0 ∨ c = iZ 1 ∨ c = iZ 2) ∧ Ev G (d + 60) 84 [aR (some 154), aI x1] M1 0 (rI fun v M2 => okI P c v M2) nX) nX
def op19 (G : GE) (d : Nat) (P : Mem → Prop) : Prop := ∀ M, P M → ∀ x1 x2 x3 : Int32, ∃ u, u ≤ 740 ∧ Ev G (d + 60) 248 [aR (some 61), aL (x1.toInt64 <<< (jZ 32 &&& 63) ||| x2.toInt64 &&& jZ 4294967295), aI x3, aR (some 221)] M u (rI fun c M1 => Static M1 ∧ (c = iZ 0 ∨ c = iZ 1 ∨ c = iZ 2) ∧ Ev G (d + 60) 87 [aR (some 154), aL (x1.toInt64 <<< (jZ 32 &&& 63) ||| x2.toInt64 &&& jZ 4294967295), aI x3] M1 0 (rI fun v M2 => okI P c v M2) nX) nX
def op20 (G : GE) (d : Nat) (P : Mem → Prop) : Prop := ∀ M, P M → ∀ x1 : Int32, ∃ u, u ≤ 740 ∧ Ev G (d + 60) 249 [aR (some 61), aI x1, aR (some 221)] M u (rI fun c M1 => Static M1 ∧ (c = iZ 0 ∨ c = iZ 1 ∨ c = iZ 2) ∧ Ev G (d + 60) 88 [aR (some 154), aI x1] M1 0 (rI fun v M2 => okI P c v M2) nX) nX
def op21 (G : GE) (d : Nat) (P : Mem → Prop) : Prop := ∀ M, P M → ∀ x1 x2 x3 : Int32, ∃ u, u ≤ 740 ∧ Ev G (d + 60) 250 [aR (some 61), aI x1, aI x2, aI x3, aR (some 221)] M u (rI fun c M1 => Static M1 ∧ (c = iZ 0 ∨ c = iZ 1 ∨ c = iZ 2) ∧ Ev G (d + 60) 89 [aR (some 154), aI x1, aI x2, aI x3] M1 0 (rI fun v M2 => okI P c v M2) nX) nX
def op22 (G : GE) (d : Nat) (P : Mem → Prop) : Prop := ∀ M, P M → ∀ x1 x2 x3 : Int32, ∃ u, u ≤ 740 ∧ Ev G (d + 60) 251 [aR (some 61), aI x1, aI x2, aI x3, aR (some 221)] M u (rI fun c M1 => Static M1 ∧ (c = iZ 0 ∨ c = iZ 1 ∨ c = iZ 2) ∧ Ev G (d + 60) 96 [aR (some 154), aI x1, aI x2, aI x3] M1 0 (rJ fun v M2 => okJ P c v M2) nX) nX
def op23 (G : GE) (d : Nat) (P : Mem → Prop) : Prop := ∀ M, P M → ∀ x1 x2 x3 : Int32, ∃ u, u ≤ 740 ∧ Ev G (d + 60) 252 [aR (some 61), aI x1, aI x2, aI x3, aR (some 221)] M u (rI fun c M1 => Static M1 ∧ (c = iZ 0 ∨ c = iZ 1 ∨ c = iZ 2) ∧ Ev G (d + 60) 97 [aR (some 154), aI x1, aI x2, aI x3] M1 0 (rI fun v M2 => okI P c v M2) nX) nX
def op24 (G : GE) (d : Nat) (P : Mem → Prop) : Prop := ∀ M, P M → ∀ x1 : Int32, ∃ u, u ≤ 740 ∧ Ev G (d + 60) 253 [aR (some 61), aI x1, aR (some 221)] M u (rI fun c M1 => Static M1 ∧ (c = iZ 0 ∨ c = iZ 1 ∨ c = iZ 2) ∧ Ev G (d + 60) 98 [aR (some 154), aI x1] M1 0 (rI fun v M2 => okI P c v M2) nX) nX
set_option maxRecDepth 16384 in
theorem law_loop (hst : (gl G).stackTraces = false) (hl : gLn G < 100000) (hPS : ∀ M, P M → Static M) (hQ : ∀ M, P M → Q (some (aI (iZ 1))) M) (o0 : op0 G d P) (o1 : op1 G d P) (o2 : op2 G d P) (o3 : op3 G d P) (o4 : op4 G d P) (o5 : op5 G d P) (o6 : op6 G d P) (o7 : op7 G d P) (o8 : op8 G d P) (o9 : op9 G d P) (o10 : op10 G d P) (o11 : op11 G d P) (o12 : op12 G d P) (o13 : op13 G d P) (o14 : op14 G d P) (o15 : op15 G d P) (o16 : op16 G d P) (o17 : op17 G d P) (o18 : op18 G d P) (o19 : op19 G d P) (o20 : op20 G d P) (o21 : op21 G d P) (o22 : op22 G d P) (o23 : op23 G d P) (o24 : op24 G d P) : ∀ (r i b : Nat) (M : Mem) (y1 y2 y3 : AV), P M → gLn G < i + 6 * r + 6 → i ≤ gLn G + 6 → 740 * r ≤ b → Go G (d + 60) 254 Q nX 23 [aR (some 60), aR (some 61), aR (some 154), aR (some 221), aI (iZ i), y1, y2, y3] [] M b := by
  intro r
  induction r with
  | zero =>
    intro i b M y1 y2 y3 hP h1 h2 hb
    have hi : (gLn G : Int) - 6 < i := by omega
    have hq := hQ M hP
    refine wp1_go (n := 2000) ?_
    simp (disch := omega) only [wcQ, wcX, wcG, wcL, wcS, h254_23, w254_23, w254_25, w254_26, w254_27, w254_29, w254_30, w254_1844, w254_1845, toI, toJ, toI64, inb_T, inb_iZ, Int.toNat_natCast, cl_0, cl_1, cl_2, cl_3, cl_4, cl_5, cl_6, cl_7, cl_8, cl_9, cl_10, cl_11, cl_12, cl_13, cl_14, cl_15, cl_16, cl_17, cl_18, cl_19, cl_20, cl_21, cl_22, cl_23, cl_24, cl_25, cl_26, cl_27, cl_28, cl_29, cl_30, cl_31, cl_32, cl_36, cl_40, cl_48, cl_60, cl_108, cl_120, cl_200, cl_201, cl_576, cl_600, cl_864, cl_900, cl_960, cl_5400, cl_8040, j2_0, iN_iZ, iN_lit0, iZ_add, iZ_sub, iZ_mul, iZ_neg, jZ_add, jZ_sub, jZ_mul, jZ_neg, isB0, isB1, isBZ, eq0, eq1, bZ0, vI_, vJ_, vA_, rI_, rJ_, rA_, rV_, nX_, tX_, true_and, and_true, false_and, and_false, and_self, implies_true, forall_const, not_true_eq_false, not_false_eq_true, false_implies, true_implies, ↓reduceIte, Nat.reduceEqDiff, Int.reduceToNat, Int.reduceAdd, Int.reduceSub, Int.reduceLT, Int.reduceLE, Int.reduceEq, Int.add_zero, Int.neg_zero, Int.add_sub_cancel, Int.reduceNeg, Nat.reduceLeDiff, Nat.reduceSub, true_or, or_true, false_or, or_false, setI_d, setJ_d, setP_d, mI_row, mJ_row, mP_row, mI_row_ne, mJ_row_ne, mP_row_ne, rowI_rowI, rowJ_rowJ, rowI_sort, rowJ_sort, rowJ_rowI, rowP_rowI, rowP_rowJ, fu_app, fu_fu, mI_rowJ, mI_rowP, mJ_rowI, mJ_rowP, mP_rowI, mP_rowJ, mK_rowI, mN_rowI, mK_rowJ, mN_rowJ, mK_rowP, mN_rowP, oB_rowI, oB_rowJ, iA_rowI, iA_rowJ, iR_rowI, iR_rowJ, St_rowI, St_rowJ, hi]
    exact hq
  | succ r ih =>
    intro i b M y1 y2 y3 hP h1 h2 hb
    by_cases hi : i + 6 ≤ gLn G
    · have hi' : ¬ (gLn G : Int) - 6 < i := by omega
      have hi2 : (i : Int) < gLn G := by omega
      have KK : ∀ u, u ≤ 740 → ∀ M2 x y z, P M2 → Go G (d + 60) 254 Q nX 23 [aR (some 60), aR (some 61), aR (some 154), aR (some 221), aI (iZ ((i : Int) + 6)), x, y, z] [] M2 (b - u) := fun u hu M2 x y z h => ih (i + 6) (b - u) M2 x y z h (by omega) (by omega) (by omega)
      obtain ⟨u0, l0, w0⟩ := o0 M hP (gx G (i + 1))
      have t0 := b_156 (m := 1689) (x1 := y1) (x2 := y2) (x3 := y3) hst hi hl w0 (Nat.le_trans l0 (by omega) : u0 ≤ b) (KK u0 l0)
      obtain ⟨u1, l1, w1⟩ := o1 M hP (gx G (i + 1)) (gx G (i + 2)) (gx G (i + 3))
      have t1 := b_212 (m := 1689) (x1 := y1) (x2 := y2) (x3 := y3) hst (hPS _ hP) hi hl w1 (Nat.le_trans l1 (by omega) : u1 ≤ b) (KK u1 l1)
      obtain ⟨u2, l2, w2⟩ := o2 M hP (gx G (i + 1)) (gx G (i + 2))
      have t2 := b_261 (m := 1689) (x1 := y1) (x2 := y2) (x3 := y3) hst hi hl w2 (Nat.le_trans l2 (by omega) : u2 ≤ b) (KK u2 l2)
      obtain ⟨u3, l3, w3⟩ := o3 M hP (gx G (i + 1))
      have t3 := b_328 (m := 1689) (x1 := y1) (x2 := y2) (x3 := y3) hst hi hl w3 (Nat.le_trans l3 (by omega) : u3 ≤ b) (KK u3 l3)
      obtain ⟨u4, l4, w4⟩ := o4 M hP (gx G (i + 1)) (gx G (i + 2)) (gx G (i + 3)) (gx G (i + 4)) (gx G (i + 5))
      have t4 := b_383 (m := 1689) (x1 := y1) (x2 := y2) (x3 := y3) hst (hPS _ hP) hi hl w4 (Nat.le_trans l4 (by omega) : u4 ≤ b) (KK u4 l4)
      obtain ⟨u5, l5, w5⟩ := o5 M hP (gx G (i + 1))
      have t5 := b_456 (m := 1689) (x1 := y1) (x2 := y2) (x3 := y3) hst hi hl w5 (Nat.le_trans l5 (by omega) : u5 ≤ b) (KK u5 l5)
      obtain ⟨u6, l6, w6⟩ := o6 M hP
      have t6 := b_512 (m := 1689) (x1 := y1) (x2 := y2) (x3 := y3) hst (hPS _ hP) hi hl w6 (Nat.le_trans l6 (by omega) : u6 ≤ b) (KK u6 l6)
      obtain ⟨u7, l7, w7⟩ := o7 M hP (gx G (i + 1))
      have t7 := b_525 (m := 1689) (x1 := y1) (x2 := y2) (x3 := y3) hst hi hl w7 (Nat.le_trans l7 (by omega) : u7 ≤ b) (KK u7 l7)
      obtain ⟨u8, l8, w8⟩ := o8 M hP (gx G (i + 1)) (gx G (i + 2)) (gx G (i + 3))
      have t8 := b_581 (m := 1689) (x1 := y1) (x2 := y2) (x3 := y3) hst hi hl w8 (Nat.le_trans l8 (by omega) : u8 ≤ b) (KK u8 l8)
      obtain ⟨u9, l9, w9⟩ := o9 M hP (gx G (i + 1)) (gx G (i + 2)) (gx G (i + 3)) (gx G (i + 4)) (gx G (i + 5))
      have t9 := b_661 (m := 1689) (x1 := y1) (x2 := y2) (x3 := y3) hst hi hl w9 (Nat.le_trans l9 (by omega) : u9 ≤ b) (KK u9 l9)
      obtain ⟨u10, l10, w10⟩ := o10 M hP (gx G (i + 1)) (gx G (i + 2))
      have t10 := b_765 (m := 1689) (x1 := y1) (x2 := y2) (x3 := y3) hst hi hl w10 (Nat.le_trans l10 (by omega) : u10 ≤ b) (KK u10 l10)
      obtain ⟨u11, l11, w11⟩ := o11 M hP (gx G (i + 1)) (gx G (i + 2)) (gx G (i + 3))
      have t11 := b_833 (m := 1689) (x1 := y1) (x2 := y2) (x3 := y3) hst hi hl w11 (Nat.le_trans l11 (by omega) : u11 ≤ b) (KK u11 l11)
      obtain ⟨u12, l12, w12⟩ := o12 M hP (gx G (i + 1)) (gx G (i + 2)) (gx G (i + 3))
      have t12 := b_913 (m := 1689) (x1 := y1) (x2 := y2) (x3 := y3) hst hi hl w12 (Nat.le_trans l12 (by omega) : u12 ≤ b) (KK u12 l12)
      obtain ⟨u13, l13, w13⟩ := o13 M hP (gx G (i + 1))
      have t13 := b_993 (m := 1689) (x1 := y1) (x2 := y2) (x3 := y3) hst hi hl w13 (Nat.le_trans l13 (by omega) : u13 ≤ b) (KK u13 l13)
      obtain ⟨u14, l14, w14⟩ := o14 M hP (gx G (i + 1)) (gx G (i + 2)) (gx G (i + 3))
      have t14 := b_1049 (m := 1689) (x1 := y1) (x2 := y2) (x3 := y3) hst hi hl w14 (Nat.le_trans l14 (by omega) : u14 ≤ b) (KK u14 l14)
      obtain ⟨u15, l15, w15⟩ := o15 M hP (gx G (i + 1)) (gx G (i + 2)) (gx G (i + 3)) (gx G (i + 4))
      have t15 := b_1136 (m := 1689) (x1 := y1) (x2 := y2) (x3 := y3) hst hi hl w15 (Nat.le_trans l15 (by omega) : u15 ≤ b) (KK u15 l15)
      obtain ⟨u16, l16, w16⟩ := o16 M hP (gx G (i + 1)) (gx G (i + 2)) (gx G (i + 3)) (gx G (i + 4))
      have t16 := b_1228 (m := 1689) (x1 := y1) (x2 := y2) (x3 := y3) hst hi hl w16 (Nat.le_trans l16 (by omega) : u16 ≤ b) (KK u16 l16)
      obtain ⟨u17, l17, w17⟩ := o17 M hP
      have t17 := b_1320 (m := 1689) (x1 := y1) (x2 := y2) (x3 := y3) hst (hPS _ hP) hi hl w17 (Nat.le_trans l17 (by omega) : u17 ≤ b) (KK u17 l17)
      obtain ⟨u18, l18, w18⟩ := o18 M hP (gx G (i + 1))
      have t18 := b_1331 (m := 1689) (x1 := y1) (x2 := y2) (x3 := y3) hst hi hl w18 (Nat.le_trans l18 (by omega) : u18 ≤ b) (KK u18 l18)
      obtain ⟨u19, l19, w19⟩ := o19 M hP (gx G (i + 1)) (gx G (i + 2)) (gx G (i + 3))
      have t19 := b_1387 (m := 1689) (x1 := y1) (x2 := y2) (x3 := y3) hst hi hl w19 (Nat.le_trans l19 (by omega) : u19 ≤ b) (KK u19 l19)
      obtain ⟨u20, l20, w20⟩ := o20 M hP (gx G (i + 1))
      have t20 := b_1487 (m := 1689) (x1 := y1) (x2 := y2) (x3 := y3) hst hi hl w20 (Nat.le_trans l20 (by omega) : u20 ≤ b) (KK u20 l20)
      obtain ⟨u21, l21, w21⟩ := o21 M hP (gx G (i + 1)) (gx G (i + 2)) (gx G (i + 3))
      have t21 := b_1543 (m := 1689) (x1 := y1) (x2 := y2) (x3 := y3) hst hi hl w21 (Nat.le_trans l21 (by omega) : u21 ≤ b) (KK u21 l21)
      obtain ⟨u22, l22, w22⟩ := o22 M hP (gx G (i + 1)) (gx G (i + 2)) (gx G (i + 3))
      have t22 := b_1623 (m := 1689) (x1 := y1) (x2 := y2) (x3 := y3) hst hi hl w22 (Nat.le_trans l22 (by omega) : u22 ≤ b) (KK u22 l22)
      obtain ⟨u23, l23, w23⟩ := o23 M hP (gx G (i + 1)) (gx G (i + 2)) (gx G (i + 3))
      have t23 := b_1702 (m := 1689) (x1 := y1) (x2 := y2) (x3 := y3) hst hi hl w23 (Nat.le_trans l23 (by omega) : u23 ≤ b) (KK u23 l23)
      obtain ⟨u24, l24, w24⟩ := o24 M hP (gx G (i + 1))
      have t24 := b_1782 (m := 1689) (x1 := y1) (x2 := y2) (x3 := y3) hst hi hl w24 (Nat.le_trans l24 (by omega) : u24 ≤ b) (KK u24 l24)
      refine wp1_go (n := 2000) ?_
      simp (disch := omega) only [wcQ, wcX, wcG, wcL, wcS, h254_23, w254_23, w254_25, w254_26, w254_27, w254_29, w254_30, w254_33, w254_34, w254_36, w254_37, w254_39, w254_40, toI, toJ, toI64, inb_T, inb_iZ, Int.toNat_natCast, cl_0, cl_1, cl_2, cl_3, cl_4, cl_5, cl_6, cl_7, cl_8, cl_9, cl_10, cl_11, cl_12, cl_13, cl_14, cl_15, cl_16, cl_17, cl_18, cl_19, cl_20, cl_21, cl_22, cl_23, cl_24, cl_25, cl_26, cl_27, cl_28, cl_29, cl_30, cl_31, cl_32, cl_36, cl_40, cl_48, cl_60, cl_108, cl_120, cl_200, cl_201, cl_576, cl_600, cl_864, cl_900, cl_960, cl_5400, cl_8040, j2_0, iN_iZ, iN_lit0, iZ_add, iZ_sub, iZ_mul, iZ_neg, jZ_add, jZ_sub, jZ_mul, jZ_neg, isB0, isB1, isBZ, eq0, eq1, bZ0, vI_, vJ_, vA_, rI_, rJ_, rA_, rV_, nX_, tX_, true_and, and_true, false_and, and_false, and_self, implies_true, forall_const, not_true_eq_false, not_false_eq_true, false_implies, true_implies, ↓reduceIte, Nat.reduceEqDiff, Int.reduceToNat, Int.reduceAdd, Int.reduceSub, Int.reduceLT, Int.reduceLE, Int.reduceEq, Int.add_zero, Int.neg_zero, Int.add_sub_cancel, Int.reduceNeg, Nat.reduceLeDiff, Nat.reduceSub, true_or, or_true, false_or, or_false, setI_d, setJ_d, setP_d, mI_row, mJ_row, mP_row, mI_row_ne, mJ_row_ne, mP_row_ne, rowI_rowI, rowJ_rowJ, rowI_sort, rowJ_sort, rowJ_rowI, rowP_rowI, rowP_rowJ, fu_app, fu_fu, mI_rowJ, mI_rowP, mJ_rowI, mJ_rowP, mP_rowI, mP_rowJ, mK_rowI, mN_rowI, mK_rowJ, mN_rowJ, mK_rowP, mN_rowP, oB_rowI, oB_rowJ, iA_rowI, iA_rowJ, iR_rowI, iR_rowJ, St_rowI, St_rowJ, hi', hi2]
      have hk := KK 0 (Nat.zero_le _) M y1 y2 y3 hP
      rw [Nat.sub_zero] at hk
      refine ⟨fun _ => ?_, fun _ => t0, fun _ => t1, fun _ => t2, fun _ => t3, fun _ => t4, fun _ => t5, fun _ => t6, fun _ => t7, fun _ => t8, fun _ => t9, fun _ => t10, fun _ => t11, fun _ => t12, fun _ => t13, fun _ => t14, fun _ => t15, fun _ => t16, fun _ => t17, fun _ => t18, fun _ => t19, fun _ => t20, fun _ => t21, fun _ => t22, fun _ => t23, fun _ => t24⟩
      simp (disch := omega) only [wcQ, wcX, wcG, wcL, wcS, w254_1838, w254_1841, h254_23, w254_23, toI, toJ, toI64, inb_T, inb_iZ, Int.toNat_natCast, cl_0, cl_1, cl_2, cl_3, cl_4, cl_5, cl_6, cl_7, cl_8, cl_9, cl_10, cl_11, cl_12, cl_13, cl_14, cl_15, cl_16, cl_17, cl_18, cl_19, cl_20, cl_21, cl_22, cl_23, cl_24, cl_25, cl_26, cl_27, cl_28, cl_29, cl_30, cl_31, cl_32, cl_36, cl_40, cl_48, cl_60, cl_108, cl_120, cl_200, cl_201, cl_576, cl_600, cl_864, cl_900, cl_960, cl_5400, cl_8040, j2_0, iN_iZ, iN_lit0, iZ_add, iZ_sub, iZ_mul, iZ_neg, jZ_add, jZ_sub, jZ_mul, jZ_neg, isB0, isB1, isBZ, eq0, eq1, bZ0, vI_, vJ_, vA_, rI_, rJ_, rA_, rV_, nX_, tX_, true_and, and_true, false_and, and_false, and_self, implies_true, forall_const, not_true_eq_false, not_false_eq_true, false_implies, true_implies, ↓reduceIte, Nat.reduceEqDiff, Int.reduceToNat, Int.reduceAdd, Int.reduceSub, Int.reduceLT, Int.reduceLE, Int.reduceEq, Int.add_zero, Int.neg_zero, Int.add_sub_cancel, Int.reduceNeg, Nat.reduceLeDiff, Nat.reduceSub, true_or, or_true, false_or, or_false, setI_d, setJ_d, setP_d, mI_row, mJ_row, mP_row, mI_row_ne, mJ_row_ne, mP_row_ne, rowI_rowI, rowJ_rowJ, rowI_sort, rowJ_sort, rowJ_rowI, rowP_rowI, rowP_rowJ, fu_app, fu_fu, mI_rowJ, mI_rowP, mJ_rowI, mJ_rowP, mP_rowI, mP_rowJ, mK_rowI, mN_rowI, mK_rowJ, mN_rowJ, mK_rowP, mN_rowP, oB_rowI, oB_rowJ, iA_rowI, iA_rowJ, iR_rowI, iR_rowJ, St_rowI, St_rowJ]
      exact hk
    · have hi' : (gLn G : Int) - 6 < i := by omega
      have hq := hQ M hP
      refine wp1_go (n := 2000) ?_
      simp (disch := omega) only [wcQ, wcX, wcG, wcL, wcS, h254_23, w254_23, w254_25, w254_26, w254_27, w254_29, w254_30, w254_1844, w254_1845, toI, toJ, toI64, inb_T, inb_iZ, Int.toNat_natCast, cl_0, cl_1, cl_2, cl_3, cl_4, cl_5, cl_6, cl_7, cl_8, cl_9, cl_10, cl_11, cl_12, cl_13, cl_14, cl_15, cl_16, cl_17, cl_18, cl_19, cl_20, cl_21, cl_22, cl_23, cl_24, cl_25, cl_26, cl_27, cl_28, cl_29, cl_30, cl_31, cl_32, cl_36, cl_40, cl_48, cl_60, cl_108, cl_120, cl_200, cl_201, cl_576, cl_600, cl_864, cl_900, cl_960, cl_5400, cl_8040, j2_0, iN_iZ, iN_lit0, iZ_add, iZ_sub, iZ_mul, iZ_neg, jZ_add, jZ_sub, jZ_mul, jZ_neg, isB0, isB1, isBZ, eq0, eq1, bZ0, vI_, vJ_, vA_, rI_, rJ_, rA_, rV_, nX_, tX_, true_and, and_true, false_and, and_false, and_self, implies_true, forall_const, not_true_eq_false, not_false_eq_true, false_implies, true_implies, ↓reduceIte, Nat.reduceEqDiff, Int.reduceToNat, Int.reduceAdd, Int.reduceSub, Int.reduceLT, Int.reduceLE, Int.reduceEq, Int.add_zero, Int.neg_zero, Int.add_sub_cancel, Int.reduceNeg, Nat.reduceLeDiff, Nat.reduceSub, true_or, or_true, false_or, or_false, setI_d, setJ_d, setP_d, mI_row, mJ_row, mP_row, mI_row_ne, mJ_row_ne, mP_row_ne, rowI_rowI, rowJ_rowJ, rowI_sort, rowJ_sort, rowJ_rowI, rowP_rowI, rowP_rowJ, fu_app, fu_fu, mI_rowJ, mI_rowP, mJ_rowI, mJ_rowP, mP_rowI, mP_rowJ, mK_rowI, mN_rowI, mK_rowJ, mN_rowJ, mK_rowP, mN_rowP, oB_rowI, oB_rowJ, iA_rowI, iA_rowJ, iR_rowI, iR_rowJ, St_rowI, St_rowJ, hi']
      exact hq
end

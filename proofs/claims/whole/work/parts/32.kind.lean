/-! The class's tape: kinds of bytes. -/
section
variable {G : GE} {d : Nat} {M : Mem}
abbrev isSg (z : Int) : Prop := z = 59 ∨ z = 44 ∨ z = 40 ∨ z = 41 ∨ z = 43 ∨ z = 45 ∨ z = 42 ∨ z = 47 ∨ z = 60 ∨ z = 61
/-- the kind of a byte -/
def kd (z : Int) : Int := if 97 ≤ z ∧ z ≤ 122 then 1 else if 48 ≤ z ∧ z ≤ 57 then 2 else if z = 32 ∨ z = 10 then 5 else if isSg z then 3 else 4
theorem i2c_ok : ((List.range 256).all fun n => decide (((iZ n).toUInt32 % 65536).toInt32 = iZ n)) = true := by decide +kernel
theorem i2c_ {z : Int} (h1 : 0 ≤ z) (h2 : z < 256) : ((iZ z).toUInt32 % 65536).toInt32 = iZ z := by
  have := of_decide_eq_true (List.all_eq_true.mp i2c_ok z.toNat (List.mem_range.mpr (by omega)))
  rwa [show ((z.toNat : Nat) : Int) = z by omega] at this
theorem sg_ok : sLen 0 = 10 ∧ ((List.range 10).map fun j => (sByt 0 j).toInt) = [59, 44, 40, 41, 43, 45, 42, 47, 60, 61] := by decide +kernel
theorem hasB0 {z : Int} (h1 : 0 ≤ z) (h2 : z < 256) : hasB 0 z ↔ isSg z := by
  obtain ⟨s1, s2⟩ := sg_ok
  have g : ∀ j, j < 10 → ∀ w, ([59, 44, 40, 41, 43, 45, 42, 47, 60, 61] : List Int)[j]? = some w → (sByt 0 j).toInt = w := by
    intro j hj w hw
    rw [← s2] at hw
    simp [hj] at hw
    exact hw
  unfold hasB isSg
  rw [s1]
  constructor
  · rintro ⟨j, hj, e⟩
    have hc : j = 0 ∨ j = 1 ∨ j = 2 ∨ j = 3 ∨ j = 4 ∨ j = 5 ∨ j = 6 ∨ j = 7 ∨ j = 8 ∨ j = 9 := by omega
    rcases hc with rfl | rfl | rfl | rfl | rfl | rfl | rfl | rfl | rfl | rfl <;> rw [g _ (by omega) _ rfl] at e <;> split at e <;> omega
  · intro h
    rcases h with rfl | rfl | rfl | rfl | rfl | rfl | rfl | rfl | rfl | rfl
    · exact ⟨0, by omega, g _ (by omega) _ rfl⟩
    · exact ⟨1, by omega, g _ (by omega) _ rfl⟩
    · exact ⟨2, by omega, g _ (by omega) _ rfl⟩
    · exact ⟨3, by omega, g _ (by omega) _ rfl⟩
    · exact ⟨4, by omega, g _ (by omega) _ rfl⟩
    · exact ⟨5, by omega, g _ (by omega) _ rfl⟩
    · exact ⟨6, by omega, g _ (by omega) _ rfl⟩
    · exact ⟨7, by omega, g _ (by omega) _ rfl⟩
    · exact ⟨8, by omega, g _ (by omega) _ rfl⟩
    · exact ⟨9, by omega, g _ (by omega) _ rfl⟩
theorem c119 (hst : (gl G).stackTraces = false) {z : Int} (h1 : 0 ≤ z) (h2 : z < 256) : Ev G (d + 5) 119 [aI (iZ z)] M 0 (vI (iZ (kd z)) M) nX := by
  have key : ∀ Q : QR, Q (some (aI (iZ (kd z)))) M → Ev G (d + 5) 119 [aI (iZ z)] M 0 Q nX := by
    intro Q hq
    unfold kd at hq
    have e := jd9 (d := d) (M := M) hst (show 0 < 30 by decide) (by rw [sg_ok.1]; decide) h1 h2
    refine Ev_wp 2000 hst (by decide) (Nat.le_of_ble_eq_true rfl) ?_; simp (disch := omega) only [en119, wcQ, wcX, wcG, wcL, wcS, w119_0, w119_1, w119_3, w119_6, w119_7, w119_9, w119_12, w119_13, w119_14, w119_15, w119_17, w119_20, w119_21, w119_23, w119_26, w119_27, w119_28, w119_29, w119_31, w119_34, w119_35, w119_37, w119_40, w119_41, w119_42, w119_44, w119_45, w119_46, w119_49, w119_52, w119_53, w119_56, w119_57, toI, toJ, toI64, inb_T, inb_iZ, Int.toNat_natCast, cl_0, cl_1, cl_2, cl_3, cl_4, cl_5, cl_6, cl_7, cl_8, cl_9, cl_10, cl_11, cl_12, cl_13, cl_14, cl_15, cl_16, cl_17, cl_18, cl_19, cl_20, cl_21, cl_22, cl_23, cl_24, cl_25, cl_26, cl_27, cl_28, cl_29, cl_30, cl_31, cl_32, cl_36, cl_40, cl_48, cl_60, cl_108, cl_120, cl_200, cl_201, cl_576, cl_600, cl_864, cl_900, cl_960, cl_5400, cl_8040, j2_0, iN_iZ, iN_lit0, iZ_add, iZ_sub, iZ_mul, iZ_neg, jZ_add, jZ_sub, jZ_mul, jZ_neg, isB0, isB1, isBZ, eq0, eq1, bZ0, vI_, vJ_, vA_, rI_, rJ_, rA_, rV_, nX_, tX_, true_and, and_true, false_and, and_false, and_self, implies_true, forall_const, not_true_eq_false, not_false_eq_true, false_implies, true_implies, ↓reduceIte, Nat.reduceEqDiff, Int.reduceToNat, Int.reduceAdd, Int.reduceSub, Int.reduceLT, Int.reduceLE, Int.reduceEq, Int.add_zero, Int.neg_zero, Int.add_sub_cancel, Int.reduceNeg, Nat.reduceLeDiff, Nat.reduceSub, true_or, or_true, false_or, or_false, setI_d, setJ_d, setP_d, mI_row, mJ_row, mP_row, mI_row_ne, mJ_row_ne, mP_row_ne, rowI_rowI, rowJ_rowJ, rowI_sort, rowJ_sort, rowJ_rowI, rowP_rowI, rowP_rowJ, fu_app, fu_fu, mI_rowJ, mI_rowP, mJ_rowI, mJ_rowP, mP_rowI, mP_rowJ, mK_rowI, mN_rowI, mK_rowJ, mN_rowJ, mK_rowP, mN_rowP, oB_rowI, oB_rowJ, iA_rowI, iA_rowJ, iR_rowI, iR_rowJ, St_rowI, St_rowJ, i2c_]
    repeat' (first | apply And.intro | intro _)
    all_goals first
      | (refine kI e (Nat.le_refl _) (fun v M' hq' => ?_) (fun e M' h => False.elim h)
         obtain ⟨rfl, r, rfl, r1, r2, r3⟩ := hq'
         rw [hasB0 h1 h2] at r3
         simp (disch := omega) only [wcQ, wcX, wcG, wcL, wcS, w119_0, w119_1, w119_3, w119_6, w119_7, w119_9, w119_12, w119_13, w119_14, w119_15, w119_17, w119_20, w119_21, w119_23, w119_26, w119_27, w119_28, w119_29, w119_31, w119_34, w119_35, w119_37, w119_40, w119_41, w119_42, w119_44, w119_45, w119_46, w119_49, w119_52, w119_53, w119_56, w119_57, toI, toJ, toI64, inb_T, inb_iZ, Int.toNat_natCast, cl_0, cl_1, cl_2, cl_3, cl_4, cl_5, cl_6, cl_7, cl_8, cl_9, cl_10, cl_11, cl_12, cl_13, cl_14, cl_15, cl_16, cl_17, cl_18, cl_19, cl_20, cl_21, cl_22, cl_23, cl_24, cl_25, cl_26, cl_27, cl_28, cl_29, cl_30, cl_31, cl_32, cl_36, cl_40, cl_48, cl_60, cl_108, cl_120, cl_200, cl_201, cl_576, cl_600, cl_864, cl_900, cl_960, cl_5400, cl_8040, j2_0, iN_iZ, iN_lit0, iZ_add, iZ_sub, iZ_mul, iZ_neg, jZ_add, jZ_sub, jZ_mul, jZ_neg, isB0, isB1, isBZ, eq0, eq1, bZ0, vI_, vJ_, vA_, rI_, rJ_, rA_, rV_, nX_, tX_, true_and, and_true, false_and, and_false, and_self, implies_true, forall_const, not_true_eq_false, not_false_eq_true, false_implies, true_implies, ↓reduceIte, Nat.reduceEqDiff, Int.reduceToNat, Int.reduceAdd, Int.reduceSub, Int.reduceLT, Int.reduceLE, Int.reduceEq, Int.add_zero, Int.neg_zero, Int.add_sub_cancel, Int.reduceNeg, Nat.reduceLeDiff, Nat.reduceSub, true_or, or_true, false_or, or_false, setI_d, setJ_d, setP_d, mI_row, mJ_row, mP_row, mI_row_ne, mJ_row_ne, mP_row_ne, rowI_rowI, rowJ_rowJ, rowI_sort, rowJ_sort, rowJ_rowI, rowP_rowI, rowP_rowJ, fu_app, fu_fu, mI_rowJ, mI_rowP, mJ_rowI, mJ_rowP, mP_rowI, mP_rowJ, mK_rowI, mN_rowI, mK_rowJ, mN_rowJ, mK_rowP, mN_rowP, oB_rowI, oB_rowJ, iA_rowI, iA_rowJ, iR_rowI, iR_rowJ, St_rowI, St_rowJ]
         rw [if_neg (by omega), if_neg (by omega), if_neg (by omega)] at hq
         by_cases hs : isSg z
         · rw [if_pos hs] at hq
           exact ⟨fun h => absurd (r3.mpr hs) (by omega), fun _ => hq⟩
         · rw [if_neg hs] at hq
           exact ⟨fun _ => hq, fun h => absurd (r3.mp (by omega)) hs⟩)
      | (rw [if_pos (by omega)] at hq; exact hq)
      | (rw [if_neg (by omega), if_pos (by omega)] at hq; exact hq)
      | (rw [if_neg (by omega), if_neg (by omega), if_pos (by omega)] at hq; exact hq)
      | (exfalso; omega)
      | decide
  exact key _ ⟨_, rfl, rfl, rfl⟩
end

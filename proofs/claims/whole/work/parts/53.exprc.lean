/-! EXPRS: the class's side. -/
section
variable {G : GE} {d : Nat} {M : Mem} {B : Nat → Nat} {n b f cd s c : Nat}
/-- a row with these written from s on -/
def apL (f : Nat → Int32) (s : Nat) (l : List Int) : Nat → Int32 := fun j => if s ≤ j ∧ j < s + l.length then iZ ((l[j - s]?).getD 0) else f j
theorem apL_nil {f : Nat → Int32} {s : Nat} : apL f s [] = f := by funext j; unfold apL; rw [if_neg]; simp
theorem apL_one {f : Nat → Int32} {s : Nat} {x : Int} : fu f s (iZ x) = apL f s [x] := by
  funext j
  unfold fu apL
  by_cases h : j = s
  · subst h; simp
  · rw [if_neg h, if_neg]; simp; omega
theorem apL_app {f : Nat → Int32} {s : Nat} {l l' : List Int} : apL (apL f s l) (s + l.length) l' = apL f s (l ++ l') := by
  funext j
  unfold apL
  by_cases h1 : s + l.length ≤ j ∧ j < s + l.length + l'.length
  · rw [if_pos h1, if_pos (by simp; omega), List.getElem?_append_right (by omega), show j - (s + l.length) = j - s - l.length by omega]
  · rw [if_neg h1]
    by_cases h2 : s ≤ j ∧ j < s + l.length
    · rw [if_pos h2, if_pos (by simp; omega), List.getElem?_append_left (by omega)]
    · rw [if_neg h2, if_neg (by simp; omega)]
/-- the state at a TOKEN, with so many numbers made -/
def fsM (M : Mem) (B : Nat → Nat) (n f cd c s : Nat) (w : Nat → Int32) : Mem := rowI (rowI (rowI M 91 (tR B n c (mI M 91))) f (fu (mI M f) 2 (iZ s))) cd w
/-- the state where it was refused -/
def feM (M : Mem) (B : Nat → Nat) (n f cd k p s : Nat) (w : Nat → Int32) : Mem := rowI (rowI (rowI M 91 (fu (fu (tR B n p (mI M 91)) 2 (iZ k)) 3 (iZ p))) f (fu (mI M f) 2 (iZ s))) cd w
def FC (M : Mem) (f cd n s : Nat) : Prop := oB M f 3 ∧ oB M cd 20 ∧ mK M cd = (20, n) ∧ mP M f 1 = some cd ∧ mI M f 2 = iZ s ∧ 221 < f ∧ 221 < cd ∧ f ≠ cd
def RS (M : Mem) (B : Nat → Nat) (n f cd s : Nat) (r : PR) (v : Int32) (M' : Mem) : Prop := match r with
  | .inr (c, l) => v = iZ 1 ∧ M' = fsM M B n f cd c (s + l.length) (apL (mI M cd) s l)
  | .inl (k, p) => v = iZ 0 ∧ ∃ s' w, M' = feM M B n f cd k p s' w
theorem rowI_comm {M : Mem} {a b : Nat} {f g : Nat → Int32} (h : a ≠ b) : rowI (rowI M a f) b g = rowI (rowI M b g) a f := by
  unfold rowI; simp only; rw [fu_comm h]
theorem TC_row {a : Nat} {g : Nat → Int32} (h1 : a ≠ 91) (h2 : a ≠ 92) (h3 : a ≠ 93) (h : TC M B n b) : TC (rowI M a g) B n b := by
  unfold TC TB at *
  rw [mI_row_ne (fun z => h1 z.symm), mI_row_ne (fun z => h2 z.symm), mI_row_ne (fun z => h3 z.symm)]
  exact h
theorem TC_fs {w : Nat → Int32} (hT : TC M B n b) (hc : c ≤ n) (hf : 221 < f) (hcd : 221 < cd) : TC (fsM M B n f cd c s w) B n c := by
  unfold fsM
  refine TC_row (by omega) (by omega) (by omega) (TC_row (by omega) (by omega) (by omega) ?_)
  exact TC_st hT.1 hc
theorem FC_fs {s0 : Nat} {w : Nat → Int32} (hF : FC M f cd n s0) : FC (fsM M B n f cd c s w) f cd n s := by
  obtain ⟨h1, h2, h3, h4, h5, h6, h7, h8⟩ := hF
  refine ⟨h1, h2, h3, h4, ?_, h6, h7, h8⟩
  unfold fsM
  rw [mI_row_ne h8, mI_row]
  exact if_pos rfl
theorem mI_fs {w : Nat → Int32} : mI (fsM M B n f cd c s w) cd = w := by unfold fsM; rw [mI_row]
theorem fs_eq {x' y' : Nat → Int32} {w w' : Nat → Int32} {x y : Nat → Int32} (hf : 221 < f) (hcd : 221 < cd) (hfc : f ≠ cd) : rowI (rowI (rowI (rowI (rowI (rowI M 91 x) f y) cd w) 91 x') f y') cd w' = rowI (rowI (rowI M 91 x') f y') cd w' := by
  rw [rowI_comm (a := cd) (b := 91) (by omega), rowI_comm (a := f) (b := 91) (by omega), rowI_rowI, rowI_comm (a := cd) (b := f) (fun z => hfc z.symm), rowI_rowI, rowI_rowI]
theorem fs_91 {w : Nat → Int32} (hf : 221 < f) (hcd : 221 < cd) : mI (fsM M B n f cd c s w) 91 = tR B n c (mI M 91) := by
  unfold fsM; rw [mI_row_ne (by omega), mI_row_ne (by omega), mI_row]
theorem fs_f {w : Nat → Int32} (hfc : f ≠ cd) : mI (fsM M B n f cd c s w) f = fu (mI M f) 2 (iZ s) := by
  unfold fsM; rw [mI_row_ne hfc, mI_row]
theorem fs_fs {c' s' : Nat} {w w' : Nat → Int32} (hf : 221 < f) (hcd : 221 < cd) (hfc : f ≠ cd) : fsM (fsM M B n f cd c s w) B n f cd c' s' w' = fsM M B n f cd c' s' w' := by
  have e : fsM (fsM M B n f cd c s w) B n f cd c' s' w' = rowI (rowI (rowI (fsM M B n f cd c s w) 91 (tR B n c' (mI (fsM M B n f cd c s w) 91))) f (fu (mI (fsM M B n f cd c s w) f) 2 (iZ s'))) cd w' := rfl
  rw [e, fs_91 hf hcd, fs_f hfc, tR_tR, fu_fu]
  unfold fsM
  rw [fs_eq hf hcd hfc]
theorem fe_fs {k p s' : Nat} {w w' : Nat → Int32} (hf : 221 < f) (hcd : 221 < cd) (hfc : f ≠ cd) : feM (fsM M B n f cd c s w) B n f cd k p s' w' = feM M B n f cd k p s' w' := by
  have e : feM (fsM M B n f cd c s w) B n f cd k p s' w' = rowI (rowI (rowI (fsM M B n f cd c s w) 91 (fu (fu (tR B n p (mI (fsM M B n f cd c s w) 91)) 2 (iZ k)) 3 (iZ p))) f (fu (mI (fsM M B n f cd c s w) f) 2 (iZ s'))) cd w' := rfl
  rw [e, fs_91 hf hcd, fs_f hfc, tR_tR, fu_fu]
  unfold fsM feM
  rw [fs_eq hf hcd hfc]
theorem tR_self (hT : TC M B n b) : tR B n b (mI M 91) = mI M 91 := (tR_eq hT.2.2.1 hT.2.2.2.1 hT.2.2.2.2 (fun _ _ _ _ => rfl)).symm
theorem fs_self (hT : TC M B n b) (hF : FC M f cd n s) : fsM M B n f cd b s (mI M cd) = M := by
  obtain ⟨h1, h2, h3, h4, h5, h6, h7, h8⟩ := hF
  unfold fsM
  rw [tR_self hT, rowI_mI, fu_sv h5, rowI_mI, rowI_mI]
theorem fs_st {c' : Nat} {w : Nat → Int32} (hf : 221 < f) (hcd : 221 < cd) : stM (fsM M B n f cd c s w) B n c' = fsM M B n f cd c' s w := by
  have e : stM (fsM M B n f cd c s w) B n c' = rowI (fsM M B n f cd c s w) 91 (tR B n c' (mI (fsM M B n f cd c s w) 91)) := rfl
  rw [e, fs_91 hf hcd, tR_tR]
  unfold fsM
  rw [rowI_comm (a := cd) (b := 91) (by omega), rowI_comm (a := f) (b := 91) (by omega), rowI_rowI]
theorem fs_rf {k : Nat} {w : Nat → Int32} (hf : 221 < f) (hcd : 221 < cd) : rfM (fsM M B n f cd c s w) k c = feM M B n f cd k c s w := by
  have e : rfM (fsM M B n f cd c s w) k c = rowI (fsM M B n f cd c s w) 91 (fu (fu (mI (fsM M B n f cd c s w) 91) 2 (iZ k)) 3 (iZ c)) := rfl
  rw [e, fs_91 hf hcd]
  unfold fsM feM
  rw [rowI_comm (a := cd) (b := 91) (by omega), rowI_comm (a := f) (b := 91) (by omega), rowI_rowI]
theorem RS_prp {c1 : Nat} {l1 : List Int} {r : PR} {v : Int32} {M' : Mem} (hf : 221 < f) (hcd : 221 < cd) (hfc : f ≠ cd) (h : RS (fsM M B n f cd c1 (s + l1.length) (apL (mI M cd) s l1)) B n f cd (s + l1.length) r v M') : RS M B n f cd s (prp l1 r) v M' := by
  match r, h with
  | .inr (c, l), h =>
    obtain ⟨h1, h2⟩ := h
    rw [mI_fs, apL_app, fs_fs hf hcd hfc] at h2
    refine ⟨h1, ?_⟩
    rw [h2, List.length_append, Nat.add_assoc]
  | .inl (k, p), h =>
    obtain ⟨h1, s', w, h2⟩ := h
    rw [fe_fs hf hcd hfc] at h2
    exact ⟨h1, s', w, h2⟩
theorem c143 (hst : (gl G).stackTraces = false) {x : Int} (hF : FC M f cd n s) (hs : s < n) (hn : n ≤ 600) : Ev G (d + 1) 143 [aR (some f), aI (iZ x)] M 0 (rV fun M' => M' = rowI (rowI M f (fu (mI M f) 2 (iZ ((s + 1 : Nat) : Int)))) cd (fu (mI M cd) s (iZ x))) nX := by
  obtain ⟨h1, h2, h3, h4, h5, h6, h7, h8⟩ := hF
  have g1 := h2.1
  have g2 := h2.2.1
  have hs' : (s : Int) < n := by omega
  have h8' : ¬ cd = f := fun z => h8 z.symm
  have hiA : iA M cd 20 (iZ s) = True := eq_true ⟨h2, by show inb (iZ s) (mK M cd).2; rw [h3, inb_T (by omega) (by omega) (by omega)]; trivial⟩
  refine Ev_wp 2000 hst (by decide) (Nat.le_of_ble_eq_true rfl) ?_; simp (disch := omega) only [en143, wcQ, wcX, wcG, wcL, wcS, w143_0, w143_1, w143_4, w143_5, w143_8, w143_9, w143_12, w143_13, w143_16, w143_17, w143_20, w143_21, w143_22, w143_23, w143_24, w143_27, w143_28, w143_29, w143_32, toI, toJ, toI64, inb_T, inb_iZ, Int.toNat_natCast, cl_0, cl_1, cl_2, cl_3, cl_4, cl_5, cl_6, cl_7, cl_8, cl_9, cl_10, cl_11, cl_12, cl_13, cl_14, cl_15, cl_16, cl_17, cl_18, cl_19, cl_20, cl_21, cl_22, cl_23, cl_24, cl_25, cl_26, cl_27, cl_28, cl_29, cl_30, cl_31, cl_32, cl_36, cl_40, cl_48, cl_60, cl_108, cl_120, cl_200, cl_201, cl_576, cl_600, cl_864, cl_900, cl_960, cl_5400, cl_8040, j2_0, iN_iZ, iN_lit0, iZ_add, iZ_sub, iZ_mul, iZ_neg, jZ_add, jZ_sub, jZ_mul, jZ_neg, isB0, isB1, isBZ, eq0, eq1, bZ0, vI_, vJ_, vA_, rI_, rJ_, rA_, rV_, nX_, tX_, true_and, and_true, false_and, and_false, and_self, implies_true, forall_const, not_true_eq_false, not_false_eq_true, false_implies, true_implies, ↓reduceIte, Nat.reduceEqDiff, Int.reduceToNat, Int.reduceAdd, Int.reduceSub, Int.reduceLT, Int.reduceLE, Int.reduceEq, Int.add_zero, Int.neg_zero, Int.add_sub_cancel, Int.reduceNeg, Nat.reduceLeDiff, Nat.reduceSub, true_or, or_true, false_or, or_false, setI_d, setJ_d, setP_d, mI_row, mJ_row, mP_row, mI_row_ne, mJ_row_ne, mP_row_ne, rowI_rowI, rowJ_rowJ, rowI_sort, rowJ_sort, rowJ_rowI, rowP_rowI, rowP_rowJ, fu_app, fu_fu, mI_rowJ, mI_rowP, mJ_rowI, mJ_rowP, mP_rowI, mP_rowJ, mK_rowI, mN_rowI, mK_rowJ, mN_rowJ, mK_rowP, mN_rowP, oB_rowI, oB_rowJ, iA_rowI, iA_rowJ, iR_rowI, iR_rowJ, St_rowI, St_rowJ, h1, h2, h3, h4, h5, hs', g1, g2, hiA, h8, h8']
  exact rowI_comm h8'
theorem FC_91 {x : Nat → Int32} (hF : FC M f cd n s) : FC (rowI M 91 x) f cd n s := by
  obtain ⟨h1, h2, h3, h4, h5, h6, h7, h8⟩ := hF
  exact ⟨h1, h2, h3, h4, by rw [mI_row_ne (by omega)]; exact h5, h6, h7, h8⟩
theorem c143f (hst : (gl G).stackTraces = false) {x : Int} {s0 : Nat} {w : Nat → Int32} (hF : FC M f cd n s0) (hs : s < n) (hn : n ≤ 600) : Ev G (d + 1) 143 [aR (some f), aI (iZ x)] (fsM M B n f cd c s w) 0 (rV fun M' => M' = fsM M B n f cd c (s + 1) (fu w s (iZ x))) nX := by
  have e := c143 (G := G) (d := d) (x := x) hst (FC_fs (B := B) (c := c) (s := s) (w := w) hF) hs hn
  obtain ⟨h1, h2, h3, h4, h5, h6, h7, h8⟩ := hF
  rw [mI_fs, fs_f h8, fu_fu] at e
  have q : rowI (rowI (fsM M B n f cd c s w) f (fu (mI M f) 2 (iZ ((s + 1 : Nat) : Int)))) cd (fu w s (iZ x)) = fsM M B n f cd c (s + 1) (fu w s (iZ x)) := by
    unfold fsM
    rw [rowI_comm (a := cd) (b := f) (fun z => h8 z.symm), rowI_rowI, rowI_rowI]
  rw [q] at e
  exact e
theorem vw_b {b : Nat} : -1 ≤ wix B n b vwL ∧ wix B n b vwL < 7 := by
  unfold wix
  split
  · have := wi_b (B := B) (s := b) (e := te B n b) vwL 0
    simpa [vwL] using this
  · omega
theorem am_vw (hst : (gl G).stackTraces = false) (hS : Static M) (hT : TC M B n b) : Ev G (d + 5) 128 [aR (some 91), aR (some 6)] M 0 (vI (iZ (wix B n b vwL)) M) nX := by
  have e := c128 (G := G) (d := d) (M := M) (B := B) (n := n) (b := b) (a := 6) hst hS (by decide) hT
  rw [str_ok.2.2.1, show jn [sTxt 24, sTxt 25, sTxt 26, sTxt 27, sTxt 28, sTxt 29, sTxt 19] = jn vwL from rfl, show am B b (te B n b) (jn vwL) 0 b true = wi B b (te B n b) vwL 0 from am_L (fun y hy => by
    simp only [List.mem_cons, List.not_mem_nil, or_false] at hy
    rcases hy with h | h | h | h | h | h | h <;> exact ⟨_, by decide, by decide, h⟩)] at e
  exact e
theorem c144 (hst : (gl G).stackTraces = false) {w : Nat} {inn : Nat → PR} (hS : Static M) (hT : TC M B n b) (hF : FC M f cd n s) (hs : s ≤ b) (hL : LPn n inn) (hw : w < 6)
    (hIn : ∀ (M : Mem) (b s : Nat), Static M → TC M B n b → FC M f cd n s → s ≤ b → Ev G (d + 8) 150 [aR (some f), aR (some 91), aI (iZ ((w + 1 : Nat) : Int))] M 0 (rI fun v M' => RS M B n f cd s (inn b) v M') nX) :
    Ev G (d + 9) 144 [aR (some f), aR (some 91), aI (iZ w)] M 0 (rI fun v M' => RS M B n f cd s (pPt B n inn b) v M') nX := by
  have n6 := hT.1.1
  have hb := hT.2.1
  have g1 := hT.2.2.1
  have tb := tkd_b (B := B) (n := n) (b := b)
  obtain ⟨f1, f2, f3, f4, f5, f6, f7, f8⟩ := id hF
  have nb := nxT_b (B := B) (n := n) (b := b)
  have hself := fs_self hT hF
  have hst_ : ∀ c', stM M B n c' = fsM M B n f cd c' s (mI M cd) := fun c' => by
    have := fs_st (M := M) (B := B) (n := n) (f := f) (cd := cd) (s := s) (c := b) (c' := c') (w := mI M cd) f6 f7
    rwa [hself] at this
  have hrf_ : ∀ k, rfM M k b = feM M B n f cd k b s (mI M cd) := fun k => by
    have := fs_rf (M := M) (B := B) (n := n) (f := f) (cd := cd) (s := s) (c := b) (k := k) (w := mI M cd) f6 f7
    rwa [hself] at this
  by_cases k2 : tkd B n b = 2
  · have hbn := tk_lt (B := B) (n := n) (b := b) (by omega)
    have e1 := c137 (G := G) (d := d + 6) (M := M) (lo := 0) (hi := 99999) hst hS (by decide) (by decide) hT
    have hpt : pPt B n inn b = if tnE B n b 0 99999 = 0 then .inr (nxT B n b, [((dv B b (tl B n b) : Nat) : Int)]) else .inl (tnE B n b 0 99999, b) := by unfold pPt; rw [if_pos k2]
    rw [hpt]
    refine Ev_wp 2000 hst (by decide) (Nat.le_of_ble_eq_true rfl) ?_; simp (disch := omega) only [en144, wcQ, wcX, wcG, wcL, wcS, w144_0, w144_1, w144_4, w144_5, w144_8, w144_9, w144_10, w144_12, toI, toJ, toI64, inb_T, inb_iZ, Int.toNat_natCast, cl_0, cl_1, cl_2, cl_3, cl_4, cl_5, cl_6, cl_7, cl_8, cl_9, cl_10, cl_11, cl_12, cl_13, cl_14, cl_15, cl_16, cl_17, cl_18, cl_19, cl_20, cl_21, cl_22, cl_23, cl_24, cl_25, cl_26, cl_27, cl_28, cl_29, cl_30, cl_31, cl_32, cl_36, cl_40, cl_48, cl_60, cl_108, cl_120, cl_200, cl_201, cl_576, cl_600, cl_864, cl_900, cl_960, cl_5400, cl_8040, j2_0, iN_iZ, iN_lit0, iZ_add, iZ_sub, iZ_mul, iZ_neg, jZ_add, jZ_sub, jZ_mul, jZ_neg, isB0, isB1, isBZ, eq0, eq1, bZ0, vI_, vJ_, vA_, rI_, rJ_, rA_, rV_, nX_, tX_, true_and, and_true, false_and, and_false, and_self, implies_true, forall_const, not_true_eq_false, not_false_eq_true, false_implies, true_implies, ↓reduceIte, Nat.reduceEqDiff, Int.reduceToNat, Int.reduceAdd, Int.reduceSub, Int.reduceLT, Int.reduceLE, Int.reduceEq, Int.add_zero, Int.neg_zero, Int.add_sub_cancel, Int.reduceNeg, Nat.reduceLeDiff, Nat.reduceSub, true_or, or_true, false_or, or_false, setI_d, setJ_d, setP_d, mI_row, mJ_row, mP_row, mI_row_ne, mJ_row_ne, mP_row_ne, rowI_rowI, rowJ_rowJ, rowI_sort, rowJ_sort, rowJ_rowI, rowP_rowI, rowP_rowJ, fu_app, fu_fu, mI_rowJ, mI_rowP, mJ_rowI, mJ_rowP, mP_rowI, mP_rowJ, mK_rowI, mN_rowI, mK_rowJ, mN_rowJ, mK_rowP, mN_rowP, oB_rowI, oB_rowJ, iA_rowI, iA_rowJ, iR_rowI, iR_rowJ, St_rowI, St_rowJ, K91 hS, O91 hS, P91_4 hS, P91_5 hS, g1, k2, f1]
    refine kI e1 (Nat.le_refl _) (fun v M' hq => ?_) (fun e M' h => False.elim h)
    rcases hq with ⟨k, hk, rfl, rfl⟩ | ⟨hk, rfl, rfl⟩
    · have e2 : Ev G (d + 8) 143 [aR (some f), aI (iZ (-1))] (rfM M (k + 1) b) 0 _ nX := c143 (G := G) (d := d + 7) (x := -1) hst (by exact FC_91 hF) (by omega) n6
      have f1r : oB (rfM M (k + 1) b) f 3 = True := eq_true f1
      rw [hk, if_neg (by omega)]
      simp (disch := omega) only [wcQ, wcX, wcG, wcL, wcS, w144_15, w144_16, w144_17, w144_18, toI, toJ, toI64, inb_T, inb_iZ, Int.toNat_natCast, cl_0, cl_1, cl_2, cl_3, cl_4, cl_5, cl_6, cl_7, cl_8, cl_9, cl_10, cl_11, cl_12, cl_13, cl_14, cl_15, cl_16, cl_17, cl_18, cl_19, cl_20, cl_21, cl_22, cl_23, cl_24, cl_25, cl_26, cl_27, cl_28, cl_29, cl_30, cl_31, cl_32, cl_36, cl_40, cl_48, cl_60, cl_108, cl_120, cl_200, cl_201, cl_576, cl_600, cl_864, cl_900, cl_960, cl_5400, cl_8040, j2_0, iN_iZ, iN_lit0, iZ_add, iZ_sub, iZ_mul, iZ_neg, jZ_add, jZ_sub, jZ_mul, jZ_neg, isB0, isB1, isBZ, eq0, eq1, bZ0, vI_, vJ_, vA_, rI_, rJ_, rA_, rV_, nX_, tX_, true_and, and_true, false_and, and_false, and_self, implies_true, forall_const, not_true_eq_false, not_false_eq_true, false_implies, true_implies, ↓reduceIte, Nat.reduceEqDiff, Int.reduceToNat, Int.reduceAdd, Int.reduceSub, Int.reduceLT, Int.reduceLE, Int.reduceEq, Int.add_zero, Int.neg_zero, Int.add_sub_cancel, Int.reduceNeg, Nat.reduceLeDiff, Nat.reduceSub, true_or, or_true, false_or, or_false, setI_d, setJ_d, setP_d, mI_row, mJ_row, mP_row, mI_row_ne, mJ_row_ne, mP_row_ne, rowI_rowI, rowJ_rowJ, rowI_sort, rowJ_sort, rowJ_rowI, rowP_rowI, rowP_rowJ, fu_app, fu_fu, mI_rowJ, mI_rowP, mJ_rowI, mJ_rowP, mP_rowI, mP_rowJ, mK_rowI, mN_rowI, mK_rowJ, mN_rowJ, mK_rowP, mN_rowP, oB_rowI, oB_rowJ, iA_rowI, iA_rowJ, iR_rowI, iR_rowJ, St_rowI, St_rowJ, K91 hS, O91 hS, P91_4 hS, P91_5 hS, f1r]
      refine kV e2 (Nat.le_refl _) (fun M' hq => ?_) (fun e M' h => False.elim h)
      subst hq
      simp (disch := omega) only [wcQ, wcX, wcG, wcL, wcS, w144_21, w144_22, w144_23, w144_26, w144_27, w144_30, w144_31, toI, toJ, toI64, inb_T, inb_iZ, Int.toNat_natCast, cl_0, cl_1, cl_2, cl_3, cl_4, cl_5, cl_6, cl_7, cl_8, cl_9, cl_10, cl_11, cl_12, cl_13, cl_14, cl_15, cl_16, cl_17, cl_18, cl_19, cl_20, cl_21, cl_22, cl_23, cl_24, cl_25, cl_26, cl_27, cl_28, cl_29, cl_30, cl_31, cl_32, cl_36, cl_40, cl_48, cl_60, cl_108, cl_120, cl_200, cl_201, cl_576, cl_600, cl_864, cl_900, cl_960, cl_5400, cl_8040, j2_0, iN_iZ, iN_lit0, iZ_add, iZ_sub, iZ_mul, iZ_neg, jZ_add, jZ_sub, jZ_mul, jZ_neg, isB0, isB1, isBZ, eq0, eq1, bZ0, vI_, vJ_, vA_, rI_, rJ_, rA_, rV_, nX_, tX_, true_and, and_true, false_and, and_false, and_self, implies_true, forall_const, not_true_eq_false, not_false_eq_true, false_implies, true_implies, ↓reduceIte, Nat.reduceEqDiff, Int.reduceToNat, Int.reduceAdd, Int.reduceSub, Int.reduceLT, Int.reduceLE, Int.reduceEq, Int.add_zero, Int.neg_zero, Int.add_sub_cancel, Int.reduceNeg, Nat.reduceLeDiff, Nat.reduceSub, true_or, or_true, false_or, or_false, setI_d, setJ_d, setP_d, mI_row, mJ_row, mP_row, mI_row_ne, mJ_row_ne, mP_row_ne, rowI_rowI, rowJ_rowJ, rowI_sort, rowJ_sort, rowJ_rowI, rowP_rowI, rowP_rowJ, fu_app, fu_fu, mI_rowJ, mI_rowP, mJ_rowI, mJ_rowP, mP_rowI, mP_rowJ, mK_rowI, mN_rowI, mK_rowJ, mN_rowJ, mK_rowP, mN_rowP, oB_rowI, oB_rowJ, iA_rowI, iA_rowJ, iR_rowI, iR_rowJ, St_rowI, St_rowJ, K91 hS, O91 hS, P91_4 hS, P91_5 hS, f1]
      refine ⟨rfl, s + 1, fu (mI M cd) s (iZ (-1)), ?_⟩
      unfold rfM feM
      rw [tR_self hT, mI_row_ne (by omega), mI_row_ne (by omega)]
    · have f1r : oB (stM M B n (nxT B n b)) f 3 = True := eq_true f1
      have e2 := c143f (G := G) (d := d + 7) (B := B) (c := nxT B n b) (x := ((dv B b (tl B n b) : Nat) : Int)) (w := mI M cd) hst hF (show s < n by omega) n6
      have hdv : ¬ ((dv B b (tl B n b) : Nat) : Int) = -1 := by omega
      have hdv2 : (dv B b (tl B n b)) ≤ 99999 := by
        unfold tnE at hk
        rw [if_neg (fun z => z k2)] at hk
        split at hk
        · omega
        · omega
      rw [← hst_] at e2
      rw [hk, if_pos rfl]
      simp (disch := omega) only [wcQ, wcX, wcG, wcL, wcS, w144_15, w144_16, w144_17, w144_18, toI, toJ, toI64, inb_T, inb_iZ, Int.toNat_natCast, cl_0, cl_1, cl_2, cl_3, cl_4, cl_5, cl_6, cl_7, cl_8, cl_9, cl_10, cl_11, cl_12, cl_13, cl_14, cl_15, cl_16, cl_17, cl_18, cl_19, cl_20, cl_21, cl_22, cl_23, cl_24, cl_25, cl_26, cl_27, cl_28, cl_29, cl_30, cl_31, cl_32, cl_36, cl_40, cl_48, cl_60, cl_108, cl_120, cl_200, cl_201, cl_576, cl_600, cl_864, cl_900, cl_960, cl_5400, cl_8040, j2_0, iN_iZ, iN_lit0, iZ_add, iZ_sub, iZ_mul, iZ_neg, jZ_add, jZ_sub, jZ_mul, jZ_neg, isB0, isB1, isBZ, eq0, eq1, bZ0, vI_, vJ_, vA_, rI_, rJ_, rA_, rV_, nX_, tX_, true_and, and_true, false_and, and_false, and_self, implies_true, forall_const, not_true_eq_false, not_false_eq_true, false_implies, true_implies, ↓reduceIte, Nat.reduceEqDiff, Int.reduceToNat, Int.reduceAdd, Int.reduceSub, Int.reduceLT, Int.reduceLE, Int.reduceEq, Int.add_zero, Int.neg_zero, Int.add_sub_cancel, Int.reduceNeg, Nat.reduceLeDiff, Nat.reduceSub, true_or, or_true, false_or, or_false, setI_d, setJ_d, setP_d, mI_row, mJ_row, mP_row, mI_row_ne, mJ_row_ne, mP_row_ne, rowI_rowI, rowJ_rowJ, rowI_sort, rowJ_sort, rowJ_rowI, rowP_rowI, rowP_rowJ, fu_app, fu_fu, mI_rowJ, mI_rowP, mJ_rowI, mJ_rowP, mP_rowI, mP_rowJ, mK_rowI, mN_rowI, mK_rowJ, mN_rowJ, mK_rowP, mN_rowP, oB_rowI, oB_rowJ, iA_rowI, iA_rowJ, iR_rowI, iR_rowJ, St_rowI, St_rowJ, K91 hS, O91 hS, P91_4 hS, P91_5 hS, f1r]
      refine kV e2 (Nat.le_refl _) (fun M' hq => ?_) (fun e M' h => False.elim h)
      subst hq
      simp (disch := omega) only [wcQ, wcX, wcG, wcL, wcS, w144_21, w144_22, w144_23, w144_26, w144_27, w144_30, w144_31, toI, toJ, toI64, inb_T, inb_iZ, Int.toNat_natCast, cl_0, cl_1, cl_2, cl_3, cl_4, cl_5, cl_6, cl_7, cl_8, cl_9, cl_10, cl_11, cl_12, cl_13, cl_14, cl_15, cl_16, cl_17, cl_18, cl_19, cl_20, cl_21, cl_22, cl_23, cl_24, cl_25, cl_26, cl_27, cl_28, cl_29, cl_30, cl_31, cl_32, cl_36, cl_40, cl_48, cl_60, cl_108, cl_120, cl_200, cl_201, cl_576, cl_600, cl_864, cl_900, cl_960, cl_5400, cl_8040, j2_0, iN_iZ, iN_lit0, iZ_add, iZ_sub, iZ_mul, iZ_neg, jZ_add, jZ_sub, jZ_mul, jZ_neg, isB0, isB1, isBZ, eq0, eq1, bZ0, vI_, vJ_, vA_, rI_, rJ_, rA_, rV_, nX_, tX_, true_and, and_true, false_and, and_false, and_self, implies_true, forall_const, not_true_eq_false, not_false_eq_true, false_implies, true_implies, ↓reduceIte, Nat.reduceEqDiff, Int.reduceToNat, Int.reduceAdd, Int.reduceSub, Int.reduceLT, Int.reduceLE, Int.reduceEq, Int.add_zero, Int.neg_zero, Int.add_sub_cancel, Int.reduceNeg, Nat.reduceLeDiff, Nat.reduceSub, true_or, or_true, false_or, or_false, setI_d, setJ_d, setP_d, mI_row, mJ_row, mP_row, mI_row_ne, mJ_row_ne, mP_row_ne, rowI_rowI, rowJ_rowJ, rowI_sort, rowJ_sort, rowJ_rowI, rowP_rowI, rowP_rowJ, fu_app, fu_fu, mI_rowJ, mI_rowP, mJ_rowI, mJ_rowP, mP_rowI, mP_rowJ, mK_rowI, mN_rowI, mK_rowJ, mN_rowJ, mK_rowP, mN_rowP, oB_rowI, oB_rowJ, iA_rowI, iA_rowJ, iR_rowI, iR_rowJ, St_rowI, St_rowJ, K91 hS, O91 hS, P91_4 hS, P91_5 hS, hdv]
      exact ⟨rfl, by rw [apL_one]; rfl⟩
  · by_cases k1 : tkd B n b = 1
    · have hbn := tk_lt (B := B) (n := n) (b := b) (by omega)
      have e1 := am_vw (G := G) (d := d + 3) (M := M) (B := B) (n := n) (b := b) hst hS hT
      have vb := vw_b (B := B) (n := n) (b := b)
      have h67 : (6 : Nat) < 30 := by decide
      have hpt : pPt B n inn b = if wix B n b vwL = -1 then .inl (3, b) else .inr (nxT B n b, [-11 - wix B n b vwL]) := by unfold pPt; rw [if_neg k2, if_pos k1]
      rw [hpt]
      refine Ev_wp 2000 hst (by decide) (Nat.le_of_ble_eq_true rfl) ?_; simp (disch := omega) only [en144, wcQ, wcX, wcG, wcL, wcS, w144_0, w144_1, w144_4, w144_5, w144_32, w144_33, w144_36, w144_37, w144_40, w144_41, w144_43, toI, toJ, toI64, inb_T, inb_iZ, Int.toNat_natCast, cl_0, cl_1, cl_2, cl_3, cl_4, cl_5, cl_6, cl_7, cl_8, cl_9, cl_10, cl_11, cl_12, cl_13, cl_14, cl_15, cl_16, cl_17, cl_18, cl_19, cl_20, cl_21, cl_22, cl_23, cl_24, cl_25, cl_26, cl_27, cl_28, cl_29, cl_30, cl_31, cl_32, cl_36, cl_40, cl_48, cl_60, cl_108, cl_120, cl_200, cl_201, cl_576, cl_600, cl_864, cl_900, cl_960, cl_5400, cl_8040, j2_0, iN_iZ, iN_lit0, iZ_add, iZ_sub, iZ_mul, iZ_neg, jZ_add, jZ_sub, jZ_mul, jZ_neg, isB0, isB1, isBZ, eq0, eq1, bZ0, vI_, vJ_, vA_, rI_, rJ_, rA_, rV_, nX_, tX_, true_and, and_true, false_and, and_false, and_self, implies_true, forall_const, not_true_eq_false, not_false_eq_true, false_implies, true_implies, ↓reduceIte, Nat.reduceEqDiff, Int.reduceToNat, Int.reduceAdd, Int.reduceSub, Int.reduceLT, Int.reduceLE, Int.reduceEq, Int.add_zero, Int.neg_zero, Int.add_sub_cancel, Int.reduceNeg, Nat.reduceLeDiff, Nat.reduceSub, true_or, or_true, false_or, or_false, setI_d, setJ_d, setP_d, mI_row, mJ_row, mP_row, mI_row_ne, mJ_row_ne, mP_row_ne, rowI_rowI, rowJ_rowJ, rowI_sort, rowJ_sort, rowJ_rowI, rowP_rowI, rowP_rowJ, fu_app, fu_fu, mI_rowJ, mI_rowP, mJ_rowI, mJ_rowP, mP_rowI, mP_rowJ, mK_rowI, mN_rowI, mK_rowJ, mN_rowJ, mK_rowP, mN_rowP, oB_rowI, oB_rowJ, iA_rowI, iA_rowJ, iR_rowI, iR_rowJ, St_rowI, St_rowJ, K91 hS, O91 hS, P91_4 hS, P91_5 hS, g1, k1, f1, h67]
      refine kI0 e1 ?_
      by_cases hv : wix B n b vwL = -1
      · rw [if_pos hv]
        have e2 := c130 (G := G) (d := d + 7) (M := M) (k := 3) hst hS hT
        simp (disch := omega) only [wcQ, wcX, wcG, wcL, wcS, w144_46, w144_47, w144_48, w144_49, w144_52, w144_53, w144_54, toI, toJ, toI64, inb_T, inb_iZ, Int.toNat_natCast, cl_0, cl_1, cl_2, cl_3, cl_4, cl_5, cl_6, cl_7, cl_8, cl_9, cl_10, cl_11, cl_12, cl_13, cl_14, cl_15, cl_16, cl_17, cl_18, cl_19, cl_20, cl_21, cl_22, cl_23, cl_24, cl_25, cl_26, cl_27, cl_28, cl_29, cl_30, cl_31, cl_32, cl_36, cl_40, cl_48, cl_60, cl_108, cl_120, cl_200, cl_201, cl_576, cl_600, cl_864, cl_900, cl_960, cl_5400, cl_8040, j2_0, iN_iZ, iN_lit0, iZ_add, iZ_sub, iZ_mul, iZ_neg, jZ_add, jZ_sub, jZ_mul, jZ_neg, isB0, isB1, isBZ, eq0, eq1, bZ0, vI_, vJ_, vA_, rI_, rJ_, rA_, rV_, nX_, tX_, true_and, and_true, false_and, and_false, and_self, implies_true, forall_const, not_true_eq_false, not_false_eq_true, false_implies, true_implies, ↓reduceIte, Nat.reduceEqDiff, Int.reduceToNat, Int.reduceAdd, Int.reduceSub, Int.reduceLT, Int.reduceLE, Int.reduceEq, Int.add_zero, Int.neg_zero, Int.add_sub_cancel, Int.reduceNeg, Nat.reduceLeDiff, Nat.reduceSub, true_or, or_true, false_or, or_false, setI_d, setJ_d, setP_d, mI_row, mJ_row, mP_row, mI_row_ne, mJ_row_ne, mP_row_ne, rowI_rowI, rowJ_rowJ, rowI_sort, rowJ_sort, rowJ_rowI, rowP_rowI, rowP_rowJ, fu_app, fu_fu, mI_rowJ, mI_rowP, mJ_rowI, mJ_rowP, mP_rowI, mP_rowJ, mK_rowI, mN_rowI, mK_rowJ, mN_rowJ, mK_rowP, mN_rowP, oB_rowI, oB_rowJ, iA_rowI, iA_rowJ, iR_rowI, iR_rowJ, St_rowI, St_rowJ, K91 hS, O91 hS, P91_4 hS, P91_5 hS, hv]
        refine kI e2 (Nat.le_refl _) (fun v M' hq => ?_) (fun e M' h => False.elim h)
        obtain ⟨rfl, rfl⟩ := hq
        simp (disch := omega) only [wcQ, wcX, wcG, wcL, wcS, w144_57, toI, toJ, toI64, inb_T, inb_iZ, Int.toNat_natCast, cl_0, cl_1, cl_2, cl_3, cl_4, cl_5, cl_6, cl_7, cl_8, cl_9, cl_10, cl_11, cl_12, cl_13, cl_14, cl_15, cl_16, cl_17, cl_18, cl_19, cl_20, cl_21, cl_22, cl_23, cl_24, cl_25, cl_26, cl_27, cl_28, cl_29, cl_30, cl_31, cl_32, cl_36, cl_40, cl_48, cl_60, cl_108, cl_120, cl_200, cl_201, cl_576, cl_600, cl_864, cl_900, cl_960, cl_5400, cl_8040, j2_0, iN_iZ, iN_lit0, iZ_add, iZ_sub, iZ_mul, iZ_neg, jZ_add, jZ_sub, jZ_mul, jZ_neg, isB0, isB1, isBZ, eq0, eq1, bZ0, vI_, vJ_, vA_, rI_, rJ_, rA_, rV_, nX_, tX_, true_and, and_true, false_and, and_false, and_self, implies_true, forall_const, not_true_eq_false, not_false_eq_true, false_implies, true_implies, ↓reduceIte, Nat.reduceEqDiff, Int.reduceToNat, Int.reduceAdd, Int.reduceSub, Int.reduceLT, Int.reduceLE, Int.reduceEq, Int.add_zero, Int.neg_zero, Int.add_sub_cancel, Int.reduceNeg, Nat.reduceLeDiff, Nat.reduceSub, true_or, or_true, false_or, or_false, setI_d, setJ_d, setP_d, mI_row, mJ_row, mP_row, mI_row_ne, mJ_row_ne, mP_row_ne, rowI_rowI, rowJ_rowJ, rowI_sort, rowJ_sort, rowJ_rowI, rowP_rowI, rowP_rowJ, fu_app, fu_fu, mI_rowJ, mI_rowP, mJ_rowI, mJ_rowP, mP_rowI, mP_rowJ, mK_rowI, mN_rowI, mK_rowJ, mN_rowJ, mK_rowP, mN_rowP, oB_rowI, oB_rowJ, iA_rowI, iA_rowJ, iR_rowI, iR_rowJ, St_rowI, St_rowJ, K91 hS, O91 hS, P91_4 hS, P91_5 hS]
        exact ⟨rfl, s, _, hrf_ 3⟩
      · rw [if_neg hv]
        have e2 := c124t (G := G) (d := d + 7) (M := M) hst hS hT
        have e3 := c143f (G := G) (d := d + 7) (B := B) (c := nxT B n b) (x := -11 - wix B n b vwL) (w := mI M cd) hst hF (show s < n by omega) n6
        have f1r : oB (stM M B n (nxT B n b)) f 3 = True := eq_true f1
        rw [← hst_] at e3
        simp (disch := omega) only [wcQ, wcX, wcG, wcL, wcS, w144_46, w144_47, w144_48, w144_49, w144_58, w144_59, toI, toJ, toI64, inb_T, inb_iZ, Int.toNat_natCast, cl_0, cl_1, cl_2, cl_3, cl_4, cl_5, cl_6, cl_7, cl_8, cl_9, cl_10, cl_11, cl_12, cl_13, cl_14, cl_15, cl_16, cl_17, cl_18, cl_19, cl_20, cl_21, cl_22, cl_23, cl_24, cl_25, cl_26, cl_27, cl_28, cl_29, cl_30, cl_31, cl_32, cl_36, cl_40, cl_48, cl_60, cl_108, cl_120, cl_200, cl_201, cl_576, cl_600, cl_864, cl_900, cl_960, cl_5400, cl_8040, j2_0, iN_iZ, iN_lit0, iZ_add, iZ_sub, iZ_mul, iZ_neg, jZ_add, jZ_sub, jZ_mul, jZ_neg, isB0, isB1, isBZ, eq0, eq1, bZ0, vI_, vJ_, vA_, rI_, rJ_, rA_, rV_, nX_, tX_, true_and, and_true, false_and, and_false, and_self, implies_true, forall_const, not_true_eq_false, not_false_eq_true, false_implies, true_implies, ↓reduceIte, Nat.reduceEqDiff, Int.reduceToNat, Int.reduceAdd, Int.reduceSub, Int.reduceLT, Int.reduceLE, Int.reduceEq, Int.add_zero, Int.neg_zero, Int.add_sub_cancel, Int.reduceNeg, Nat.reduceLeDiff, Nat.reduceSub, true_or, or_true, false_or, or_false, setI_d, setJ_d, setP_d, mI_row, mJ_row, mP_row, mI_row_ne, mJ_row_ne, mP_row_ne, rowI_rowI, rowJ_rowJ, rowI_sort, rowJ_sort, rowJ_rowI, rowP_rowI, rowP_rowJ, fu_app, fu_fu, mI_rowJ, mI_rowP, mJ_rowI, mJ_rowP, mP_rowI, mP_rowJ, mK_rowI, mN_rowI, mK_rowJ, mN_rowJ, mK_rowP, mN_rowP, oB_rowI, oB_rowJ, iA_rowI, iA_rowJ, iR_rowI, iR_rowJ, St_rowI, St_rowJ, K91 hS, O91 hS, P91_4 hS, P91_5 hS, hv]
        refine kV e2 (Nat.le_refl _) (fun M' hq => ?_) (fun e M' h => False.elim h)
        subst hq
        simp (disch := omega) only [wcQ, wcX, wcG, wcL, wcS, w144_62, w144_63, w144_65, w144_66, w144_67, toI, toJ, toI64, inb_T, inb_iZ, Int.toNat_natCast, cl_0, cl_1, cl_2, cl_3, cl_4, cl_5, cl_6, cl_7, cl_8, cl_9, cl_10, cl_11, cl_12, cl_13, cl_14, cl_15, cl_16, cl_17, cl_18, cl_19, cl_20, cl_21, cl_22, cl_23, cl_24, cl_25, cl_26, cl_27, cl_28, cl_29, cl_30, cl_31, cl_32, cl_36, cl_40, cl_48, cl_60, cl_108, cl_120, cl_200, cl_201, cl_576, cl_600, cl_864, cl_900, cl_960, cl_5400, cl_8040, j2_0, iN_iZ, iN_lit0, iZ_add, iZ_sub, iZ_mul, iZ_neg, jZ_add, jZ_sub, jZ_mul, jZ_neg, isB0, isB1, isBZ, eq0, eq1, bZ0, vI_, vJ_, vA_, rI_, rJ_, rA_, rV_, nX_, tX_, true_and, and_true, false_and, and_false, and_self, implies_true, forall_const, not_true_eq_false, not_false_eq_true, false_implies, true_implies, ↓reduceIte, Nat.reduceEqDiff, Int.reduceToNat, Int.reduceAdd, Int.reduceSub, Int.reduceLT, Int.reduceLE, Int.reduceEq, Int.add_zero, Int.neg_zero, Int.add_sub_cancel, Int.reduceNeg, Nat.reduceLeDiff, Nat.reduceSub, true_or, or_true, false_or, or_false, setI_d, setJ_d, setP_d, mI_row, mJ_row, mP_row, mI_row_ne, mJ_row_ne, mP_row_ne, rowI_rowI, rowJ_rowJ, rowI_sort, rowJ_sort, rowJ_rowI, rowP_rowI, rowP_rowJ, fu_app, fu_fu, mI_rowJ, mI_rowP, mJ_rowI, mJ_rowP, mP_rowI, mP_rowJ, mK_rowI, mN_rowI, mK_rowJ, mN_rowJ, mK_rowP, mN_rowP, oB_rowI, oB_rowJ, iA_rowI, iA_rowJ, iR_rowI, iR_rowJ, St_rowI, St_rowJ, K91 hS, O91 hS, P91_4 hS, P91_5 hS, f1r]
        refine kV e3 (Nat.le_refl _) (fun M' hq => ?_) (fun e M' h => False.elim h)
        subst hq
        simp (disch := omega) only [wcQ, wcX, wcG, wcL, wcS, w144_70, w144_71, toI, toJ, toI64, inb_T, inb_iZ, Int.toNat_natCast, cl_0, cl_1, cl_2, cl_3, cl_4, cl_5, cl_6, cl_7, cl_8, cl_9, cl_10, cl_11, cl_12, cl_13, cl_14, cl_15, cl_16, cl_17, cl_18, cl_19, cl_20, cl_21, cl_22, cl_23, cl_24, cl_25, cl_26, cl_27, cl_28, cl_29, cl_30, cl_31, cl_32, cl_36, cl_40, cl_48, cl_60, cl_108, cl_120, cl_200, cl_201, cl_576, cl_600, cl_864, cl_900, cl_960, cl_5400, cl_8040, j2_0, iN_iZ, iN_lit0, iZ_add, iZ_sub, iZ_mul, iZ_neg, jZ_add, jZ_sub, jZ_mul, jZ_neg, isB0, isB1, isBZ, eq0, eq1, bZ0, vI_, vJ_, vA_, rI_, rJ_, rA_, rV_, nX_, tX_, true_and, and_true, false_and, and_false, and_self, implies_true, forall_const, not_true_eq_false, not_false_eq_true, false_implies, true_implies, ↓reduceIte, Nat.reduceEqDiff, Int.reduceToNat, Int.reduceAdd, Int.reduceSub, Int.reduceLT, Int.reduceLE, Int.reduceEq, Int.add_zero, Int.neg_zero, Int.add_sub_cancel, Int.reduceNeg, Nat.reduceLeDiff, Nat.reduceSub, true_or, or_true, false_or, or_false, setI_d, setJ_d, setP_d, mI_row, mJ_row, mP_row, mI_row_ne, mJ_row_ne, mP_row_ne, rowI_rowI, rowJ_rowJ, rowI_sort, rowJ_sort, rowJ_rowI, rowP_rowI, rowP_rowJ, fu_app, fu_fu, mI_rowJ, mI_rowP, mJ_rowI, mJ_rowP, mP_rowI, mP_rowJ, mK_rowI, mN_rowI, mK_rowJ, mN_rowJ, mK_rowP, mN_rowP, oB_rowI, oB_rowJ, iA_rowI, iA_rowJ, iR_rowI, iR_rowJ, St_rowI, St_rowJ, K91 hS, O91 hS, P91_4 hS, P91_5 hS]
        exact ⟨rfl, by rw [apL_one]; rfl⟩
    · have e1 := c139 (G := G) (d := d + 6) (M := M) (c := 40) hst hS (by decide) hT
      refine Ev_wp 2000 hst (by decide) (Nat.le_of_ble_eq_true rfl) ?_; simp (disch := omega) only [en144, wcQ, wcX, wcG, wcL, wcS, w144_0, w144_1, w144_4, w144_5, w144_32, w144_33, w144_36, w144_37, w144_72, w144_73, w144_75, toI, toJ, toI64, inb_T, inb_iZ, Int.toNat_natCast, cl_0, cl_1, cl_2, cl_3, cl_4, cl_5, cl_6, cl_7, cl_8, cl_9, cl_10, cl_11, cl_12, cl_13, cl_14, cl_15, cl_16, cl_17, cl_18, cl_19, cl_20, cl_21, cl_22, cl_23, cl_24, cl_25, cl_26, cl_27, cl_28, cl_29, cl_30, cl_31, cl_32, cl_36, cl_40, cl_48, cl_60, cl_108, cl_120, cl_200, cl_201, cl_576, cl_600, cl_864, cl_900, cl_960, cl_5400, cl_8040, j2_0, iN_iZ, iN_lit0, iZ_add, iZ_sub, iZ_mul, iZ_neg, jZ_add, jZ_sub, jZ_mul, jZ_neg, isB0, isB1, isBZ, eq0, eq1, bZ0, vI_, vJ_, vA_, rI_, rJ_, rA_, rV_, nX_, tX_, true_and, and_true, false_and, and_false, and_self, implies_true, forall_const, not_true_eq_false, not_false_eq_true, false_implies, true_implies, ↓reduceIte, Nat.reduceEqDiff, Int.reduceToNat, Int.reduceAdd, Int.reduceSub, Int.reduceLT, Int.reduceLE, Int.reduceEq, Int.add_zero, Int.neg_zero, Int.add_sub_cancel, Int.reduceNeg, Nat.reduceLeDiff, Nat.reduceSub, true_or, or_true, false_or, or_false, setI_d, setJ_d, setP_d, mI_row, mJ_row, mP_row, mI_row_ne, mJ_row_ne, mP_row_ne, rowI_rowI, rowJ_rowJ, rowI_sort, rowJ_sort, rowJ_rowI, rowP_rowI, rowP_rowJ, fu_app, fu_fu, mI_rowJ, mI_rowP, mJ_rowI, mJ_rowP, mP_rowI, mP_rowJ, mK_rowI, mN_rowI, mK_rowJ, mN_rowJ, mK_rowP, mN_rowP, oB_rowI, oB_rowJ, iA_rowI, iA_rowJ, iR_rowI, iR_rowJ, St_rowI, St_rowJ, K91 hS, O91 hS, P91_4 hS, P91_5 hS, g1, k1, k2, f1]
      refine kI e1 (Nat.le_refl _) (fun v M' hq => ?_) (fun e M' h => False.elim h)
      rcases hq with ⟨hs40, rfl, rfl⟩ | ⟨hs40, rfl, rfl⟩
      · have hbn := tk_lt (B := B) (n := n) (b := b) (by have := hs40.1; omega)
        have hS1 : Static (stM M B n (nxT B n b)) := by exact hS
        have hT1 : TC (stM M B n (nxT B n b)) B n (nxT B n b) := TC_st hT.1 (nb.2.1 hb)
        have hF1 : FC (stM M B n (nxT B n b)) f cd n s := FC_91 hF
        have e2 := hIn _ (nxT B n b) s hS1 hT1 hF1 (by omega)
        have hpt : pPt B n inn b = match inn (nxT B n b) with
          | .inl e => .inl e
          | .inr (c, l) => if sgP B n c 41 then .inr (nxT B n c, l) else .inl (1, c) := by unfold pPt; rw [if_neg k2, if_neg k1, if_pos hs40]; rfl
        have f1r : oB (stM M B n (nxT B n b)) f 3 = True := eq_true f1
        simp (disch := omega) only [wcQ, wcX, wcG, wcL, wcS, w144_78, w144_81, w144_82, w144_83, w144_84, w144_85, w144_86, toI, toJ, toI64, inb_T, inb_iZ, Int.toNat_natCast, cl_0, cl_1, cl_2, cl_3, cl_4, cl_5, cl_6, cl_7, cl_8, cl_9, cl_10, cl_11, cl_12, cl_13, cl_14, cl_15, cl_16, cl_17, cl_18, cl_19, cl_20, cl_21, cl_22, cl_23, cl_24, cl_25, cl_26, cl_27, cl_28, cl_29, cl_30, cl_31, cl_32, cl_36, cl_40, cl_48, cl_60, cl_108, cl_120, cl_200, cl_201, cl_576, cl_600, cl_864, cl_900, cl_960, cl_5400, cl_8040, j2_0, iN_iZ, iN_lit0, iZ_add, iZ_sub, iZ_mul, iZ_neg, jZ_add, jZ_sub, jZ_mul, jZ_neg, isB0, isB1, isBZ, eq0, eq1, bZ0, vI_, vJ_, vA_, rI_, rJ_, rA_, rV_, nX_, tX_, true_and, and_true, false_and, and_false, and_self, implies_true, forall_const, not_true_eq_false, not_false_eq_true, false_implies, true_implies, ↓reduceIte, Nat.reduceEqDiff, Int.reduceToNat, Int.reduceAdd, Int.reduceSub, Int.reduceLT, Int.reduceLE, Int.reduceEq, Int.add_zero, Int.neg_zero, Int.add_sub_cancel, Int.reduceNeg, Nat.reduceLeDiff, Nat.reduceSub, true_or, or_true, false_or, or_false, setI_d, setJ_d, setP_d, mI_row, mJ_row, mP_row, mI_row_ne, mJ_row_ne, mP_row_ne, rowI_rowI, rowJ_rowJ, rowI_sort, rowJ_sort, rowJ_rowI, rowP_rowI, rowP_rowJ, fu_app, fu_fu, mI_rowJ, mI_rowP, mJ_rowI, mJ_rowP, mP_rowI, mP_rowJ, mK_rowI, mN_rowI, mK_rowJ, mN_rowJ, mK_rowP, mN_rowP, oB_rowI, oB_rowJ, iA_rowI, iA_rowJ, iR_rowI, iR_rowJ, St_rowI, St_rowJ, K91 hS, O91 hS, P91_4 hS, P91_5 hS, f1r]
        refine kI e2 (Nat.le_refl _) (fun v M' hq => ?_) (fun e M' h => False.elim h)
        match hr : inn (nxT B n b), hq with
        | .inl (k, p), hq =>
          obtain ⟨rfl, s', w', rfl⟩ := hq
          rw [hpt, hr]
          simp (disch := omega) only [wcQ, wcX, wcG, wcL, wcS, w144_89, w144_105, w144_106, toI, toJ, toI64, inb_T, inb_iZ, Int.toNat_natCast, cl_0, cl_1, cl_2, cl_3, cl_4, cl_5, cl_6, cl_7, cl_8, cl_9, cl_10, cl_11, cl_12, cl_13, cl_14, cl_15, cl_16, cl_17, cl_18, cl_19, cl_20, cl_21, cl_22, cl_23, cl_24, cl_25, cl_26, cl_27, cl_28, cl_29, cl_30, cl_31, cl_32, cl_36, cl_40, cl_48, cl_60, cl_108, cl_120, cl_200, cl_201, cl_576, cl_600, cl_864, cl_900, cl_960, cl_5400, cl_8040, j2_0, iN_iZ, iN_lit0, iZ_add, iZ_sub, iZ_mul, iZ_neg, jZ_add, jZ_sub, jZ_mul, jZ_neg, isB0, isB1, isBZ, eq0, eq1, bZ0, vI_, vJ_, vA_, rI_, rJ_, rA_, rV_, nX_, tX_, true_and, and_true, false_and, and_false, and_self, implies_true, forall_const, not_true_eq_false, not_false_eq_true, false_implies, true_implies, ↓reduceIte, Nat.reduceEqDiff, Int.reduceToNat, Int.reduceAdd, Int.reduceSub, Int.reduceLT, Int.reduceLE, Int.reduceEq, Int.add_zero, Int.neg_zero, Int.add_sub_cancel, Int.reduceNeg, Nat.reduceLeDiff, Nat.reduceSub, true_or, or_true, false_or, or_false, setI_d, setJ_d, setP_d, mI_row, mJ_row, mP_row, mI_row_ne, mJ_row_ne, mP_row_ne, rowI_rowI, rowJ_rowJ, rowI_sort, rowJ_sort, rowJ_rowI, rowP_rowI, rowP_rowJ, fu_app, fu_fu, mI_rowJ, mI_rowP, mJ_rowI, mJ_rowP, mP_rowI, mP_rowJ, mK_rowI, mN_rowI, mK_rowJ, mN_rowJ, mK_rowP, mN_rowP, oB_rowI, oB_rowJ, iA_rowI, iA_rowJ, iR_rowI, iR_rowJ, St_rowI, St_rowJ, K91 hS, O91 hS, P91_4 hS, P91_5 hS]
          refine ⟨rfl, s', w', ?_⟩
          rw [hst_, fe_fs f6 f7 f8]
        | .inr (c, l), hq =>
          obtain ⟨rfl, rfl⟩ := hq
          have lp := hL _ _ _ (nb.2.1 hb) hr
          rw [hst_, mI_fs, fs_fs f6 f7 f8, hpt, hr]
          have hT2 : TC (fsM M B n f cd c (s + l.length) (apL (mI M cd) s l)) B n c := TC_fs hT lp.2.1 f6 f7
          have hS2 : Static (fsM M B n f cd c (s + l.length) (apL (mI M cd) s l)) := by exact hS
          have e3 := c139 (G := G) (d := d + 6) (c := 41) hst hS2 (by decide) hT2
          have k91 := K91 hS2
          have o91 := O91 hS2
          simp (disch := omega) only [wcQ, wcX, wcG, wcL, wcS, w144_89, w144_92, w144_93, w144_95, toI, toJ, toI64, inb_T, inb_iZ, Int.toNat_natCast, cl_0, cl_1, cl_2, cl_3, cl_4, cl_5, cl_6, cl_7, cl_8, cl_9, cl_10, cl_11, cl_12, cl_13, cl_14, cl_15, cl_16, cl_17, cl_18, cl_19, cl_20, cl_21, cl_22, cl_23, cl_24, cl_25, cl_26, cl_27, cl_28, cl_29, cl_30, cl_31, cl_32, cl_36, cl_40, cl_48, cl_60, cl_108, cl_120, cl_200, cl_201, cl_576, cl_600, cl_864, cl_900, cl_960, cl_5400, cl_8040, j2_0, iN_iZ, iN_lit0, iZ_add, iZ_sub, iZ_mul, iZ_neg, jZ_add, jZ_sub, jZ_mul, jZ_neg, isB0, isB1, isBZ, eq0, eq1, bZ0, vI_, vJ_, vA_, rI_, rJ_, rA_, rV_, nX_, tX_, true_and, and_true, false_and, and_false, and_self, implies_true, forall_const, not_true_eq_false, not_false_eq_true, false_implies, true_implies, ↓reduceIte, Nat.reduceEqDiff, Int.reduceToNat, Int.reduceAdd, Int.reduceSub, Int.reduceLT, Int.reduceLE, Int.reduceEq, Int.add_zero, Int.neg_zero, Int.add_sub_cancel, Int.reduceNeg, Nat.reduceLeDiff, Nat.reduceSub, true_or, or_true, false_or, or_false, setI_d, setJ_d, setP_d, mI_row, mJ_row, mP_row, mI_row_ne, mJ_row_ne, mP_row_ne, rowI_rowI, rowJ_rowJ, rowI_sort, rowJ_sort, rowJ_rowI, rowP_rowI, rowP_rowJ, fu_app, fu_fu, mI_rowJ, mI_rowP, mJ_rowI, mJ_rowP, mP_rowI, mP_rowJ, mK_rowI, mN_rowI, mK_rowJ, mN_rowJ, mK_rowP, mN_rowP, oB_rowI, oB_rowJ, iA_rowI, iA_rowJ, iR_rowI, iR_rowJ, St_rowI, St_rowJ, k91, o91]
          refine kI e3 (Nat.le_refl _) (fun v M' hq => ?_) (fun e M' h => False.elim h)
          rcases hq with ⟨hs41, rfl, rfl⟩ | ⟨hs41, rfl, rfl⟩
          · simp (disch := omega) only [wcQ, wcX, wcG, wcL, wcS, w144_98, w144_101, w144_102, w144_105, w144_106, toI, toJ, toI64, inb_T, inb_iZ, Int.toNat_natCast, cl_0, cl_1, cl_2, cl_3, cl_4, cl_5, cl_6, cl_7, cl_8, cl_9, cl_10, cl_11, cl_12, cl_13, cl_14, cl_15, cl_16, cl_17, cl_18, cl_19, cl_20, cl_21, cl_22, cl_23, cl_24, cl_25, cl_26, cl_27, cl_28, cl_29, cl_30, cl_31, cl_32, cl_36, cl_40, cl_48, cl_60, cl_108, cl_120, cl_200, cl_201, cl_576, cl_600, cl_864, cl_900, cl_960, cl_5400, cl_8040, j2_0, iN_iZ, iN_lit0, iZ_add, iZ_sub, iZ_mul, iZ_neg, jZ_add, jZ_sub, jZ_mul, jZ_neg, isB0, isB1, isBZ, eq0, eq1, bZ0, vI_, vJ_, vA_, rI_, rJ_, rA_, rV_, nX_, tX_, true_and, and_true, false_and, and_false, and_self, implies_true, forall_const, not_true_eq_false, not_false_eq_true, false_implies, true_implies, ↓reduceIte, Nat.reduceEqDiff, Int.reduceToNat, Int.reduceAdd, Int.reduceSub, Int.reduceLT, Int.reduceLE, Int.reduceEq, Int.add_zero, Int.neg_zero, Int.add_sub_cancel, Int.reduceNeg, Nat.reduceLeDiff, Nat.reduceSub, true_or, or_true, false_or, or_false, setI_d, setJ_d, setP_d, mI_row, mJ_row, mP_row, mI_row_ne, mJ_row_ne, mP_row_ne, rowI_rowI, rowJ_rowJ, rowI_sort, rowJ_sort, rowJ_rowI, rowP_rowI, rowP_rowJ, fu_app, fu_fu, mI_rowJ, mI_rowP, mJ_rowI, mJ_rowP, mP_rowI, mP_rowJ, mK_rowI, mN_rowI, mK_rowJ, mN_rowJ, mK_rowP, mN_rowP, oB_rowI, oB_rowJ, iA_rowI, iA_rowJ, iR_rowI, iR_rowJ, St_rowI, St_rowJ]
            rw [if_pos hs41]
            exact ⟨rfl, fs_st f6 f7⟩
          · simp (disch := omega) only [wcQ, wcX, wcG, wcL, wcS, w144_98, w144_105, w144_106, toI, toJ, toI64, inb_T, inb_iZ, Int.toNat_natCast, cl_0, cl_1, cl_2, cl_3, cl_4, cl_5, cl_6, cl_7, cl_8, cl_9, cl_10, cl_11, cl_12, cl_13, cl_14, cl_15, cl_16, cl_17, cl_18, cl_19, cl_20, cl_21, cl_22, cl_23, cl_24, cl_25, cl_26, cl_27, cl_28, cl_29, cl_30, cl_31, cl_32, cl_36, cl_40, cl_48, cl_60, cl_108, cl_120, cl_200, cl_201, cl_576, cl_600, cl_864, cl_900, cl_960, cl_5400, cl_8040, j2_0, iN_iZ, iN_lit0, iZ_add, iZ_sub, iZ_mul, iZ_neg, jZ_add, jZ_sub, jZ_mul, jZ_neg, isB0, isB1, isBZ, eq0, eq1, bZ0, vI_, vJ_, vA_, rI_, rJ_, rA_, rV_, nX_, tX_, true_and, and_true, false_and, and_false, and_self, implies_true, forall_const, not_true_eq_false, not_false_eq_true, false_implies, true_implies, ↓reduceIte, Nat.reduceEqDiff, Int.reduceToNat, Int.reduceAdd, Int.reduceSub, Int.reduceLT, Int.reduceLE, Int.reduceEq, Int.add_zero, Int.neg_zero, Int.add_sub_cancel, Int.reduceNeg, Nat.reduceLeDiff, Nat.reduceSub, true_or, or_true, false_or, or_false, setI_d, setJ_d, setP_d, mI_row, mJ_row, mP_row, mI_row_ne, mJ_row_ne, mP_row_ne, rowI_rowI, rowJ_rowJ, rowI_sort, rowJ_sort, rowJ_rowI, rowP_rowI, rowP_rowJ, fu_app, fu_fu, mI_rowJ, mI_rowP, mJ_rowI, mJ_rowP, mP_rowI, mP_rowJ, mK_rowI, mN_rowI, mK_rowJ, mN_rowJ, mK_rowP, mN_rowP, oB_rowI, oB_rowJ, iA_rowI, iA_rowJ, iR_rowI, iR_rowJ, St_rowI, St_rowJ]
            rw [if_neg hs41]
            exact ⟨rfl, _, _, fs_rf f6 f7⟩
      · have hpt : pPt B n inn b = .inl (1, b) := by unfold pPt; rw [if_neg k2, if_neg k1, if_neg hs40]
        rw [hpt]
        simp (disch := omega) only [wcQ, wcX, wcG, wcL, wcS, w144_78, w144_105, w144_106, toI, toJ, toI64, inb_T, inb_iZ, Int.toNat_natCast, cl_0, cl_1, cl_2, cl_3, cl_4, cl_5, cl_6, cl_7, cl_8, cl_9, cl_10, cl_11, cl_12, cl_13, cl_14, cl_15, cl_16, cl_17, cl_18, cl_19, cl_20, cl_21, cl_22, cl_23, cl_24, cl_25, cl_26, cl_27, cl_28, cl_29, cl_30, cl_31, cl_32, cl_36, cl_40, cl_48, cl_60, cl_108, cl_120, cl_200, cl_201, cl_576, cl_600, cl_864, cl_900, cl_960, cl_5400, cl_8040, j2_0, iN_iZ, iN_lit0, iZ_add, iZ_sub, iZ_mul, iZ_neg, jZ_add, jZ_sub, jZ_mul, jZ_neg, isB0, isB1, isBZ, eq0, eq1, bZ0, vI_, vJ_, vA_, rI_, rJ_, rA_, rV_, nX_, tX_, true_and, and_true, false_and, and_false, and_self, implies_true, forall_const, not_true_eq_false, not_false_eq_true, false_implies, true_implies, ↓reduceIte, Nat.reduceEqDiff, Int.reduceToNat, Int.reduceAdd, Int.reduceSub, Int.reduceLT, Int.reduceLE, Int.reduceEq, Int.add_zero, Int.neg_zero, Int.add_sub_cancel, Int.reduceNeg, Nat.reduceLeDiff, Nat.reduceSub, true_or, or_true, false_or, or_false, setI_d, setJ_d, setP_d, mI_row, mJ_row, mP_row, mI_row_ne, mJ_row_ne, mP_row_ne, rowI_rowI, rowJ_rowJ, rowI_sort, rowJ_sort, rowJ_rowI, rowP_rowI, rowP_rowJ, fu_app, fu_fu, mI_rowJ, mI_rowP, mJ_rowI, mJ_rowP, mP_rowI, mP_rowJ, mK_rowI, mN_rowI, mK_rowJ, mN_rowJ, mK_rowP, mN_rowP, oB_rowI, oB_rowJ, iA_rowI, iA_rowJ, iR_rowI, iR_rowJ, St_rowI, St_rowJ, K91 hS, O91 hS, P91_4 hS, P91_5 hS]
        exact ⟨rfl, s, _, hrf_ 1⟩
end

/-! Loops: the head is reached with an invariant. -/
theorem loopN {G : GE} {d k : Nat} {qr : QR} {qx : QX} {pc b : Nat} {ls0 : List AV} {M0 : Mem} (n : Nat) (I : Nat → List AV → Mem → Prop) (h0 : I 0 ls0 M0)
    (hs : ∀ i, i < n → ∀ ls M, I i ls M → (∀ ls' M', I (i + 1) ls' M' → Go G d k qr qx pc ls' [] M' b) → Go G d k qr qx pc ls [] M b)
    (he : ∀ ls M, I n ls M → Go G d k qr qx pc ls [] M b) : Go G d k qr qx pc ls0 [] M0 b := by
  have key : ∀ m i, i + m = n → ∀ ls M, I i ls M → Go G d k qr qx pc ls [] M b := by
    intro m
    induction m with
    | zero => intro i hi ls M h; rw [show i = n by omega] at h; exact he ls M h
    | succ m ih => intro i hi ls M h; exact hs i (by omega) ls M h (fun ls' M' h' => ih (i + 1) (by omega) ls' M' h')
  exact key n 0 (by omega) ls0 M0 h0
theorem fu_fu {α : Type} {f : Nat → α} {k : Nat} {v w : α} : fu (fu f k v) k w = fu f k w := by
  funext j; unfold fu; by_cases h : j = k <;> simp [h]
theorem mI_row {M : Mem} {a : Nat} {g : Nat → Int32} : mI (rowI M a g) a = g := by
  funext j; unfold rowI mI fu; simp
theorem mI_row_ne {M : Mem} {a c : Nat} {g : Nat → Int32} (h : c ≠ a) : mI (rowI M a g) c = mI M c := by
  unfold rowI mI fu; simp [h]
theorem mJ_row {M : Mem} {a : Nat} {g : Nat → Int64} : mJ (rowJ M a g) a = g := by
  funext j; unfold rowJ mJ fu; simp
theorem mJ_row_ne {M : Mem} {a c : Nat} {g : Nat → Int64} (h : c ≠ a) : mJ (rowJ M a g) c = mJ M c := by
  unfold rowJ mJ fu; simp [h]
theorem mP_row {M : Mem} {a : Nat} {g : Nat → Option Nat} : mP (rowP M a g) a = g := by
  funext j; unfold rowP mP fu; simp
theorem mP_row_ne {M : Mem} {a c : Nat} {g : Nat → Option Nat} (h : c ≠ a) : mP (rowP M a g) c = mP M c := by
  unfold rowP mP fu; simp [h]
theorem rowI_rowI {M : Mem} {a : Nat} {f g : Nat → Int32} : rowI (rowI M a f) a g = rowI M a g := by
  unfold rowI; simp only [fu_fu]
theorem rowJ_rowJ {M : Mem} {a : Nat} {f g : Nat → Int64} : rowJ (rowJ M a f) a g = rowJ M a g := by
  unfold rowJ; simp only [fu_fu]
theorem setI_rowI {M : Mem} {a i : Nat} {f : Nat → Int32} {v : Int32} : setI (rowI M a f) a i v = rowI M a (fu f i v) := by
  unfold setI; rw [mI_row, rowI_rowI]
theorem setJ_rowJ {M : Mem} {a i : Nat} {f : Nat → Int64} {v : Int64} : setJ (rowJ M a f) a i v = rowJ M a (fu f i v) := by
  unfold setJ; rw [mJ_row, rowJ_rowJ]
theorem rowI_mI {M : Mem} {a : Nat} : rowI M a (mI M a) = M := by
  unfold rowI mI
  rw [show fu M.1 a (M.1 a) = M.1 from by funext j; unfold fu; by_cases h : j = a <;> simp [h]]
theorem rowJ_mJ {M : Mem} {a : Nat} : rowJ M a (mJ M a) = M := by
  unfold rowJ mJ
  rw [show fu M.2.1 a (M.2.1 a) = M.2.1 from by funext j; unfold fu; by_cases h : j = a <;> simp [h]]
section
variable {M : Mem} {a : Nat} {g : Nat → Int32} {gj : Nat → Int64}
theorem mI_rowJ' : mI (rowJ M a gj) = mI M := rfl
theorem oB_rowI {c k : Nat} : oB (rowI M a g) c k = oB M c k := rfl
theorem oB_rowJ {c k : Nat} : oB (rowJ M a gj) c k = oB M c k := rfl
theorem iA_rowI {c k : Nat} {x : Int32} : iA (rowI M a g) c k x = iA M c k x := rfl
theorem iA_rowJ {c k : Nat} {x : Int32} : iA (rowJ M a gj) c k x = iA M c k x := rfl
theorem iR_rowI {c : Nat} {x : Int32} : iR (rowI M a g) c x = iR M c x := rfl
theorem iR_rowJ {c : Nat} {x : Int32} : iR (rowJ M a gj) c x = iR M c x := rfl
theorem St_rowI : Static (rowI M a g) = Static M := rfl
theorem St_rowJ : Static (rowJ M a gj) = Static M := rfl
end
/-! Normal form of a written memory: references innermost, then longs, then ints, cells in order. -/
theorem setI_d {M : Mem} {a i : Nat} {v : Int32} : setI M a i v = rowI M a (fu (mI M a) i v) := rfl
theorem setJ_d {M : Mem} {a i : Nat} {v : Int64} : setJ M a i v = rowJ M a (fu (mJ M a) i v) := rfl
theorem setP_d {M : Mem} {a i : Nat} {v : Option Nat} : setP M a i v = rowP M a (fu (mP M a) i v) := rfl
theorem fu_app {α : Type} {f : Nat → α} {k j : Nat} {v : α} : fu f k v j = if j = k then v else f j := rfl
theorem fu_comm {α : Type} {f : Nat → α} {a b : Nat} {v w : α} (h : a ≠ b) : fu (fu f a v) b w = fu (fu f b w) a v := by
  funext j
  unfold fu
  by_cases h1 : j = a
  · by_cases h2 : j = b
    · exact absurd (h1.symm.trans h2) h
    · simp [h1, h2, h]
  · simp [h1]
theorem rowI_sort {M : Mem} {a b : Nat} {f g : Nat → Int32} (h : b < a) : rowI (rowI M a f) b g = rowI (rowI M b g) a f := by
  unfold rowI; simp only; rw [fu_comm (by omega)]
theorem rowJ_sort {M : Mem} {a b : Nat} {f g : Nat → Int64} (h : b < a) : rowJ (rowJ M a f) b g = rowJ (rowJ M b g) a f := by
  unfold rowJ; simp only; rw [fu_comm (by omega)]
theorem rowJ_rowI {M : Mem} {a b : Nat} {f : Nat → Int32} {g : Nat → Int64} : rowJ (rowI M a f) b g = rowI (rowJ M b g) a f := rfl
theorem rowP_rowI {M : Mem} {a b : Nat} {f : Nat → Int32} {g : Nat → Option Nat} : rowP (rowI M a f) b g = rowI (rowP M b g) a f := rfl
theorem rowP_rowJ {M : Mem} {a b : Nat} {f : Nat → Int64} {g : Nat → Option Nat} : rowP (rowJ M a f) b g = rowJ (rowP M b g) a f := rfl
theorem toI64 {z : Int} (h1 : -2147483648 ≤ z) (h2 : z < 2147483648) : (iZ z).toInt64 = jZ z := by
  apply Int64.toInt_inj.mp
  rw [Int32.toInt_toInt64, toI h1 h2, toJ (by omega) (by omega)]
theorem inb_T {z : Int} {n : Nat} (h1 : 0 ≤ z) (h2 : z < 2147483648) (h3 : z < n) : inb (iZ z) n = True := by rw [inb_iZ (by omega) h2]; exact eq_true ⟨h1, h3⟩
def sh12 (x : Int64) : Int64 := x >>> (jZ 12 &&& 63)
theorem sh12_ {x : Int64} : x >>> (jZ 12 &&& 63) = sh12 x := rfl
theorem j2_0 : (jZ 2 = 0) = False := eq_false (by decide)
theorem cl_0 : ((0 : Nat) : Int) = 0 := rfl
theorem cl_1 : ((1 : Nat) : Int) = 1 := rfl
theorem cl_2 : ((2 : Nat) : Int) = 2 := rfl
theorem cl_3 : ((3 : Nat) : Int) = 3 := rfl
theorem cl_4 : ((4 : Nat) : Int) = 4 := rfl
theorem cl_5 : ((5 : Nat) : Int) = 5 := rfl
theorem cl_6 : ((6 : Nat) : Int) = 6 := rfl
theorem cl_7 : ((7 : Nat) : Int) = 7 := rfl
theorem cl_8 : ((8 : Nat) : Int) = 8 := rfl
theorem cl_9 : ((9 : Nat) : Int) = 9 := rfl
theorem cl_10 : ((10 : Nat) : Int) = 10 := rfl
theorem cl_11 : ((11 : Nat) : Int) = 11 := rfl
theorem cl_12 : ((12 : Nat) : Int) = 12 := rfl
theorem cl_13 : ((13 : Nat) : Int) = 13 := rfl
theorem cl_14 : ((14 : Nat) : Int) = 14 := rfl
theorem cl_15 : ((15 : Nat) : Int) = 15 := rfl
theorem cl_16 : ((16 : Nat) : Int) = 16 := rfl
theorem cl_17 : ((17 : Nat) : Int) = 17 := rfl
theorem cl_18 : ((18 : Nat) : Int) = 18 := rfl
theorem cl_19 : ((19 : Nat) : Int) = 19 := rfl
theorem cl_20 : ((20 : Nat) : Int) = 20 := rfl
theorem cl_21 : ((21 : Nat) : Int) = 21 := rfl
theorem cl_22 : ((22 : Nat) : Int) = 22 := rfl
theorem cl_23 : ((23 : Nat) : Int) = 23 := rfl
theorem cl_24 : ((24 : Nat) : Int) = 24 := rfl
theorem cl_25 : ((25 : Nat) : Int) = 25 := rfl
theorem cl_26 : ((26 : Nat) : Int) = 26 := rfl
theorem cl_27 : ((27 : Nat) : Int) = 27 := rfl
theorem cl_28 : ((28 : Nat) : Int) = 28 := rfl
theorem cl_29 : ((29 : Nat) : Int) = 29 := rfl
theorem cl_30 : ((30 : Nat) : Int) = 30 := rfl
theorem cl_31 : ((31 : Nat) : Int) = 31 := rfl
theorem cl_32 : ((32 : Nat) : Int) = 32 := rfl
theorem cl_36 : ((36 : Nat) : Int) = 36 := rfl
theorem cl_40 : ((40 : Nat) : Int) = 40 := rfl
theorem cl_48 : ((48 : Nat) : Int) = 48 := rfl
theorem cl_60 : ((60 : Nat) : Int) = 60 := rfl
theorem cl_108 : ((108 : Nat) : Int) = 108 := rfl
theorem cl_120 : ((120 : Nat) : Int) = 120 := rfl
theorem cl_200 : ((200 : Nat) : Int) = 200 := rfl
theorem cl_201 : ((201 : Nat) : Int) = 201 := rfl
theorem cl_576 : ((576 : Nat) : Int) = 576 := rfl
theorem cl_600 : ((600 : Nat) : Int) = 600 := rfl
theorem cl_864 : ((864 : Nat) : Int) = 864 := rfl
theorem cl_900 : ((900 : Nat) : Int) = 900 := rfl
theorem cl_960 : ((960 : Nat) : Int) = 960 := rfl
theorem cl_5400 : ((5400 : Nat) : Int) = 5400 := rfl
theorem cl_8040 : ((8040 : Nat) : Int) = 8040 := rfl
/-! Many long rows at once. -/
def allJ (M : Mem) (g : Nat → Nat → Int64) : Mem := (M.1, g, M.2.2)
section
variable {M : Mem} {g : Nat → Nat → Int64} {a i : Nat} {v : Int64} {f : Nat → Int32} {p : Nat → Option Nat}
theorem mJ_allJ : mJ (allJ M g) = g := rfl
theorem mI_allJ : mI (allJ M g) = mI M := rfl
theorem mP_allJ : mP (allJ M g) = mP M := rfl
theorem mK_allJ : mK (allJ M g) = mK M := rfl
theorem mN_allJ : mN (allJ M g) = mN M := rfl
theorem oB_allJ {c k : Nat} : oB (allJ M g) c k = oB M c k := rfl
theorem iA_allJ {c k : Nat} {x : Int32} : iA (allJ M g) c k x = iA M c k x := rfl
theorem iR_allJ {c : Nat} {x : Int32} : iR (allJ M g) c x = iR M c x := rfl
theorem St_allJ : Static (allJ M g) = Static M := rfl
theorem allJ_rowI : allJ (rowI M a f) g = rowI (allJ M g) a f := rfl
theorem allJ_rowP : allJ (rowP M a p) g = rowP (allJ M g) a p := rfl
theorem allJ_allJ {g' : Nat → Nat → Int64} : allJ (allJ M g) g' = allJ M g' := rfl
theorem allJ_mJ : allJ M (mJ M) = M := rfl
theorem setJ_all {M : Mem} {a i : Nat} {v : Int64} : setJ M a i v = allJ M (fun c j => if c = a ∧ j = i then v else mJ M c j) := by
  show (M.1, fu M.2.1 a (fu (mJ M a) i v), M.2.2) = (M.1, _, M.2.2)
  congr 2
  funext c j
  unfold fu
  by_cases h : c = a
  · subst h; simp [mJ]
  · simp [h, mJ]
end

/-! Rewriting rows: what they share. -/
def iR (M : Mem) (a : Nat) (i : Int32) : Prop := iA M a 23 i ∨ iA M a 24 i ∨ iA M a 25 i ∨ iA M a 26 i ∨ iA M a 27 i
def iS (M : Mem) (a : Nat) (i : Int32) (r : Nat) : Prop := (iA M a 23 i ∧ oB M r 6) ∨ (iA M a 24 i ∧ oB M r 7) ∨ (iA M a 27 i ∧ r < 30)
def iY (a : Nat) (i : Int32) : Prop := 30 ≤ a ∧ a < 60 ∧ inb i (sLen (a - 30))
def iC (x : Int32) : Prop := 0 ≤ x.toInt ∧ x.toInt < 65536
def iB (x : Int32) : Prop := -128 ≤ x.toInt ∧ x.toInt < 128
def kR (nx : List AV → Mem → Nat → Prop) (st : List AV) (r : Option AV) (M : Mem) (b : Nat) : Prop := match r with
  | none => nx st M b
  | some v => nx (v :: st) M b
def hX (C : WC) (k pc : Nat) (nx : Nat → List AV → List AV → Mem → Nat → Prop) (ls : List AV) (e : Nat) (M : Mem) : Prop := match hdl k pc e with
  | none => cX C e M
  | some h => ∀ q : Nat, nx h ls [aX q] M 0
theorem an {p q : Prop} (h : p) : (p ∧ q) = q := propext ⟨fun z => z.2, fun z => ⟨h, z⟩⟩
theorem an_m {p q r : Prop} (h : q) : (p ∧ q ∧ r) = (p ∧ r) := propext ⟨fun z => ⟨z.1, z.2.2⟩, fun z => ⟨z.1, h, z.2⟩⟩
theorem an_as {p q r : Prop} : (p ∧ q ∧ r) = ((p ∧ q) ∧ r) := propext ⟨fun z => ⟨⟨z.1, z.2.1⟩, z.2.2⟩, fun z => ⟨z.1.1, z.1.2, z.2⟩⟩
theorem iY_row {p q r s : Prop} : (p ∧ q ∧ r ∧ s) = ((p ∧ q ∧ r) ∧ s) := propext ⟨fun z => ⟨⟨z.1, z.2.1, z.2.2.1⟩, z.2.2.2⟩, fun z => ⟨z.1.1, z.1.2.1, z.1.2.2, z.2⟩⟩
theorem an_len {p q r s t K : Prop} (h : t) : ((p ∧ q ∧ r ∧ s ∧ t) ∧ K) = ((p ∧ q ∧ r ∧ s) ∧ K) := propext ⟨fun z => ⟨⟨z.1.1, z.1.2.1, z.1.2.2.1, z.1.2.2.2.1⟩, z.2⟩, fun z => ⟨⟨z.1.1, z.1.2.1, z.1.2.2.1, z.1.2.2.2, h⟩, z.2⟩⟩
theorem an_na {p q t r K : Prop} (h : t) : ((p ∧ q ∧ t ∧ r) ∧ K) = ((p ∧ q ∧ r) ∧ K) := propext ⟨fun z => ⟨⟨z.1.1, z.1.2.1, z.1.2.2.2⟩, z.2⟩, fun z => ⟨⟨z.1.1, z.1.2.1, h, z.1.2.2⟩, z.2⟩⟩
theorem an_nm {p q r s t u K : Prop} (h : t) : ((p ∧ q ∧ r ∧ s ∧ t ∧ u) ∧ K) = ((p ∧ q ∧ r ∧ s ∧ u) ∧ K) := propext ⟨fun z => ⟨⟨z.1.1, z.1.2.1, z.1.2.2.1, z.1.2.2.2.1, z.1.2.2.2.2.2⟩, z.2⟩, fun z => ⟨⟨z.1.1, z.1.2.1, z.1.2.2.1, z.1.2.2.2.1, h, z.1.2.2.2.2⟩, z.2⟩⟩
theorem an_ac {p q K : Prop} (h : p) : ((p ∧ q) ∧ K) = (q ∧ K) := propext ⟨fun z => ⟨z.1.2, z.2⟩, fun z => ⟨⟨h, z.1⟩, z.2⟩⟩
theorem an_sw {p h q : Prop} (z : h) : (p ∧ (h ∧ q)) = (p ∧ q) := propext ⟨fun y => ⟨y.1, y.2.2⟩, fun y => ⟨y.1, z, y.2⟩⟩
theorem cs_row {p q r K : Prop} (h1 : p) (h2 : q) (h3 : r) : (p ∧ q ∧ r ∧ K) = K := propext ⟨fun z => z.2.2.2, fun z => ⟨h1, h2, h3, z⟩⟩
theorem cp_row {p q r K : Prop} {o : Option AV} {a : Nat} (h1 : p) (h2 : q) (h3 : r) (h4 : o = some (aR (some a))) : (p ∧ q ∧ r ∧ (∃ a, o = some (aR (some a))) ∧ K) = K := propext ⟨fun z => z.2.2.2.2, fun z => ⟨h1, h2, h3, ⟨a, h4⟩, z⟩⟩
theorem ex_row {o : Option AV} {a : Nat} {Q : Nat → Prop} (h4 : o = some (aR (some a))) : (∃ a, o = some (aR (some a)) ∧ Q a) = Q a := propext ⟨fun ⟨a', z1, z2⟩ => by
  cases Option.some.inj (Sum.inl.inj (Sum.inr.inj (Sum.inr.inj (Option.some.inj (z1.symm.trans h4)))))
  exact z2, fun z => ⟨a, h4, z⟩⟩
theorem cv_row {p q r K : Prop} {o : Option AV} {a m : Nat} {M : Mem} (h1 : p) (h2 : q) (h3 : r) (h4 : o = some (aR (some a))) (h5 : Nat.ble 13 m = false := by rfl) : (p ∧ q ∧ r ∧ (∃ a, o = some (aR (some a)) ∧ (if m < 13 then oB M a m else m = 14 ∧ a < 30)) ∧ K) = (oB M a m ∧ K) := by
  rw [ex_row (Q := fun a => if m < 13 then oB M a m else m = 14 ∧ a < 30) h4, cs_row h1 h2 h3]
  have : m < 13 := Nat.lt_of_not_le (fun h => by rw [Nat.ble_eq_true_of_le h] at h5; cases h5)
  rw [if_pos this]
theorem cw_row {p q r K : Prop} {o : Option AV} {a m : Nat} {M : Mem} (h1 : p) (h2 : q) (h3 : r) (h4 : o = some (aR (some a))) (h5 : m = 14) : (p ∧ q ∧ r ∧ (∃ a, o = some (aR (some a)) ∧ (if m < 13 then oB M a m else m = 14 ∧ a < 30)) ∧ K) = (a < 30 ∧ K) := by
  rw [ex_row (Q := fun a => if m < 13 then oB M a m else m = 14 ∧ a < 30) h4, cs_row h1 h2 h3, if_neg (by omega), an h5]
theorem i32_lt {x y : Int32} : (x < y) = (x.toInt < y.toInt) := propext Int32.lt_iff_toInt_lt
theorem i32_le {x y : Int32} : (x ≤ y) = ¬ (y.toInt < x.toInt) := propext (Int32.le_iff_toInt_le.trans Int.not_lt.symm)
theorem i32_eq {x y : Int32} : (x = y) = (x.toInt = y.toInt) := propext Int32.toInt_inj.symm
section
variable {x y : Int32} {A B : Prop}
theorem sw_ {p : Prop} : ((¬ p → A) ∧ (¬ ¬ p → B)) = ((p → B) ∧ (¬ p → A)) := propext ⟨fun z => ⟨fun h => z.2 (fun g => g h), z.1⟩, fun z => ⟨z.2, fun h => z.1 (Classical.byContradiction h)⟩⟩
theorem ceq : ((icond .eq x y → A) ∧ (¬ icond .eq x y → B)) = ((x.toInt = y.toInt → A) ∧ (¬ x.toInt = y.toInt → B)) := by rw [show icond .eq x y = (x.toInt = y.toInt) from i32_eq]
theorem cne : ((icond .ne x y → A) ∧ (¬ icond .ne x y → B)) = ((x.toInt = y.toInt → B) ∧ (¬ x.toInt = y.toInt → A)) := by rw [show icond .ne x y = ¬ (x.toInt = y.toInt) from congrArg Not i32_eq]; exact sw_
theorem clt : ((icond .lt x y → A) ∧ (¬ icond .lt x y → B)) = ((x.toInt < y.toInt → A) ∧ (¬ x.toInt < y.toInt → B)) := by rw [show icond .lt x y = (x.toInt < y.toInt) from i32_lt]
theorem cge : ((icond .ge x y → A) ∧ (¬ icond .ge x y → B)) = ((x.toInt < y.toInt → B) ∧ (¬ x.toInt < y.toInt → A)) := by rw [show icond .ge x y = ¬ (x.toInt < y.toInt) from i32_le]; exact sw_
theorem cgt : ((icond .gt x y → A) ∧ (¬ icond .gt x y → B)) = ((y.toInt < x.toInt → A) ∧ (¬ y.toInt < x.toInt → B)) := by rw [show icond .gt x y = (y.toInt < x.toInt) from i32_lt]
theorem cle : ((icond .le x y → A) ∧ (¬ icond .le x y → B)) = ((y.toInt < x.toInt → B) ∧ (¬ y.toInt < x.toInt → A)) := by rw [show icond .le x y = ¬ (y.toInt < x.toInt) from i32_le]; exact sw_
theorem zeq : ((icond .eq x 0 → A) ∧ (¬ icond .eq x 0 → B)) = ((x.toInt = 0 → A) ∧ (¬ x.toInt = 0 → B)) := ceq
theorem zne : ((icond .ne x 0 → A) ∧ (¬ icond .ne x 0 → B)) = ((x.toInt = 0 → B) ∧ (¬ x.toInt = 0 → A)) := cne
theorem zlt : ((icond .lt x 0 → A) ∧ (¬ icond .lt x 0 → B)) = ((x.toInt < 0 → A) ∧ (¬ x.toInt < 0 → B)) := clt
theorem zge : ((icond .ge x 0 → A) ∧ (¬ icond .ge x 0 → B)) = ((x.toInt < 0 → B) ∧ (¬ x.toInt < 0 → A)) := cge
theorem zgt : ((icond .gt x 0 → A) ∧ (¬ icond .gt x 0 → B)) = ((0 < x.toInt → A) ∧ (¬ 0 < x.toInt → B)) := cgt
theorem zle : ((icond .le x 0 → A) ∧ (¬ icond .le x 0 → B)) = ((0 < x.toInt → B) ∧ (¬ 0 < x.toInt → A)) := cle
end
theorem rt_I {k : Nat} {x : Int32} {K : Prop} (h : mR k = some .int) : (retI k x ∧ K) = K := an ⟨.int, h, rfl⟩
theorem b_one {x : Int32} : x &&& 1 = x ↔ x = 0 ∨ x = 1 := by
  constructor
  · intro h
    have h1 : (x &&& 1).toBitVec.toNat = x.toBitVec.toNat % 2 := by
      rw [Int32.toBitVec_and, BitVec.toNat_and]
      exact Nat.and_one_is_mod _
    rw [h] at h1
    have h2 : x.toBitVec.toNat = 0 ∨ x.toBitVec.toNat = 1 := by omega
    rcases h2 with h2 | h2
    · left; apply Int32.toBitVec_inj.mp; apply BitVec.eq_of_toNat_eq; rw [h2]; rfl
    · right; apply Int32.toBitVec_inj.mp; apply BitVec.eq_of_toNat_eq; rw [h2]; rfl
  · rintro (h | h) <;> rw [h] <;> rfl
theorem rt_Z {k : Nat} {x : Int32} {K : Prop} (h : mR k = some .boolean) : (retI k x ∧ K) = (isB x ∧ K) := by
  have : retI k x = isB x := propext ⟨fun ⟨ty, h1, h2⟩ => by
    cases Option.some.inj (h1.symm.trans h)
    exact b_one.mp (Value.int.inj h2), fun h2 => ⟨.boolean, h, congrArg Value.int (b_one.mpr h2)⟩⟩
  rw [this]
theorem rt_A {k : Nat} {nm : String} {K : Prop} (h : mR k = some (.object nm)) : (retA k ∧ K) = K := an ⟨_, h, Or.inl ⟨nm, rfl⟩⟩

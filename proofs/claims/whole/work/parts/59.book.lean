/-! A book of RULES: the class's cells. -/
section
variable {G : GE} {d : Nat} {M M' M'' : Mem} {B : Nat → Nat} {n b k s : Nat} {q : Bk}
/-- the block of a book -/
def BK (M : Mem) (k n : Nat) : Prop := 222 ≤ k ∧ k + 11 ≤ mN M ∧ (mK M k).1 = 6 ∧ mK M (k + 1) = (20, 8) ∧ mK M (k + 2) = (20, 10) ∧ mK M (k + 3) = (20, 20) ∧ mK M (k + 4) = (20, 8) ∧ mK M (k + 5) = (21, 8) ∧ mK M (k + 6) = (21, 10) ∧ (mK M (k + 7)).1 = 3 ∧ mK M (k + 8) = (20, 7) ∧ mK M (k + 9) = (20, 31) ∧ mK M (k + 10) = (20, n) ∧ mP M k 1 = some (k + 1) ∧ mP M k 2 = some (k + 2) ∧ mP M k 4 = some (k + 3) ∧ mP M k 6 = some (k + 4) ∧ mP M k 12 = some (k + 5) ∧ mP M k 13 = some (k + 6) ∧ mP M k 9 = some (k + 7) ∧ mP M (k + 7) 0 = some (k + 8) ∧ mP M (k + 7) 3 = some (k + 9) ∧ mP M (k + 7) 1 = some (k + 10)
/-- the code of an EXPR stands here -/
def CL (M : Mem) (cd st : Nat) (l : List Int) : Prop := ∀ j x, (l ++ [-1])[j]? = some x → mI M cd (st + j) = iZ x
/-- what the book tells -/
def BC (M : Mem) (k s : Nat) (q : Bk) : Prop :=
  (mI M k 0 = iZ (bP q).length ∧ (bP q).length ≤ 8 ∧ ∀ i x, (bP q)[i]? = some x → mI M (k + 1) i = iZ x.2 ∧ mJ M (k + 5) i = jZ x.1 ∧ (0 ≤ x.1 ∧ x.1 < 1000000000000) ∧ (1 ≤ x.2 ∧ x.2 ≤ 99)) ∧
  (mI M k 10 = iZ (bF q).length ∧ (bF q).length ≤ 10 ∧ ∀ i x, (bF q)[i]? = some x → mJ M (k + 6) i = jZ x.1 ∧ (0 ≤ x.1 ∧ x.1 < 1000000000000) ∧ ∃ st : Nat, mI M (k + 2) i = iZ st ∧ CL M (k + 10) st x.2 ∧ st + x.2.length < s) ∧
  (mI M k 3 = iZ (bO q).length ∧ (bO q).length ≤ bC q ∧ ∀ i l, (bO q)[i]? = some l → ∃ st : Nat, mI M (k + 3) i = iZ st ∧ CL M (k + 10) st l ∧ st + l.length < s) ∧
  (mI M k 5 = iZ (bT q).length ∧ (bT q).length ≤ 8 ∧ ∀ i t, (bT q)[i]? = some t → mI M (k + 4) i = iZ t ∧ 0 ≤ t ∧ t ≤ 8) ∧
  (mI M k 7 = iZ (bB q) ∧ 1 ≤ bB q ∧ bB q ≤ 20) ∧ (mI M k 8 = iZ (bL q) ∧ -1 ≤ bL q ∧ bL q ≤ 9999) ∧ (mI M k 11 = iZ (bC q) ∧ bC q ≤ 20) ∧ mI M (k + 7) 2 = iZ s
/-- all else is as it was -/
def Fm (M M' : Mem) (k : Nat) : Prop := mK M' = mK M ∧ mN M' = mN M ∧ mP M' = mP M ∧ (∀ c, c ≠ 91 → (c < k ∨ k + 11 ≤ c) → mI M' c = mI M c ∧ mJ M' c = mJ M c) ∧ mI M' 91 0 = mI M 91 0 ∧ mI M' 91 6 = mI M 91 6
theorem Fm_rfl : Fm M M k := ⟨rfl, rfl, rfl, fun _ _ _ => ⟨rfl, rfl⟩, rfl, rfl⟩
theorem Fm_tr (h : Fm M M' k) (h' : Fm M' M'' k) : Fm M M'' k := by
  obtain ⟨a1, a2, a3, a4, a5, a6⟩ := h
  obtain ⟨b1, b2, b3, b4, b5, b6⟩ := h'
  exact ⟨b1.trans a1, b2.trans a2, b3.trans a3, fun c h1 h2 => ⟨((b4 c h1 h2).1).trans (a4 c h1 h2).1, ((b4 c h1 h2).2).trans (a4 c h1 h2).2⟩, b5.trans a5, b6.trans a6⟩
theorem Fm_I {c : Nat} {g : Nat → Int32} (h1 : k ≤ c) (h2 : c < k + 11) (hk : 222 ≤ k) : Fm M (rowI M c g) k :=
  ⟨rfl, rfl, rfl, fun a ha hb => ⟨mI_row_ne (by omega), rfl⟩, by rw [mI_row_ne (by omega)], by rw [mI_row_ne (by omega)]⟩
theorem Fm_J {c : Nat} {g : Nat → Int64} (h1 : k ≤ c) (h2 : c < k + 11) : Fm M (rowJ M c g) k :=
  ⟨rfl, rfl, rfl, fun a ha hb => ⟨rfl, mJ_row_ne (by omega)⟩, rfl, rfl⟩
theorem Fm_91 {g : Nat → Int32} (h0 : g 0 = mI M 91 0) (h6 : g 6 = mI M 91 6) : Fm M (rowI M 91 g) k :=
  ⟨rfl, rfl, rfl, fun a ha hb => ⟨mI_row_ne ha, rfl⟩, by rw [mI_row]; exact h0, by rw [mI_row]; exact h6⟩
theorem Fm_st {c : Nat} : Fm M (stM M B n c) k := Fm_91 (by unfold tR fu; simp) (by unfold tR fu; simp)
theorem Fm_rf {e : Nat} : Fm M (rfM M e b) k := Fm_91 (by unfold fu; simp) (by unfold fu; simp)
theorem Fm_Static (h : Fm M M' k) (hS : Static M) : Static M' := by
  obtain ⟨a1, a2, a3, _⟩ := h
  unfold Static at *
  rw [a1, a2, a3]
  exact hS
theorem Fm_BK (h : Fm M M' k) (hB : BK M k n) : BK M' k n := by
  obtain ⟨a1, a2, a3, _⟩ := h
  unfold BK at *
  rw [a1, a2, a3]
  exact hB
theorem TC_J {c : Nat} {g : Nat → Int64} : TC (rowJ M c g) B n b = TC M B n b := rfl
theorem BC_91 {g : Nat → Int32} (hk : 222 ≤ k) (h : BC M k s q) : BC (rowI M 91 g) k s q := by
  unfold BC CL at *
  simp only [mJ_rowI]
  rw [mI_row_ne (by omega), mI_row_ne (by omega), mI_row_ne (by omega), mI_row_ne (by omega), mI_row_ne (by omega), mI_row_ne (by omega), mI_row_ne (by omega)]
  exact h
theorem rf_2 {e : Nat} : mI (rfM M e b) 91 2 = iZ e := by unfold rfM; rw [mI_row]; unfold fu; simp
theorem rf_3 {e : Nat} : mI (rfM M e b) 91 3 = iZ b := by unfold rfM; rw [mI_row]; unfold fu; simp
/-- what a reader of a book leaves -/
def QB (M : Mem) (B : Nat → Nat) (n k : Nat) (r : BR) (v : Int32) (M' : Mem) : Prop := Fm M M' k ∧ match r with
  | .inl (e, p) => v = iZ 0 ∧ mI M' 91 2 = iZ e ∧ mI M' 91 3 = iZ p
  | .inr (c, q) => v = iZ 1 ∧ TC M' B n c ∧ ∃ s, s ≤ c ∧ BC M' k s q
theorem QB_i {r : BR} {e p : Nat} {v : Int32} (h : r = .inl (e, p)) : QB M B n k r v M' = (Fm M M' k ∧ v = iZ 0 ∧ mI M' 91 2 = iZ e ∧ mI M' 91 3 = iZ p) := by rw [h]; rfl
theorem QB_r {r : BR} {c : Nat} {v : Int32} (h : r = .inr (c, q)) : QB M B n k r v M' = (Fm M M' k ∧ v = iZ 1 ∧ TC M' B n c ∧ ∃ s, s ≤ c ∧ BC M' k s q) := by rw [h]; rfl
theorem gN_at {α : Type} {l : List (Int × α)} {i : Nat} {x : Int × α} (h : l[i]? = some x) : gN l i = x.1 := by unfold gN; rw [h]
theorem ls_get {α : Type} {l : List α} {i : Nat} (h : i < l.length) : ∃ x, l[i]? = some x := ⟨l[i], List.getElem?_eq_getElem h⟩
end

/-! What the invariant reads; its frames. -/
section
variable {G : GE} {d : Nat} {M M' M'' : Mem} {D J P Dg J' Dg' : Nat}
theorem IvC_f (a : ∀ j, j < 3 → mI M' 61 j = mI M 61 j) (b : ∀ j, 3 ≤ j → j < 6 → mI M' 154 j = mI M 154 j) (h : IvC M D J P) : IvC M' D J P := by
  unfold IvC at *
  rw [a 0 (by decide), a 1 (by decide), a 2 (by decide), b 3 (by decide) (by decide), b 4 (by decide) (by decide), b 5 (by decide) (by decide)]; exact h
theorem IvD_f (a : mI M' 62 0 = mI M 62 0) (b : mI M' 154 6 = mI M 154 6) (f : ∀ c, (63 ≤ c ∧ c ≤ 65) ∨ (157 ≤ c ∧ c ≤ 159) → mI M' c = mI M c) (g : ∀ c, (67 ≤ c ∧ c ≤ 90) ∨ c = 160 → mJ M' c = mJ M c) (h : IvD M Dg) : IvD M' Dg := by
  have h24 := h.1.2.2
  refine ⟨by rw [a, b]; exact h.1, by rw [f 63 (by omega), f 157 (by omega)]; exact h.2.1, by rw [f 64 (by omega), f 158 (by omega), f 65 (by omega), f 159 (by omega)]; exact h.2.2.1, fun i k hi hk => ?_⟩
  rw [g (67 + i) (by omega), g 160 (by omega)]
  exact h.2.2.2 i k hi hk
theorem IvT_f (a : mI M' 91 0 = mI M 91 0) (a3 : mI M' 91 3 = mI M 91 3) (b : mI M' 154 12 = mI M 154 12) (b2 : mI M' 154 22 = mI M 154 22) (f : ∀ c, c = 92 ∨ c = 93 ∨ c = 161 → mI M' c = mI M c) (h : IvT M) : IvT M' := by
  unfold IvT at *
  rw [a, a3, b, b2, f 92 (by omega), f 93 (by omega), f 161 (by omega)]; exact h
theorem IvL_f (a : ∀ j, j < 2 → mI M' 146 j = mI M 146 j) (b : ∀ j, j = 66 ∨ j = 67 → mI M' 154 j = mI M 154 j) (f : ∀ c, c = 147 ∨ c = 148 ∨ c = 199 ∨ c = 200 → mI M' c = mI M c) (h : IvL M) : IvL M' := by
  unfold IvL at *
  rw [a 0 (by decide), a 1 (by decide), b 66 (by decide), b 67 (by decide), f 147 (by omega), f 148 (by omega), f 199 (by omega), f 200 (by omega)]; exact h
theorem IvS_f (g : CG M M') (j : GJ M M') (hd : Dg ≤ Dg') (hj : J ≤ J') (h : IvS M Dg J) : IvS M' Dg' J' := by
  obtain ⟨s, kb, ra, ca, s1, s2, s3, s4, s5, s6⟩ := h
  exact ⟨s, kb, ra, ca, s1, s2, CSn_CG g s3, MSn_GJ j s4, fun u hu => Nat.lt_of_lt_of_le (s5 u hu) hd, fun i hi => Nat.lt_of_lt_of_le (s6 i hi) hj⟩
/-- nothing that it speaks of changes, but the fault -/
def RF (M M' : Mem) : Prop := mK M' = mK M ∧ mN M' = mN M ∧ mP M' = mP M ∧ (∀ c, (c < 215 ∨ 221 < c) → mJ M' c = mJ M c) ∧ (∀ c, c ≠ 154 → c ≠ 177 → c ≠ 178 → (c < 106 ∨ (145 < c ∧ c < 149) ∨ (153 < c ∧ c < 201) ∨ 220 < c) → mI M' c = mI M c) ∧ ∀ j, j ≠ 2 → mI M' 154 j = mI M 154 j
theorem RF_rfl : RF M M := ⟨rfl, rfl, rfl, fun _ _ => rfl, fun _ _ _ _ _ => rfl, fun _ _ => rfl⟩
theorem RF_tr (h : RF M M') (h' : RF M' M'') : RF M M'' := ⟨h'.1.trans h.1, h'.2.1.trans h.2.1, h'.2.2.1.trans h.2.2.1, fun c hc => (h'.2.2.2.1 c hc).trans (h.2.2.2.1 c hc), fun c h1 h2 h3 h4 => (h'.2.2.2.2.1 c h1 h2 h3 h4).trans (h.2.2.2.2.1 c h1 h2 h3 h4), fun j hj => (h'.2.2.2.2.2 j hj).trans (h.2.2.2.2.2 j hj)⟩
theorem RF_S (h : RF M M') (hS : Static M) : Static M' := by
  obtain ⟨a, b, c, _⟩ := h
  exact ⟨by rw [b]; exact hS.1, by rw [a]; exact hS.2.1, by rw [c]; exact hS.2.2⟩
theorem RF_CG (h : RF M M') (hS : Static M) : CG M M' := by
  obtain ⟨a, b, c, e, f, g⟩ := h
  refine ⟨by rw [b]; exact Nat.le_refl _, fun _ _ => by rw [a], fun _ _ => by rw [c], fun x h1 _ => ⟨e x (by omega), f x (by omega) (by omega) (by omega) (by omega)⟩, by rw [f 61 (by omega) (by omega) (by omega) (by omega)], fun j _ => by rw [f 97 (by omega) (by omega) (by omega) (by omega)], fun x hx => f x (by omega) (by omega) (by omega) (by omega)⟩
theorem RF_GJ (h : RF M M') : GJ M M' := ⟨fun j hj => h.2.2.2.2.2 j (by omega), fun c h1 h2 h3 h4 => h.2.2.2.2.1 c (by omega) h3 h4 (by omega)⟩
theorem Inv_RF (h : RF M M') (hI : Inv M) : Inv M' := by
  obtain ⟨hS, D, J, P, Dg, hC, hD, hT, hL, hs⟩ := hI
  have g1 := RF_CG h hS
  have g2 := RF_GJ h
  have S' := RF_S h hS
  obtain ⟨a, b, c, e, f, g⟩ := h
  exact ⟨S', D, J, P, Dg, IvC_f (fun j _ => by rw [f 61 (by omega) (by omega) (by omega) (by omega)]) (fun j h1 _ => g j (by omega)) hC, IvD_f (by rw [f 62 (by omega) (by omega) (by omega) (by omega)]) (g 6 (by decide)) (fun c hc => f c (by omega) (by omega) (by omega) (by omega)) (fun c hc => e c (by omega)) hD, IvT_f (by rw [f 91 (by omega) (by omega) (by omega) (by omega)]) (by rw [f 91 (by omega) (by omega) (by omega) (by omega)]) (g 12 (by decide)) (g 22 (by decide)) (fun c hc => f c (by omega) (by omega) (by omega) (by omega)) hT, IvL_f (fun j _ => by rw [f 146 (by omega) (by omega) (by omega) (by omega)]) (fun j hj => g j (by omega)) (fun c hc => f c (by omega) (by omega) (by omega) (by omega)) hL, IvS_f g1 g2 (Nat.le_refl _) (Nat.le_refl _) hs⟩
theorem RF_2 {v : Int32} : RF M (rowI M 154 (fu (mI M 154) 2 v)) := ⟨rfl, rfl, rfl, fun _ _ => rfl, fun c h _ _ _ => mI_row_ne h, fun j hj => by rw [mI_row]; exact if_neg hj⟩
theorem RF_22 {v w : Int32} : RF M (setI (setI M 154 2 v) 154 2 w) := RF_tr RF_2 RF_2
theorem RF_221 {g : Nat → Int64} : RF M (rowJ M 221 g) := ⟨rfl, rfl, rfl, fun c hc => mJ_row_ne (by omega), fun _ _ _ _ _ => rfl, fun _ _ => rfl⟩
theorem RF_FA (h : FA M M') : RF M M' := ⟨h.1, h.2.1, h.2.2.1, fun _ _ => by rw [h.2.2.2.1], fun c h1 h2 h3 h4 => h.2.2.2.2.1 c h1 h2 h3 (by omega), h.2.2.2.2.2⟩
theorem RF_FVA (h : FVA M M') : RF M M' := ⟨h.1, h.2.1, h.2.2.1, fun c hc => h.2.2.2.1 c (by omega), fun c h1 h2 h3 h4 => h.2.2.2.2.1 c h1 h2 h3 (by omega), h.2.2.2.2.2⟩
theorem RF_FL (h : FL M M') : RF M M' := ⟨h.1, h.2.1, h.2.2.1, fun _ _ => by rw [h.2.2.2.1], fun c h1 h2 h3 h4 => h.2.2.2.2 c (by omega), fun j _ => by rw [h.2.2.2.2 154 (by decide)]⟩
theorem RF_FZ (h : FZ M M') : RF M M' := ⟨h.1, h.2.1, h.2.2.1, fun _ _ => by rw [h.2.2.2.1], fun c h1 h2 h3 h4 => h.2.2.2.2 c (by omega), fun j _ => by rw [h.2.2.2.2 154 (by decide)]⟩
theorem fu0 {α : Type} {f : Nat → α} {k : Nat} {v : α} : fu f k v k = v := if_pos rfl
/-- the answer's place -/
theorem an221 {M0 : Mem} {x : Int64} (hM : M' = rowJ M0 221 (fu (mJ M0 221) 0 x)) : mJ M' 221 0 = x := by
  rw [hM, mJ_row]; exact if_pos rfl
/-- the end of a call whose answer is an int -/
theorem okI_ {c v v1 : Int32} {M0 M1 M2 : Mem} (hI : Inv M2) (h2 : mI M2 154 2 = c) (hM : c = iZ 0 → M1 = rowJ M0 221 (fu (mJ M0 221) 0 (jZ v1.toInt)) ∧ v = v1 ∧ mJ M2 221 = mJ M1 221) : okI Inv c v M2 :=
  ⟨hI.1, h2, fun h => by obtain ⟨a, b, e⟩ := hM h; rw [e, an221 a, b], hI⟩
end

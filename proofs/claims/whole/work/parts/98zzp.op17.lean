/-! list (17). -/
section
variable {G : GE} {d : Nat} {M M' : Mem}
/-- cells of the list change, and the fault -/
theorem Inv_L (h : Inv M) (hS : Static M') (hJ : mJ M' = mJ M) (hK : mK M' = mK M) (hN : mN M' = mN M) (hP : mP M' = mP M) (f : ∀ c, c ≠ 154 → c ≠ 146 → c ≠ 147 → c ≠ 148 → c ≠ 199 → c ≠ 200 → (c < 149 ∨ 153 < c) → (c < 201 ∨ 221 < c) → mI M' c = mI M c) (e : ∀ j, j ≠ 2 → j ≠ 66 → j ≠ 67 → mI M' 154 j = mI M 154 j) (hL : IvL M') : Inv M' := by
  have c1 : CF M M' := ⟨hK, hN, hP, hJ, fun c hc => f c (by omega) (by omega) (by omega) (by omega) (by omega) (by omega) (by omega) (by omega)⟩
  have g1 : GJ M M' := ⟨fun j hj => e j (by omega) (by omega) (by omega), fun c h1 h2 _ _ => f c (by omega) (by omega) (by omega) (by omega) (by omega) (by omega) (by omega) (by omega)⟩
  obtain ⟨_, D, J, P, Dg, hC, hD, hT, _, s, kb, ra, ca, s1, s2, s3, s4, s5⟩ := h
  have f' := fun c (h : (c < 146 ∨ 154 < c) ∧ c < 199) => f c (by omega) (by omega) (by omega) (by omega) (by omega) (by omega) (by omega) (by omega)
  refine ⟨hS, D, J, P, Dg, ?_, ?_, ?_, hL, s, kb, ra, ca, s1, s2, CSn_CF c1 s3, MSn_GJ g1 s4, s5⟩
  · unfold IvC at *
    rw [f' 61 (by decide), e 3 (by decide) (by decide) (by decide), e 4 (by decide) (by decide) (by decide), e 5 (by decide) (by decide) (by decide)]; exact hC
  · unfold IvD KN at *
    rw [f' 62 (by decide), e 6 (by decide) (by decide) (by decide), f' 63 (by decide), f' 157 (by decide), f' 64 (by decide), f' 158 (by decide), f' 65 (by decide), f' 159 (by decide), hJ]; exact hD
  · unfold IvT at *
    rw [f' 91 (by decide), e 12 (by decide) (by decide) (by decide), e 22 (by decide) (by decide) (by decide), f' 92 (by decide), f' 93 (by decide), f' 161 (by decide)]; exact hT
theorem op17_ (hst : (gl G).stackTraces = false) : op17 G d Inv := fun M hI => by
  have hS := hI.1
  have e1 := c211 (G := G) (d := d + 58) (M := M) hst hS
  refine ⟨0, by decide, Ev_post e1 (fun r M1 ⟨hr, hM⟩ => ⟨hr, ?_⟩) (fun _ _ h => h)⟩
  have S1 : Static M1 := by rw [hM]; exact hS
  have e2 := c83 (G := G) (d := d + 59) (M := M1) hst S1
  refine ⟨S1, Ev_post e2 (fun r M2 ⟨hr2, hM2⟩ => ⟨hr2, ?_⟩) (fun _ _ h => h)⟩
  have hM : M1 = rowI M 146 (fu (mI M 146) 0 (iZ 0)) := hM
  have a1 : mI M2 146 = fu (mI M 146) 0 (iZ 0) := by rw [hM2, mI_row_ne (by decide), hM, mI_row]
  have a2 : mI M2 154 = fu (fu (mI M 154) 2 (iZ 0)) 66 (iZ 0) := by rw [hM2, mI_row, hM, mI_row_ne (by decide)]
  have f : ∀ c, c ≠ 154 → c ≠ 146 → mI M2 c = mI M c := fun c h1 h2 => by rw [hM2, mI_row_ne h1, hM, mI_row_ne h2]
  have S2 : Static M2 := by rw [hM2]; exact S1
  obtain ⟨n, k1, k2, k3, k4⟩ := (show IvL M from by obtain ⟨_, D, J, P, Dg, _, _, _, hL, _⟩ := hI; exact hL).2
  refine Inv_L hI S2 (by rw [hM2, hM]; rfl) (by rw [hM2, hM]; rfl) (by rw [hM2, hM]; rfl) (by rw [hM2, hM]; rfl) (fun c h1 h2 _ _ _ _ _ _ => f c h1 h2) (fun j h1 h2 h3 => by rw [a2]; exact (if_neg h2).trans (if_neg h1)) ⟨⟨0, fun _ => 0, by rw [a1]; exact if_pos rfl, by rw [a2]; exact if_pos rfl, by decide, fun i hi => absurd hi (by omega)⟩, n, by rw [a1]; exact k1, by rw [a2]; exact k2, k3, fun i hi => by rw [f 147 (by decide) (by decide), f 200 (by decide) (by decide)]; exact k4 i hi⟩
end

/-! The fault's cell may change; fault (6). -/
section
variable {G : GE} {d : Nat} {M M' : Mem} {D J P Dg : Nat}
theorem Inv_2 {v : Int32} (h : Inv M) : Inv (rowI M 154 (fu (mI M 154) 2 v)) := by
  obtain ⟨M', hM'⟩ : ∃ M', M' = rowI M 154 (fu (mI M 154) 2 v) := ⟨_, rfl⟩
  rw [← hM']
  have e : ∀ j, j ≠ 2 → mI M' 154 j = mI M 154 j := fun j hj => by rw [hM', mI_row]; exact if_neg hj
  have f : ∀ c, c ≠ 154 → mI M' c = mI M c := fun c hc => by rw [hM', mI_row_ne hc]
  have hJ : mJ M' = mJ M := by rw [hM']; rfl
  have hS : Static M' := by rw [hM']; exact h.1
  have c1 : CF M M' := by rw [hM']; exact ⟨rfl, rfl, rfl, rfl, fun c hc => mI_row_ne (by omega)⟩
  have g1 : GJ M M' := ⟨fun j hj => e j (by omega), fun c h1 h2 _ _ => f c (by omega)⟩
  clear hM'
  obtain ⟨_, D, J, P, Dg, hC, hD, hT, hL, s, kb, ra, ca, s1, s2, s3, s4, s5⟩ := h
  refine ⟨hS, D, J, P, Dg, ?_, ?_, ?_, ?_, s, kb, ra, ca, s1, s2, CSn_CF c1 s3, MSn_GJ g1 s4, s5⟩
  · unfold IvC at *
    rw [f 61 (by decide), e 3 (by decide), e 4 (by decide), e 5 (by decide)]; exact hC
  · unfold IvD KN at *
    rw [f 62 (by decide), e 6 (by decide), f 63 (by decide), f 157 (by decide), f 64 (by decide), f 158 (by decide), f 65 (by decide), f 159 (by decide), hJ]; exact hD
  · unfold IvT at *
    rw [f 91 (by decide), e 12 (by decide), e 22 (by decide), f 92 (by decide), f 93 (by decide), f 161 (by decide)]; exact hT
  · unfold IvL at *
    rw [f 146 (by decide), e 66 (by decide), e 67 (by decide), f 148 (by decide), f 199 (by decide), f 147 (by decide), f 200 (by decide)]; exact hL
theorem op6_ (hst : (gl G).stackTraces = false) : op6 G d Inv := fun M hI => by
  have hS := hI.1
  have e1 := c160 (G := G) (d := d + 59) (M := M) hst hS
  have e2 := c56 (G := G) (d := d + 59) (M := M) hst hS
  have hT : mI M 91 3 = mI M 154 22 := by
    obtain ⟨_, D, J, P, Dg, _, _, ⟨_, hT⟩, _⟩ := hI
    exact hT
  refine ⟨0, by decide, Ev_post e1 (fun r M' ⟨v, hr, hv, hM⟩ => ⟨v, hr, ?_⟩) (fun _ _ h => h)⟩
  subst hM
  refine ⟨hS, Ev_post e2 (fun r M2 ⟨v2, hr2, hv2, hM2⟩ => ⟨v2, hr2, ?_, ?_⟩) (fun _ _ h => h)⟩
  · rw [hv2, hv, hT]
  · rw [hM2]; exact Inv_2 hI
end

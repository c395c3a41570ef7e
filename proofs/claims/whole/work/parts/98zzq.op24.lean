/-! count (24). -/
section
variable {G : GE} {d : Nat} {M M' : Mem}
theorem Inv_cnt (hI : Inv M) : ∀ k, k < 11 → mI M ((ccL[k]?).getD (0, 0)).1 ((ccL[k]?).getD (0, 0)).2 = mI M 154 ((mcL[k]?).getD 0) := by
  obtain ⟨_, D, J, P, Dg, ⟨⟨a1, a2, _⟩, ⟨a3, a4, _⟩, a5, a6, _⟩, ⟨⟨b1, b2, _⟩, _⟩, ⟨⟨T, B, t1, t2, _⟩, _⟩, ⟨⟨n, L, l1, l2, _⟩, m, k1, k2, _⟩, s, kb, ra, ca, s1, s2, ⟨⟨c1, _⟩, ⟨c2, _⟩, ⟨c3, _⟩, ⟨c4, _⟩, c5, _⟩, ⟨⟨m1, _⟩, ⟨m2, _⟩, ⟨m3, _⟩, ⟨m4, _⟩, m5, _⟩, _⟩ := hI
  intro k hk
  have : k = 0 ∨ k = 1 ∨ k = 2 ∨ k = 3 ∨ k = 4 ∨ k = 5 ∨ k = 6 ∨ k = 7 ∨ k = 8 ∨ k = 9 ∨ k = 10 := by omega
  rcases this with rfl | rfl | rfl | rfl | rfl | rfl | rfl | rfl | rfl | rfl | rfl
  all_goals first | exact a1.trans a2.symm | exact a3.trans a4.symm | exact a5.trans a6.symm | exact b1.trans b2.symm | exact t1.trans t2.symm | exact l1.trans l2.symm | exact k1.trans k2.symm | exact c1.trans m1.symm | exact c2.trans m2.symm | exact c3.trans m3.symm | exact c4.trans m4.symm | exact c5.trans m5.symm
/-- the answer's place may change -/
theorem Inv_221 {g : Nat → Int64} (h : Inv M) : Inv (rowJ M 221 g) := by
  obtain ⟨hS, D, J, P, Dg, hC, hD, hT, hL, s, kb, ra, ca, s1, s2, s3, s4, s5⟩ := h
  have c1 : CG M (rowJ M 221 g) := ⟨Nat.le_refl _, fun _ _ => rfl, fun _ _ => rfl, fun c h1 _ => ⟨mJ_row_ne (by omega), rfl⟩, rfl, fun _ _ => rfl, fun _ _ => rfl⟩
  refine ⟨hS, D, J, P, Dg, hC, ⟨hD.1, hD.2.1, hD.2.2.1, fun i j hi hj => ?_⟩, hT, hL, s, kb, ra, ca, s1, s2, CSn_CG c1 s3, s4, s5⟩
  have h24 := hD.1.2.2
  rw [mJ_row_ne (by omega), mJ_row_ne (by omega)]
  exact hD.2.2.2 i j hi hj
theorem op24_ (hst : (gl G).stackTraces = false) : op24 G d Inv := fun M hI x1 => by
  have hS := hI.1
  obtain ⟨z, z1, z2, rfl⟩ := i32 x1
  have e0 := c232 (G := G) (d := d + 58) (M := M) (z := z) hst hS z1 z2
  have e1 := c253 (G := G) (d := d + 58) hst hS e0 (fun v M' h => by rw [h.2.2]; exact hS) (fun e M' h => h.2.1)
  refine ⟨6, by decide, Ev_post e1 (fun r M1 ⟨c, hr, hq⟩ => ⟨c, hr, ?_⟩) (fun _ _ h => h)⟩
  rcases hq with ⟨rfl, v, M0, ⟨h1, h2, h3⟩, hM⟩ | ⟨rfl, h1, _, h3⟩ | ⟨_, _, h2, _⟩
  · subst h3
    have S1 : Static M1 := by rw [hM]; exact hS
    have e2 := c98 (G := G) (d := d + 58) (M := M1) (z := z) hst S1 z1 z2
    simp only [h1, and_self, if_true] at e2
    refine ⟨S1, Or.inl rfl, Ev_post e2 (fun r M2 ⟨v2, hr2, hv2, hM2⟩ => ⟨v2, hr2, ?_⟩) (fun _ _ h => h)⟩
    have hM1 : Inv M1 := by rw [hM]; exact Inv_221 hI
    rw [hM2]
    refine ⟨S1, ?_, fun _ => ?_, Inv_2 hM1⟩
    · show mI (rowI M1 154 _) 154 2 = _
      rw [mI_row]; exact if_pos rfl
    · show mJ M1 221 0 = _
      rw [hM, mJ_row, hv2]
      refine (if_pos rfl).trans ?_
      rw [h2, Inv_cnt hI z.toNat (by omega), hM]; rfl
  · subst h3
    have e2 := c98 (G := G) (d := d + 58) (M := M1) (z := z) hst hS z1 z2
    simp only [h1, if_false] at e2
    refine ⟨hS, Or.inr (Or.inl rfl), Ev_post e2 (fun r M2 ⟨v2, hr2, hv2, hM2⟩ => ⟨v2, hr2, ?_⟩) (fun _ _ h => h)⟩
    rw [hM2]
    refine ⟨hS, ?_, fun h => absurd h (by decide), Inv_2 hI⟩
    show mI (rowI M1 154 _) 154 2 = _
    rw [mI_row]; exact if_pos rfl
  · cases h2
end

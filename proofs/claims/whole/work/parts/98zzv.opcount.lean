/-! comes, days (0, 7). -/
section
variable {G : GE} {d : Nat} {M M' : Mem} {D J P Dg J' Dg' : Nat}
/-- only ints change -/
def SK (M M' : Mem) : Prop := mK M' = mK M ∧ mN M' = mN M ∧ mP M' = mP M ∧ ∀ c, (c < 215 ∨ 221 < c) → mJ M' c = mJ M c
theorem SK_rfl : SK M M := ⟨rfl, rfl, rfl, fun _ _ => rfl⟩
theorem SK_tr {M'' : Mem} (h : SK M M') (h' : SK M' M'') : SK M M'' := ⟨h'.1.trans h.1, h'.2.1.trans h.2.1, h'.2.2.1.trans h.2.2.1, fun c hc => (h'.2.2.2 c hc).trans (h.2.2.2 c hc)⟩
theorem SK_I {c : Nat} {g : Nat → Int32} : SK M (rowI M c g) := ⟨rfl, rfl, rfl, fun _ _ => rfl⟩
theorem SK_221 {g : Nat → Int64} : SK M (rowJ M 221 g) := ⟨rfl, rfl, rfl, fun c hc => mJ_row_ne (by omega)⟩
theorem SK_RF (h : RF M M') : SK M M' := ⟨h.1, h.2.1, h.2.2.1, h.2.2.2.1⟩
theorem SK_S (h : SK M M') (hS : Static M) : Static M' := by
  obtain ⟨a, b, c, _⟩ := h
  exact ⟨by rw [b]; exact hS.1, by rw [a]; exact hS.2.1, by rw [c]; exact hS.2.2⟩
/-- of trials, runs, cards and protests nothing changes -/
theorem IvS_i (hK : SK M M') (hS : Static M) (f : ∀ c, c = 99 ∨ c = 100 ∨ (102 ≤ c ∧ c ≤ 105) ∨ (162 ≤ c ∧ c ≤ 198) ∨ 222 ≤ c → mI M' c = mI M c) (f1 : mI M' 61 6 = mI M 61 6) (f2 : ∀ j, j = 0 ∨ j = 4 ∨ j = 6 ∨ j = 7 → mI M' 97 j = mI M 97 j) (f3 : ∀ j, j = 24 ∨ (42 ≤ j ∧ j ≤ 45) → mI M' 154 j = mI M 154 j) (hd : Dg ≤ Dg') (hj : J ≤ J') (h : IvS M Dg J) : IvS M' Dg' J' := by
  obtain ⟨a, b, c, e⟩ := hK
  refine IvS_f ⟨by rw [b]; exact Nat.le_refl _, fun _ _ => by rw [a], fun _ _ => by rw [c], fun x h1 _ => ⟨e x (by omega), f x (by omega)⟩, f1, f2, fun x hx => f x (by omega)⟩ ⟨f3, fun c h1 h2 h3 h4 => f c (by omega)⟩ hd hj h
theorem op0_ (hst : (gl G).stackTraces = false) : op0 G d Inv := fun M hI x1 => by
  obtain ⟨z, m1, n1, rfl⟩ := i32 x1
  obtain ⟨hS, D, J, P, Dg, ⟨⟨a1, a2, a3⟩, ⟨j1, j2, j3⟩, p1, p2, p3⟩, hD, hT, hL, hV⟩ := id hI
  have e0 := c107 (G := G) (d := d + 58) (M := M) (j := J) (p := P) hst hS m1 n1 j1 (by omega) (by omega) p1 (by omega) (by omega)
  have e0' : Ev G (d + 59) 107 [aR (some 61), aI (iZ z)] M 6 (rI fun v M' => (z = 0 ∧ J = 6 ∧ v = iZ (-1) ∧ M' = M) ∨ (z = 0 ∧ J < 6 ∧ v = iZ J ∧ M' = setI M 61 1 (iZ (J + 1))) ∨ (z = 1 ∧ P = 12 ∧ v = iZ (-1) ∧ M' = M) ∨ (z = 1 ∧ P < 12 ∧ v = iZ P ∧ M' = setI M 61 2 (iZ (P + 1)))) (fun e M' => ¬ z = 0 ∧ ¬ z = 1 ∧ e = 0 ∧ M' = M) := by
    refine Ev_post e0 (fun r M' ⟨v, hv, h⟩ => ⟨v, hv, ?_⟩) (fun _ _ h => h)
    by_cases hz : z = 0
    · (try dsimp only at h); rw [if_pos hz] at h
      by_cases hj : (J : Int) = 6
      · rw [if_pos hj] at h; exact Or.inl ⟨hz, by omega, h⟩
      · rw [if_neg hj] at h; exact Or.inr (Or.inl ⟨hz, by omega, h⟩)
    · (try dsimp only at h); rw [if_neg hz] at h
      obtain ⟨h1, h⟩ := h
      by_cases hj : (P : Int) = 12
      · rw [if_pos hj] at h; exact Or.inr (Or.inr (Or.inl ⟨h1, by omega, h⟩))
      · rw [if_neg hj] at h; exact Or.inr (Or.inr (Or.inr ⟨h1, by omega, h⟩))
  have e1 := c233 (G := G) (d := d + 58) hst hS e0' (fun v M' h => by rcases h with ⟨_, _, _, h⟩ | ⟨_, _, _, h⟩ | ⟨_, _, _, h⟩ | ⟨_, _, _, h⟩ <;> rw [h] <;> exact hS) (fun e M' h => h.2.2.1)
  refine ⟨6, by decide, Ev_post e1 (fun r M1 ⟨c, hr, hq⟩ => ⟨c, hr, ?_⟩) (fun _ _ h => h)⟩
  rcases hq with ⟨rfl, v, M0, h, hM⟩ | ⟨rfl, h1, h2, _, h3⟩ | ⟨_, _, _, h2, _⟩
  · rcases h with ⟨hz, hj, hv, hM0⟩ | ⟨hz, hj, hv, hM0⟩ | ⟨hz, hj, hv, hM0⟩ | ⟨hz, hj, hv, hM0⟩
    · have hF : RF M M1 := by rw [hM, hM0]; exact RF_221
      have e2 := c18 (G := G) (d := d + 58) (M := M1) (j := J) (p := P) hst (RF_S hF hS) m1 n1 (by rw [hF.2.2.2.2.2 4 (by decide)]; exact j2) (by omega) (by omega) (by rw [hF.2.2.2.2.2 5 (by decide)]; exact p2) (by omega) (by omega)
      refine ⟨RF_S hF hS, Or.inl rfl, Ev_post e2 (fun r M2 ⟨v2, hr2, h2⟩ => ⟨v2, hr2, ?_⟩) (fun _ _ h => h)⟩
      (try dsimp only at h2); rw [if_pos hz, if_pos (by omega)] at h2
      obtain ⟨hv2, hM2⟩ := h2
      refine okI_ (Inv_RF (M := M1) (by rw [hM2]; exact RF_2) (Inv_RF hF hI)) (by rw [hM2]; exact m2_2) (fun _ => ⟨hM, by rw [hv2, hv], by rw [hM2]; rfl⟩)
    · have S1 : Static M1 := by rw [hM, hM0]; exact hS
      have e2 := c18 (G := G) (d := d + 58) (M := M1) (j := J) (p := P) hst S1 m1 n1 (by rw [hM, hM0]; exact j2) (by omega) (by omega) (by rw [hM, hM0]; exact p2) (by omega) (by omega)
      refine ⟨S1, Or.inl rfl, Ev_post e2 (fun r M2 ⟨v2, hr2, h2⟩ => ⟨v2, hr2, ?_⟩) (fun _ _ h => h)⟩
      (try dsimp only at h2); rw [if_pos hz, if_neg (by omega)] at h2
      obtain ⟨hv2, hM2⟩ := h2
      have f : ∀ c, c ≠ 61 → c ≠ 154 → mI M2 c = mI M c := fun c h1 h2 => by
        rw [hM2, setI_d, setI_d, mI_row_ne h2, mI_row_ne h2, hM, hM0]; exact mI_row_ne h1
      have f1 : ∀ j, j ≠ 1 → mI M2 61 j = mI M 61 j := fun j hj => by rw [hM2, hM, hM0]; exact if_neg hj
      have f2 : ∀ j, j ≠ 2 → j ≠ 4 → mI M2 154 j = mI M 154 j := fun j h1 h2 => by rw [hM2, hM, hM0]; exact (if_neg h2).trans (if_neg h1)
      have hK : SK M M2 := by rw [hM2, hM, hM0]; exact SK_tr (SK_tr SK_I SK_221) (SK_tr SK_I SK_I)
      refine okI_ ⟨SK_S hK hS, D, J + 1, P, Dg, ⟨⟨by rw [f1 0 (by decide)]; exact a1, by rw [f2 3 (by decide) (by decide)]; exact a2, a3⟩, ⟨by rw [hM2, hM, hM0]; first | done | rfl, by rw [hM2]; first | done | rfl, by omega⟩, by rw [f1 2 (by decide)]; exact p1, by rw [f2 5 (by decide) (by decide)]; exact p2, p3⟩, ?_, ?_, ?_, ?_⟩ (by rw [hM2]; first | done | rfl) (fun _ => ⟨hM, by rw [hv2, hv], by rw [hM2]; rfl⟩)
      · exact IvD_f (by rw [f 62 (by decide) (by decide)]) (f2 6 (by decide) (by decide)) (fun c hc => f c (by omega) (by omega)) (fun c hc => hK.2.2.2 c (by omega)) hD
      · exact IvT_f (by rw [f 91 (by decide) (by decide)]) (by rw [f 91 (by decide) (by decide)]) (f2 12 (by decide) (by decide)) (f2 22 (by decide) (by decide)) (fun c hc => f c (by omega) (by omega)) hT
      · exact IvL_f (fun j _ => by rw [f 146 (by decide) (by decide)]) (fun j hj => f2 j (by omega) (by omega)) (fun c hc => f c (by omega) (by omega)) hL
      · exact IvS_i hK hS (fun c hc => f c (by omega) (by omega)) (f1 6 (by decide)) (fun j _ => by rw [f 97 (by decide) (by decide)]) (fun j hj => f2 j (by omega) (by omega)) (Nat.le_refl _) (by omega) hV
    · have hF : RF M M1 := by rw [hM, hM0]; exact RF_221
      have e2 := c18 (G := G) (d := d + 58) (M := M1) (j := J) (p := P) hst (RF_S hF hS) m1 n1 (by rw [hF.2.2.2.2.2 4 (by decide)]; exact j2) (by omega) (by omega) (by rw [hF.2.2.2.2.2 5 (by decide)]; exact p2) (by omega) (by omega)
      refine ⟨RF_S hF hS, Or.inl rfl, Ev_post e2 (fun r M2 ⟨v2, hr2, h2⟩ => ⟨v2, hr2, ?_⟩) (fun _ _ h => h)⟩
      (try dsimp only at h2); rw [if_neg (by omega), if_pos hz, if_pos (by omega)] at h2
      obtain ⟨hv2, hM2⟩ := h2
      refine okI_ (Inv_RF (M := M1) (by rw [hM2]; exact RF_2) (Inv_RF hF hI)) (by rw [hM2]; exact m2_2) (fun _ => ⟨hM, by rw [hv2, hv], by rw [hM2]; rfl⟩)
    · have S1 : Static M1 := by rw [hM, hM0]; exact hS
      have e2 := c18 (G := G) (d := d + 58) (M := M1) (j := J) (p := P) hst S1 m1 n1 (by rw [hM, hM0]; exact j2) (by omega) (by omega) (by rw [hM, hM0]; exact p2) (by omega) (by omega)
      refine ⟨S1, Or.inl rfl, Ev_post e2 (fun r M2 ⟨v2, hr2, h2⟩ => ⟨v2, hr2, ?_⟩) (fun _ _ h => h)⟩
      (try dsimp only at h2); rw [if_neg (by omega), if_pos hz, if_neg (by omega)] at h2
      obtain ⟨hv2, hM2⟩ := h2
      have f : ∀ c, c ≠ 61 → c ≠ 154 → mI M2 c = mI M c := fun c h1 h2 => by
        rw [hM2, setI_d, setI_d, mI_row_ne h2, mI_row_ne h2, hM, hM0]; exact mI_row_ne h1
      have f1 : ∀ j, j ≠ 2 → mI M2 61 j = mI M 61 j := fun j hj => by rw [hM2, hM, hM0]; exact if_neg hj
      have f2 : ∀ j, j ≠ 2 → j ≠ 5 → mI M2 154 j = mI M 154 j := fun j h1 h2 => by rw [hM2, hM, hM0]; exact (if_neg h2).trans (if_neg h1)
      have hK : SK M M2 := by rw [hM2, hM, hM0]; exact SK_tr (SK_tr SK_I SK_221) (SK_tr SK_I SK_I)
      refine okI_ ⟨SK_S hK hS, D, J, P + 1, Dg, ⟨⟨by rw [f1 0 (by decide)]; exact a1, by rw [f2 3 (by decide) (by decide)]; exact a2, a3⟩, ⟨by rw [f1 1 (by decide)]; exact j1, by rw [f2 4 (by decide) (by decide)]; exact j2, j3⟩, by rw [hM2, hM, hM0]; first | done | rfl, by rw [hM2]; first | done | rfl, by omega⟩, ?_, ?_, ?_, ?_⟩ (by rw [hM2]; first | done | rfl) (fun _ => ⟨hM, by rw [hv2, hv], by rw [hM2]; rfl⟩)
      · exact IvD_f (by rw [f 62 (by decide) (by decide)]) (f2 6 (by decide) (by decide)) (fun c hc => f c (by omega) (by omega)) (fun c hc => hK.2.2.2 c (by omega)) hD
      · exact IvT_f (by rw [f 91 (by decide) (by decide)]) (by rw [f 91 (by decide) (by decide)]) (f2 12 (by decide) (by decide)) (f2 22 (by decide) (by decide)) (fun c hc => f c (by omega) (by omega)) hT
      · exact IvL_f (fun j _ => by rw [f 146 (by decide) (by decide)]) (fun j hj => f2 j (by omega) (by omega)) (fun c hc => f c (by omega) (by omega)) hL
      · exact IvS_i hK hS (fun c hc => f c (by omega) (by omega)) (f1 6 (by decide)) (fun j _ => by rw [f 97 (by decide) (by decide)]) (fun j hj => f2 j (by omega) (by omega)) (Nat.le_refl _) (Nat.le_refl _) hV
  · subst h3
    have e2 := c18 (G := G) (d := d + 58) (M := M1) (j := J) (p := P) hst hS m1 n1 j2 (by omega) (by omega) p2 (by omega) (by omega)
    refine ⟨hS, Or.inr (Or.inl rfl), Ev_post e2 (fun r M2 ⟨v2, hr2, h⟩ => ⟨v2, hr2, ?_⟩) (fun _ _ h => h)⟩
    (try dsimp only at h); rw [if_neg h1, if_neg h2] at h
    obtain ⟨hv2, hM2⟩ := h
    exact okI_ (v1 := v2) (M0 := M1) (M1 := M1) (Inv_RF (M := M1) (by rw [hM2]; exact RF_22) hI) (by rw [hM2]; exact m2_2) (fun h => absurd h (by decide))
  · cases h2
theorem op7_ (hst : (gl G).stackTraces = false) : op7 G d Inv := fun M hI x1 => by
  obtain ⟨z, m1, n1, rfl⟩ := i32 x1
  obtain ⟨hS, D, J, P, Dg, ⟨⟨a1, a2, a3⟩, ⟨j1, j2, j3⟩, p1, p2, p3⟩, hD, hT, hL, hV⟩ := id hI
  have e0 := c161 (G := G) (d := d + 58) (M := M) (T := D) hst hS m1 n1 a1 (by omega) (by omega)
  have e1 := c237 (G := G) (d := d + 58) hst hS e0 (fun v M' h => by rw [h.2.2]; exact hS) (fun e M' h => h.2.1)
  refine ⟨6, by decide, Ev_post e1 (fun r M1 ⟨c, hr, hq⟩ => ⟨c, hr, ?_⟩) (fun _ _ h => h)⟩
  rcases hq with ⟨rfl, v, M0, ⟨hz, hv, hM0⟩, hM⟩ | ⟨_, _, h2, _⟩ | ⟨rfl, h1, _, h3⟩
  · have S1 : Static M1 := by rw [hM, hM0]; exact hS
    have e2 := c57 (G := G) (d := d + 58) (M := M1) (T := D) hst S1 m1 n1 (by rw [hM, hM0]; exact a2) (by omega) (by omega)
    refine ⟨S1, Or.inl rfl, Ev_post e2 (fun r M2 ⟨v2, hr2, h2⟩ => ⟨v2, hr2, ?_⟩) (fun _ _ h => h)⟩
    (try dsimp only at h2); rw [if_pos hz] at h2
    obtain ⟨hv2, hM2⟩ := h2
    have f : ∀ c, c ≠ 61 → c ≠ 154 → mI M2 c = mI M c := fun c h1 h2 => by
      rw [hM2, mI_row_ne h2, hM, hM0]; exact mI_row_ne h1
    have f1 : ∀ j, j ≠ 0 → mI M2 61 j = mI M 61 j := fun j hj => by rw [hM2, hM, hM0]; exact if_neg hj
    have f2 : ∀ j, j ≠ 2 → j ≠ 3 → mI M2 154 j = mI M 154 j := fun j h1 h2 => by rw [hM2, hM, hM0]; exact (if_neg h2).trans (if_neg h1)
    have hK : SK M M2 := by rw [hM2, hM, hM0]; exact SK_tr (SK_tr SK_I SK_221) SK_I
    have eD : iZ ((D : Int) + z) = iZ (((D + z.toNat : Nat) : Int)) := by rw [show (((D + z.toNat : Nat)) : Int) = D + z from by omega]
    refine okI_ ⟨SK_S hK hS, D + z.toNat, J, P, Dg, ⟨⟨by rw [← eD, hM2, hM, hM0]; first | done | rfl, by rw [← eD, hM2]; first | done | rfl, by omega⟩, ⟨by rw [f1 1 (by decide)]; exact j1, by rw [f2 4 (by decide) (by decide)]; exact j2, j3⟩, by rw [f1 2 (by decide)]; exact p1, by rw [f2 5 (by decide) (by decide)]; exact p2, p3⟩, ?_, ?_, ?_, ?_⟩ (by rw [hM2]; first | done | rfl) (fun _ => ⟨hM, by rw [hv2, hv], by rw [hM2]; rfl⟩)
    · exact IvD_f (by rw [f 62 (by decide) (by decide)]) (f2 6 (by decide) (by decide)) (fun c hc => f c (by omega) (by omega)) (fun c hc => hK.2.2.2 c (by omega)) hD
    · exact IvT_f (by rw [f 91 (by decide) (by decide)]) (by rw [f 91 (by decide) (by decide)]) (f2 12 (by decide) (by decide)) (f2 22 (by decide) (by decide)) (fun c hc => f c (by omega) (by omega)) hT
    · exact IvL_f (fun j _ => by rw [f 146 (by decide) (by decide)]) (fun j hj => f2 j (by omega) (by omega)) (fun c hc => f c (by omega) (by omega)) hL
    · exact IvS_i hK hS (fun c hc => f c (by omega) (by omega)) (f1 6 (by decide)) (fun j _ => by rw [f 97 (by decide) (by decide)]) (fun j hj => f2 j (by omega) (by omega)) (Nat.le_refl _) (Nat.le_refl _) hV
  · cases h2
  · subst h3
    have e2 := c57 (G := G) (d := d + 58) (M := M1) (T := D) hst hS m1 n1 a2 (by omega) (by omega)
    refine ⟨hS, Or.inr (Or.inl rfl), Ev_post e2 (fun r M2 ⟨v2, hr2, h⟩ => ⟨v2, hr2, ?_⟩) (fun _ _ h => h)⟩
    (try dsimp only at h); rw [if_neg h1] at h
    obtain ⟨hv2, hM2⟩ := h
    exact okI_ (v1 := v2) (M0 := M1) (M1 := M1) (Inv_RF (M := M1) (by rw [hM2]; exact RF_2) hI) (by rw [hM2]; exact m2_2) (fun h => absurd h (by decide))
end

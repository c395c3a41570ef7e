/-! protest, decide (13, 14). -/
section
variable {G : GE} {d : Nat} {M M' : Mem} {D J P Dg J' Dg' : Nat}
theorem op13_ (hst : (gl G).stackTraces = false) : op13 G d Inv := fun M hI x1 => by
  obtain ⟨z, m1, n1, rfl⟩ := i32 x1
  obtain ⟨hS, D, J, P, Dg, hC, hD, hT, hL, s, kb, ra, ca, s1, s2, s3, s4, s5, s6⟩ := id hI
  have n120 := s1.2.2.1.1
  have n200 := s1.2.2.2.1.1
  have n40 := s1.2.2.2.2.1
  obtain ⟨a1, a2, a3⟩ := hC.1
  have e0 := c197 (G := G) (d := d + 56) (M := M) (s := s) (kb := kb) (ra := ra) (ca := ca) (z := z) (D := D) hst hS s1 s3 m1 n1 a1 (by omega) (by omega)
  have e1 := c243 (G := G) (d := d + 58) hst hS e0 (fun v M' h => by
    have h := h.2
    by_cases hc : nPt s < 40 ∧ kaI s z.toNat D ≠ -1
    · rw [if_pos hc] at h; rw [h.2]; exact hS
    · rw [if_neg hc] at h; rw [h.2]; exact hS) (fun e M' h => h.2.1)
  refine ⟨6, by decide, Ev_post e1 (fun r M1 ⟨c, hr, hq⟩ => ⟨c, hr, ?_⟩) (fun _ _ h => h)⟩
  have E2 : ∀ M1, Static M1 → mI M1 154 = mI M 154 → Ev G (d + 60) 77 [aR (some 154), aI (iZ z)] M1 0 _ nX := fun M1 S1 f1 => c77 (G := G) (d := d + 58) (M := M1) (u := z) (R := nRn s) (T := D) (n := nPt s) (N := nCd s) hst S1 m1 n1 (by rw [f1]; exact s4.2.2.1.1) (by omega) (by omega) (by rw [f1]; exact a2) (by omega) (by omega) (by rw [f1]; exact s4.2.2.2.1.1) n200 (by rw [f1]; exact s4.2.2.2.2.1) n40
  have hcA : ∀ M1, MSn M1 s → cAt M1 (z.toNat : Nat) D (nCd s) = kaI s z.toNat D := fun M1 hM => cAt_cA hM s1 _ (Nat.le_refl _)
  rcases hq with ⟨rfl, v, M0, ⟨hz, h⟩, hM⟩ | ⟨rfl, h1, _, h3⟩ | ⟨_, _, h2, _⟩
  · have hzz : ((z.toNat : Nat) : Int) = z := by omega
    by_cases hc : nPt s < 40 ∧ kaI s z.toNat D ≠ -1
    · (try dsimp only at h); rw [if_pos hc] at h
      obtain ⟨hv, hM0⟩ := h
      have S1 : Static M1 := by rw [hM, hM0]; exact hS
      refine ⟨S1, Or.inl rfl, Ev_post (E2 M1 S1 (by rw [hM, hM0]; rfl)) (fun r2 M2 ⟨v2, hr2, h2⟩ => ⟨v2, hr2, ?_⟩) (fun _ _ h => h)⟩
      have hK0 : SK M M1 := by rw [hM, hM0]; exact SK_tr (SK_tr (SK_tr SK_I SK_I) SK_I) SK_221
      have hK1 : SK M0 M1 := by rw [hM]; exact SK_221
      have i10 : ∀ c, mI M1 c = mI M0 c := fun c => by rw [hM]; rfl
      have f0 : ∀ c, c ≠ 97 → c ≠ 102 → c ≠ 103 → mI M1 c = mI M c := fun c h1 h2 h3 => by
        rw [i10, hM0]; unfold ptM; rw [mI_row_ne h3, mI_row_ne h2, mI_row_ne h1]
      have hM1 : MSn M1 s := MSn_GJ (GJ_c (fun c h1 h2 => f0 c (by omega) (by omega) (by omega))) s4
      have hcA := hcA M1 hM1
      rw [hzz] at hcA
      (try dsimp only at h2); rw [if_neg (fun h => h hz), if_pos (by rw [hcA]; exact hc)] at h2
      obtain ⟨hv2, hM2⟩ := h2
      rw [← hzz] at hM2
      have hK2 : SK M1 M2 := by rw [hM2]; exact SK_tr (SK_tr (SK_tr SK_I SK_I) SK_I) (SK_tr SK_I SK_I)
      have hK := SK_tr hK0 hK2
      have f1 : ∀ c, c ≠ 154 → c ≠ 195 → c ≠ 196 → c ≠ 197 → c ≠ 198 → mI M2 c = mI M1 c := fun c h1 h2 h3 h4 h5 => by
        rw [hM2, mI_row_ne h5, mI_row_ne h4, mI_row_ne h3, mI_row_ne h2, mI_row_ne h1]
      have f : ∀ c, c ≠ 97 → c ≠ 102 → c ≠ 103 → c ≠ 154 → (c < 195 ∨ 198 < c) → mI M2 c = mI M c := fun c h1 h2 h3 h4 h5 => (f1 c h4 (by omega) (by omega) (by omega) (by omega)).trans (f0 c h1 h2 h3)
      have f2 : ∀ j, j ≠ 2 → j ≠ 45 → mI M2 154 j = mI M 154 j := fun j h1 h2 => by rw [hM2, ← f0 154 (by decide) (by decide) (by decide)]; exact (if_neg h2).trans (if_neg h1)
      have hC0 := CSn_addP s3 hM0
      have hCS : CSn M2 (addP s z.toNat) kb ra ca := CSn_CG (CG_r (SK_tr hK1 hK2) (fun c hc => by rw [f1 c (by omega) (by omega) (by omega) (by omega) (by omega), i10])) hC0
      have hMS : MSn M2 (addP s z.toNat) := MSn_addP hM1 hM2
      refine okI_ ⟨SK_S hK hS, D, J, P, Dg, ?_, ?_, ?_, ?_, addP s z.toNat, kb, ra, ca, Sok_addP s1 hc.1 (by omega), s2, hCS, hMS, s5, s6⟩ (by rw [hM2]; first | done | rfl) (fun _ => ⟨hM, by rw [hv2, hv], by rw [hM2]; rfl⟩)
      · exact IvC_f (fun j _ => by rw [f 61 (by decide) (by decide) (by decide) (by decide) (by decide)]) (fun j h1 h2 => f2 j (by omega) (by omega)) hC
      · exact IvD_f (by rw [f 62 (by decide) (by decide) (by decide) (by decide) (by decide)]) (f2 6 (by decide) (by decide)) (fun c hc => f c (by omega) (by omega) (by omega) (by omega) (by omega)) (fun c hc => hK.2.2.2 c (by omega)) hD
      · exact IvT_f (by rw [f 91 (by decide) (by decide) (by decide) (by decide) (by decide)]) (by rw [f 91 (by decide) (by decide) (by decide) (by decide) (by decide)]) (f2 12 (by decide) (by decide)) (f2 22 (by decide) (by decide)) (fun c hc => f c (by omega) (by omega) (by omega) (by omega) (by omega)) hT
      · exact IvL_f (fun j _ => by rw [f 146 (by decide) (by decide) (by decide) (by decide) (by decide)]) (fun j hj => f2 j (by omega) (by omega)) (fun c hc => f c (by omega) (by omega) (by omega) (by omega) (by omega)) hL
    · (try dsimp only at h); rw [if_neg hc] at h
      obtain ⟨hv, hM0⟩ := h
      have hF : RF M M1 := by rw [hM, hM0]; exact RF_221
      refine ⟨RF_S hF hS, Or.inl rfl, Ev_post (E2 M1 (RF_S hF hS) (by rw [hM, hM0]; rfl)) (fun r2 M2 ⟨v2, hr2, h2⟩ => ⟨v2, hr2, ?_⟩) (fun _ _ h => h)⟩
      have hcA := hcA M1 (MSn_GJ (RF_GJ hF) s4)
      rw [hzz] at hcA
      (try dsimp only at h2); rw [if_neg (fun h => h hz), if_neg (by rw [hcA]; exact hc)] at h2
      obtain ⟨hv2, hM2⟩ := h2
      exact okI_ (Inv_RF (M := M1) (by rw [hM2]; exact RF_2) (Inv_RF hF hI)) (by rw [hM2]; exact m2_2) (fun _ => ⟨hM, by rw [hv2, hv], by rw [hM2]; rfl⟩)
  · subst h3
    refine ⟨hS, Or.inr (Or.inl rfl), Ev_post (E2 M1 hS rfl) (fun r2 M2 ⟨v2, hr2, h2⟩ => ⟨v2, hr2, ?_⟩) (fun _ _ h => h)⟩
    (try dsimp only at h2); rw [if_pos h1] at h2
    obtain ⟨hv2, hM2⟩ := h2
    exact okI_ (v1 := v2) (M0 := M1) (M1 := M1) (Inv_RF (M := M1) (by rw [hM2]; exact RF_2) hI) (by rw [hM2]; exact m2_2) (fun h => absurd h (by decide))
  · cases h2
theorem op14_ (hst : (gl G).stackTraces = false) : op14 G d Inv := fun M hI x1 x2 x3 => by
  obtain ⟨p, m1, n1, rfl⟩ := i32 x1
  obtain ⟨w, m2, n2, rfl⟩ := i32 x2
  obtain ⟨y, m3, n3, rfl⟩ := i32 x3
  obtain ⟨hS, D, J, P, Dg, hC, hD, hT, hL, s, kb, ra, ca, s1, s2, s3, s4, s5, s6⟩ := id hI
  have n40 := s1.2.2.2.2.1
  obtain ⟨a1, a2, a3⟩ := hC.1
  obtain ⟨E, x1, x2, x3, x4⟩ : ∃ E : Int, -1 ≤ E ∧ E ≤ 999 ∧ (0 ≤ p ∧ p < nPt s → mI M 103 p.toNat = iZ E) ∧ (0 ≤ p ∧ p < nPt s → mI M 196 p.toNat = iZ E) := by
    by_cases h : 0 ≤ p ∧ p < nPt s
    · have o := (s1.2.2.2.2.2 p.toNat (by omega)).2.1
      exact ⟨(ePt s p.toNat).2.1, o.1, o.2, fun _ => (s3.2.2.2.2.2 p.toNat (by omega)).2.1, fun _ => (s4.2.2.2.2.2 p.toNat (by omega)).2.1⟩
    · exact ⟨-1, by decide, by decide, fun h' => absurd h' h, fun h' => absurd h' h⟩
  have e0 := c199 (G := G) (d := d + 57) (M := M) (p := p) (w := w) (y := y) (P := nPt s) (D := E) hst hS m1 n1 m2 n2 m3 n3 s3.2.2.2.2.1 (by omega) (by omega) x3 x1 x2
  have e1 := c244 (G := G) (d := d + 58) hst hS e0 (fun v M' h => by
    have h := h.2
    by_cases hc : E = -1 ∧ ((0 ≤ w ∧ w ≤ 3) ∧ (if w = 3 then -50 ≤ y ∧ y ≤ 50 else y = 0))
    · rw [if_pos hc] at h; rw [h.2]; exact hS
    · rw [if_neg hc] at h; rw [h.2]; exact hS) (fun e M' h => h.2.1)
  refine ⟨6, by decide, Ev_post e1 (fun r M1 ⟨c, hr, hq⟩ => ⟨c, hr, ?_⟩) (fun _ _ h => h)⟩
  have E2 : ∀ M1, Static M1 → mI M1 154 = mI M 154 → mI M1 196 = mI M 196 → Ev G (d + 60) 78 [aR (some 154), aI (iZ p), aI (iZ w), aI (iZ y)] M1 0 _ nX := fun M1 S1 f1 f2 => c78 (G := G) (d := d + 58) (M := M1) (p := p) (w := w) (y := y) (P := nPt s) (D := E) hst S1 m1 n1 m2 n2 m3 n3 (by rw [f1]; exact s4.2.2.2.2.1) (by omega) (by omega) (by rw [f2]; exact x4) x1 x2
  rcases hq with ⟨rfl, v, M0, ⟨hz, h⟩, hM⟩ | ⟨rfl, h1, _, h3⟩ | ⟨_, _, h2, _⟩
  · by_cases hc : E = -1 ∧ ((0 ≤ w ∧ w ≤ 3) ∧ (if w = 3 then -50 ≤ y ∧ y ≤ 50 else y = 0))
    · (try dsimp only at h); rw [if_pos hc] at h
      obtain ⟨hv, hM0⟩ := h
      have S1 : Static M1 := by rw [hM, hM0]; exact hS
      refine ⟨S1, Or.inl rfl, Ev_post (E2 M1 S1 (by rw [hM, hM0]; rfl) (by rw [hM, hM0]; rfl)) (fun r2 M2 ⟨v2, hr2, h2⟩ => ⟨v2, hr2, ?_⟩) (fun _ _ h => h)⟩
      (try dsimp only at h2); rw [if_neg (fun h => h hz), if_pos hc] at h2
      obtain ⟨hv2, hM2⟩ := h2
      rw [a1] at hM0
      have hK0 : SK M M1 := by rw [hM, hM0]; exact SK_tr (SK_tr (SK_tr SK_I SK_I) SK_I) SK_221
      have hK1 : SK M0 M1 := by rw [hM]; exact SK_221
      have i10 : ∀ c, mI M1 c = mI M0 c := fun c => by rw [hM]; rfl
      have f0 : ∀ c, c ≠ 103 → c ≠ 104 → c ≠ 105 → mI M1 c = mI M c := fun c h1 h2 h3 => by
        rw [i10, hM0, mI_row_ne h3, mI_row_ne h2, mI_row_ne h1]
      have hM1 : MSn M1 s := MSn_GJ (GJ_c (fun c h1 h2 => f0 c (by omega) (by omega) (by omega))) s4
      rw [show mI M1 154 3 = iZ D from by rw [f0 154 (by decide) (by decide) (by decide)]; exact a2] at hM2
      have hK2 : SK M1 M2 := by rw [hM2]; exact SK_tr (SK_tr SK_I SK_I) (SK_tr SK_I SK_I)
      have hK := SK_tr hK0 hK2
      have f1 : ∀ c, c ≠ 154 → c ≠ 196 → c ≠ 197 → c ≠ 198 → mI M2 c = mI M1 c := fun c h1 h2 h3 h4 => by
        rw [hM2, mI_row_ne h4, mI_row_ne h3, mI_row_ne h2, mI_row_ne h1]
      have f : ∀ c, c ≠ 103 → c ≠ 104 → c ≠ 105 → c ≠ 154 → (c < 196 ∨ 198 < c) → mI M2 c = mI M c := fun c h1 h2 h3 h4 h5 => (f1 c h4 (by omega) (by omega) (by omega)).trans (f0 c h1 h2 h3)
      have f2 : ∀ j, j ≠ 2 → mI M2 154 j = mI M 154 j := fun j h1 => by rw [hM2, ← f0 154 (by decide) (by decide) (by decide)]; exact if_neg h1
      have hC0 := CSn_decP s3 (p := p.toNat) (D := D) (w := w) (y := y) (by omega) (by omega) hM0
      have hCS : CSn M2 (decP s p.toNat D w y) kb ra ca := CSn_CG (CG_r (SK_tr hK1 hK2) (fun c hc => by rw [f1 c (by omega) (by omega) (by omega) (by omega), i10])) hC0
      have hMS : MSn M2 (decP s p.toNat D w y) := MSn_decP hM1 (by omega) hM2
      have hy : -50 ≤ y ∧ y ≤ 50 := by
        have h := hc.2.2
        by_cases h3 : w = 3
        · rw [if_pos h3] at h; exact h
        · rw [if_neg h3] at h; omega
      have hI2 : Inv M2 := by
        refine ⟨SK_S hK hS, D, J, P, Dg, ?_, ?_, ?_, ?_, decP s p.toNat D w y, kb, ra, ca, Sok_decP s1 (by omega) (by omega) (by omega) hc.2.1 hy, s2, hCS, hMS, s5, s6⟩
        · exact IvC_f (fun j _ => by rw [f 61 (by decide) (by decide) (by decide) (by decide) (by decide)]) (fun j h1 h2 => f2 j (by omega)) hC
        · exact IvD_f (by rw [f 62 (by decide) (by decide) (by decide) (by decide) (by decide)]) (f2 6 (by decide)) (fun c hc => f c (by omega) (by omega) (by omega) (by omega) (by omega)) (fun c hc => hK.2.2.2 c (by omega)) hD
        · exact IvT_f (by rw [f 91 (by decide) (by decide) (by decide) (by decide) (by decide)]) (by rw [f 91 (by decide) (by decide) (by decide) (by decide) (by decide)]) (f2 12 (by decide)) (f2 22 (by decide)) (fun c hc => f c (by omega) (by omega) (by omega) (by omega) (by omega)) hT
        · exact IvL_f (fun j _ => by rw [f 146 (by decide) (by decide) (by decide) (by decide) (by decide)]) (fun j hj => f2 j (by omega)) (fun c hc => f c (by omega) (by omega) (by omega) (by omega) (by omega)) hL
      refine ⟨hI2.1, by rw [hM2]; first | done | rfl, fun _ => ?_, hI2⟩
      rw [show mJ M2 221 = mJ M1 221 from by rw [hM2]; rfl, an221 hM, hv2, hv]
    · (try dsimp only at h); rw [if_neg hc] at h
      obtain ⟨hv, hM0⟩ := h
      have hF : RF M M1 := by rw [hM, hM0]; exact RF_221
      refine ⟨RF_S hF hS, Or.inl rfl, Ev_post (E2 M1 (RF_S hF hS) (by rw [hM, hM0]; rfl) (by rw [hM, hM0]; rfl)) (fun r2 M2 ⟨v2, hr2, h2⟩ => ⟨v2, hr2, ?_⟩) (fun _ _ h => h)⟩
      (try dsimp only at h2); rw [if_neg (fun h => h hz), if_neg hc] at h2
      obtain ⟨hv2, hM2⟩ := h2
      have hI2 : Inv M2 := Inv_RF (M := M1) (by rw [hM2]; exact RF_2) (Inv_RF hF hI)
      refine ⟨hI2.1, by rw [hM2]; exact m2_2, fun _ => ?_, hI2⟩
      rw [show mJ M2 221 = mJ M1 221 from by rw [hM2]; rfl, an221 hM, hv2, hv]
  · subst h3
    refine ⟨hS, Or.inr (Or.inl rfl), Ev_post (E2 M1 hS rfl rfl) (fun r2 M2 ⟨v2, hr2, h2⟩ => ⟨v2, hr2, ?_⟩) (fun _ _ h => h)⟩
    (try dsimp only at h2); rw [if_pos h1] at h2
    obtain ⟨hv2, hM2⟩ := h2
    have hI2 : Inv M2 := Inv_RF (M := M1) (by rw [hM2]; exact RF_2) hI
    exact ⟨hI2.1, by rw [hM2]; exact m2_2, fun h => absurd h (by decide), hI2⟩
  · cases h2
end

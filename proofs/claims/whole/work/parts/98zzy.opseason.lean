/-! trial, run, protest, decide (8, 9, 13, 14). -/
section
variable {G : GE} {d : Nat} {M M' : Mem} {D J P Dg J' Dg' : Nat}
/-- a step of the reference: the class's cells stay -/
theorem CG_r (hK : SK M M') (f : ∀ c, (c < 154 ∨ 221 < c) → mI M' c = mI M c) : CG M M' := by
  obtain ⟨a, b, c, e⟩ := hK
  exact ⟨by rw [b]; exact Nat.le_refl _, fun _ _ => by rw [a], fun _ _ => by rw [c], fun x h1 _ => ⟨e x (by omega), f x (by omega)⟩, by rw [f 61 (by omega)], fun j _ => by rw [f 97 (by omega)], fun x hx => f x (by omega)⟩
/-- a step of the class: the reference's cells stay -/
theorem GJ_c (f : ∀ c, 154 ≤ c → c ≤ 221 → mI M' c = mI M c) : GJ M M' := ⟨fun j _ => by rw [f 154 (by omega) (by omega)], fun c h1 h2 _ _ => f c (by omega) (by omega)⟩
theorem op8_ (hst : (gl G).stackTraces = false) : op8 G d Inv := fun M hI x1 x2 x3 => by
  obtain ⟨r, m1, n1, rfl⟩ := i32 x1
  obtain ⟨y, m2, n2, rfl⟩ := i32 x2
  obtain ⟨j, m3, n3, rfl⟩ := i32 x3
  obtain ⟨hS, D, J, P, Dg, hC, hD, hT, hL, s, kb, ra, ca, s1, s2, s3, s4, s5, s6⟩ := id hI
  have b6 := s1.1.1
  have t20 := s1.2.1.1
  have hbk : 0 ≤ r ∧ r < nBk s → mP M 94 r.toNat = some (kb r.toNat) ∧ oB M (kb r.toNat) 6 := fun h => by
    obtain ⟨h1, N, sz, h2, _⟩ := s3.1.2 r.toNat (by omega)
    obtain ⟨k1, k2, k3, _⟩ := h2
    exact ⟨h1, by omega, by omega, k3⟩
  have e0 := c163 (G := G) (d := d + 57) (M := M) (bk := kb r.toNat) (n := nTl s) (R := nBk s) (J := J) hst hS m1 n1 m2 n2 m3 n3 s3.1.1 (by omega) (by omega) hC.2.1.1 (by omega) (by have := hC.2.1.2.2; omega) s3.2.1.1 t20 hbk
  have e1 := c238 (G := G) (d := d + 58) hst hS e0 (fun v M' h => by
    have h := h.2
    by_cases hc : nTl s < 20 ∧ 0 ≤ y ∧ y ≤ 999
    · rw [if_pos hc] at h; rw [h.2]; exact St_rowP sp98 hS
    · rw [if_neg hc] at h; rw [h.2]; exact hS) (fun e M' h => h.2.1)
  refine ⟨12, by decide, Ev_post e1 (fun r0 M1 ⟨c, hr, hq⟩ => ⟨c, hr, ?_⟩) (fun _ _ h => h)⟩
  have E2 : ∀ M1, Static M1 → mI M1 154 = mI M 154 → Ev G (d + 60) 58 [aR (some 154), aI (iZ r), aI (iZ y), aI (iZ j)] M1 0 _ nX := fun M1 S1 f1 => c58 (G := G) (d := d + 58) (M := M1) (r := r) (y := y) (j := j) (R := nBk s) (J := J) (n := nTl s) hst S1 m1 n1 m2 n2 m3 n3 (by rw [f1]; exact s4.1.1) (by omega) (by omega) (by rw [f1]; exact hC.2.1.2.1) (by omega) (by have := hC.2.1.2.2; omega) (by rw [f1]; exact s4.2.1.1) t20
  rcases hq with ⟨rfl, v, M0, ⟨hz, h⟩, hM⟩ | ⟨rfl, h1, _, h3⟩ | ⟨_, _, h2, _⟩
  · by_cases hc : nTl s < 20 ∧ 0 ≤ y ∧ y ≤ 999
    · (try dsimp only at h); rw [if_pos hc] at h
      obtain ⟨hv, hM0⟩ := h
      have S1 : Static M1 := by rw [hM, hM0]; exact St_rowP sp98 hS
      refine ⟨S1, Or.inl rfl, Ev_post (E2 M1 S1 (by rw [hM, hM0]; rfl)) (fun r2 M2 ⟨v2, hr2, h2⟩ => ⟨v2, hr2, ?_⟩) (fun _ _ h => h)⟩
      (try dsimp only at h2); rw [if_neg (fun h => h hz), if_pos hc] at h2
      obtain ⟨hv2, hM2⟩ := h2
      obtain ⟨r, rfl⟩ : ∃ a : Nat, r = a := ⟨r.toNat, by omega⟩
      obtain ⟨j, rfl⟩ : ∃ a : Nat, j = a := ⟨j.toNat, by omega⟩
      rw [Int.toNat_natCast] at hM0
      have hK1 : SK M0 M1 := by rw [hM]; exact SK_221
      have hK2 : SK M1 M2 := by rw [hM2]; exact SK_tr (SK_tr SK_I SK_I) (SK_tr SK_I SK_I)
      have i10 : ∀ c, mI M1 c = mI M0 c := fun c => by rw [hM]; rfl
      have f0 : ∀ c, c ≠ 97 → c ≠ 99 → c ≠ 100 → mI M1 c = mI M c := fun c h1 h2 h3 => by
        rw [i10, hM0, mI_row_ne h3, mI_row_ne h2, mI_row_ne h1]; rfl
      have f1 : ∀ c, c ≠ 154 → c ≠ 179 → c ≠ 180 → c ≠ 181 → mI M2 c = mI M1 c := fun c h1 h2 h3 h4 => by
        rw [hM2, mI_row_ne h4, mI_row_ne h3, mI_row_ne h2, mI_row_ne h1]
      have f : ∀ c, c ≠ 97 → c ≠ 99 → c ≠ 100 → c ≠ 154 → c ≠ 179 → c ≠ 180 → c ≠ 181 → mI M2 c = mI M c := fun c h1 h2 h3 h4 h5 h6 h7 => (f1 c h4 h5 h6 h7).trans (f0 c h1 h2 h3)
      have f2 : ∀ j, j ≠ 2 → j ≠ 42 → mI M2 154 j = mI M 154 j := fun j h1 h2 => by rw [hM2, ← f0 154 (by decide) (by decide) (by decide)]; exact (if_neg h2).trans (if_neg h1)
      have hC0 := CSn_addT s1 s3 (r := r) (y := y) (j := j) (by omega) hM0
      have hCS : CSn M2 (addT s r y j) kb ra ca := CSn_CG (CG_r (SK_tr hK1 hK2) (fun c hc => by rw [f1 c (by omega) (by omega) (by omega) (by omega), i10])) hC0
      have hM1 : MSn M1 s := MSn_GJ (GJ_c (fun c h1 h2 => f0 c (by omega) (by omega) (by omega))) s4
      have hMS : MSn M2 (addT s r y j) := MSn_addT hM1 hM2
      have hJ2 : ∀ c, (c < 215 ∨ 221 < c) → mJ M2 c = mJ M c := fun c hc => by rw [hK2.2.2.2 c hc, hK1.2.2.2 c hc, hM0]; rfl
      have j6 := hC.2.1.2.2
      have S2 : Static M2 := SK_S hK2 S1
      refine okI_ ⟨S2, D, J, P, Dg, ?_, ?_, ?_, ?_, addT s r y j, kb, ra, ca, Sok_addT s1 hc.1 (by omega) hc.2.1 hc.2.2 (by omega), s2, hCS, hMS, s5, fun i hi => ?_⟩ (by rw [hM2]; first | done | rfl) (fun _ => ⟨hM, by rw [hv2, hv], by rw [hM2]; rfl⟩)
      · exact IvC_f (fun j _ => by rw [f 61 (by decide) (by decide) (by decide) (by decide) (by decide) (by decide) (by decide)]) (fun j h1 h2 => f2 j (by omega) (by omega)) hC
      · exact IvD_f (by rw [f 62 (by decide) (by decide) (by decide) (by decide) (by decide) (by decide) (by decide)]) (f2 6 (by decide) (by decide)) (fun c hc => f c (by omega) (by omega) (by omega) (by omega) (by omega) (by omega) (by omega)) (fun c hc => hJ2 c (by omega)) hD
      · exact IvT_f (by rw [f 91 (by decide) (by decide) (by decide) (by decide) (by decide) (by decide) (by decide)]) (by rw [f 91 (by decide) (by decide) (by decide) (by decide) (by decide) (by decide) (by decide)]) (f2 12 (by decide) (by decide)) (f2 22 (by decide) (by decide)) (fun c hc => f c (by omega) (by omega) (by omega) (by omega) (by omega) (by omega) (by omega)) hT
      · exact IvL_f (fun j _ => by rw [f 146 (by decide) (by decide) (by decide) (by decide) (by decide) (by decide) (by decide)]) (fun j hj => f2 j (by omega) (by omega)) (fun c hc => f c (by omega) (by omega) (by omega) (by omega) (by omega) (by omega) (by omega)) hL
      · have hi : i < nTl s + 1 := hi
        by_cases hi' : i = nTl s
        · rw [hi', addT_eq]; show j < J; omega
        · rw [addT_lt (by omega)]; exact s6 i (by omega)
    · (try dsimp only at h); rw [if_neg hc] at h
      obtain ⟨hv, hM0⟩ := h
      have hF : RF M M1 := by rw [hM, hM0]; exact RF_221
      refine ⟨RF_S hF hS, Or.inl rfl, Ev_post (E2 M1 (RF_S hF hS) (by rw [hM, hM0]; rfl)) (fun r2 M2 ⟨v2, hr2, h2⟩ => ⟨v2, hr2, ?_⟩) (fun _ _ h => h)⟩
      (try dsimp only at h2); rw [if_neg (fun h => h hz), if_neg hc] at h2
      obtain ⟨hv2, hM2⟩ := h2
      exact okI_ (Inv_RF (M := M1) (by rw [hM2]; exact RF_2) (Inv_RF hF hI)) (by rw [hM2]; exact m2_2) (fun _ => ⟨hM, by rw [hv2, hv], by rw [hM2]; rfl⟩)
  · subst h3
    refine ⟨hS, Or.inr (Or.inl rfl), Ev_post (E2 M1 hS rfl) (fun r2 M2 ⟨v2, hr2, h2⟩ => ⟨v2, hr2, ?_⟩) (fun _ _ h => h)⟩
    (try dsimp only at h2); rw [if_pos h1] at h2
    obtain ⟨hv2, hM2⟩ := h2
    exact okI_ (v1 := v2) (M0 := M1) (M1 := M1) (Inv_RF (M := M1) (by rw [hM2]; exact RF_2) hI) (by rw [hM2]; exact m2_2) (fun h => absurd h (by decide))
  · cases h2
theorem op9_ (hst : (gl G).stackTraces = false) : op9 G d Inv := fun M hI x1 x2 x3 x4 x5 => by
  obtain ⟨t, m1, n1, rfl⟩ := i32 x1
  obtain ⟨g, m2, n2, rfl⟩ := i32 x2
  obtain ⟨k, m3, n3, rfl⟩ := i32 x3
  obtain ⟨o, m4, n4, rfl⟩ := i32 x4
  obtain ⟨w, m5, n5, rfl⟩ := i32 x5
  obtain ⟨hS, D, J, P, Dg, hC, hD, hT, hL, s, kb, ra, ca, s1, s2, s3, s4, s5, s6⟩ := id hI
  have t20 := s1.2.1.1
  have n120 := s1.2.2.1.1
  have d24 := hD.1.2.2
  have p12 := hC.2.2.2.2
  have e0 := c166 (G := G) (d := d + 56) (M := M) (t := t) (g := g) (k := k) (o := o) (w := w) (T := nTl s) (D := Dg) (P := P) (n := nRn s) hst hS m1 n1 m2 n2 m3 n3 m4 n4 m5 n5 s3.2.1.1 (by omega) (by omega) hD.1.1 (by omega) (by omega) hC.2.2.1 (by omega) (by omega) s3.2.2.1.1 n120
  have e1 := c239 (G := G) (d := d + 58) hst hS e0 (fun v M' h => by
    have h := h.2
    by_cases hc : nRn s < 120 ∧ (0 ≤ o ∧ o < 24) ∧ 0 ≤ w ∧ w < 10
    · rw [if_pos hc] at h; rw [h.2]; exact St_rowP sp101 (St_new hS)
    · rw [if_neg hc] at h; rw [h.2]; exact hS) (fun e M' h => h.2.1)
  refine ⟨24, by decide, Ev_post e1 (fun r0 M1 ⟨c, hr, hq⟩ => ⟨c, hr, ?_⟩) (fun _ _ h => h)⟩
  have E2 : ∀ M1, Static M1 → mI M1 154 = mI M 154 → Ev G (d + 60) 59 [aR (some 154), aI (iZ t), aI (iZ g), aI (iZ k), aI (iZ o), aI (iZ w)] M1 0 _ nX := fun M1 S1 f1 => c59 (G := G) (d := d + 58) (M := M1) (t := t) (g := g) (k := k) (o := o) (w := w) (T := nTl s) (D := Dg) (P := P) (n := nRn s) hst S1 m1 n1 m2 n2 m3 n3 m4 n4 m5 n5 (by rw [f1]; exact s4.2.1.1) (by omega) (by omega) (by rw [f1]; exact hD.1.2.1) (by omega) (by omega) (by rw [f1]; exact hC.2.2.2.1) (by omega) (by omega) (by rw [f1]; exact s4.2.2.1.1) n120
  rcases hq with ⟨rfl, v, M0, ⟨hz, h⟩, hM⟩ | ⟨rfl, h1, _, h3⟩ | ⟨_, _, h2, _⟩
  · by_cases hc : nRn s < 120 ∧ (0 ≤ o ∧ o < 24) ∧ 0 ≤ w ∧ w < 10
    · (try dsimp only at h); rw [if_pos hc] at h
      obtain ⟨hv, hM0⟩ := h
      have S1 : Static M1 := by rw [hM, hM0]; exact St_rowP sp101 (St_new hS)
      have hN := hS.1
      have e154 : mI M1 154 = mI M 154 := by rw [hM, hM0]; exact (mI_row_ne (by omega)).trans (mI_new_ne (M := M) (k := 7) (sz := 5) (by omega))
      refine ⟨S1, Or.inl rfl, Ev_post (E2 M1 S1 e154) (fun r2 M2 ⟨v2, hr2, h2⟩ => ⟨v2, hr2, ?_⟩) (fun _ _ h => h)⟩
      (try dsimp only at h2); rw [if_neg (fun h => h hz), if_pos hc] at h2
      obtain ⟨hv2, hM2⟩ := h2
      obtain ⟨t, rfl⟩ : ∃ a : Nat, t = a := ⟨t.toNat, by omega⟩
      obtain ⟨g, rfl⟩ : ∃ a : Nat, g = a := ⟨g.toNat, by omega⟩
      have hK1 : SK M0 M1 := by rw [hM]; exact SK_221
      have hK2 : SK M1 M2 := by rw [hM2]; exact SK_tr (SK_tr (SK_tr SK_I SK_I) SK_I) (SK_tr SK_I SK_I)
      have i10 : ∀ c, mI M1 c = mI M0 c := fun c => by rw [hM]; rfl
      have f0 : ∀ c, c < 222 → c ≠ 97 → mI M1 c = mI M c := fun c h1 h2 => by
        rw [i10, hM0, mI_row_ne (by omega), mI_row_ne h2]; exact mI_new_ne (M := M) (k := 7) (sz := 5) (by omega)
      have f1 : ∀ c, c ≠ 154 → c ≠ 182 → c ≠ 183 → c ≠ 184 → c ≠ 185 → mI M2 c = mI M1 c := fun c h1 h2 h3 h4 h5 => by
        rw [hM2, mI_row_ne h5, mI_row_ne h4, mI_row_ne h3, mI_row_ne h2, mI_row_ne h1]
      have f : ∀ c, c < 222 → c ≠ 97 → c ≠ 154 → c ≠ 182 → c ≠ 183 → c ≠ 184 → c ≠ 185 → mI M2 c = mI M c := fun c h0 h1 h2 h3 h4 h5 h6 => (f1 c h2 h3 h4 h5 h6).trans (f0 c h0 h1)
      have f2 : ∀ j, j ≠ 2 → j ≠ 43 → mI M2 154 j = mI M 154 j := fun j h1 h2 => by rw [hM2, ← e154]; exact (if_neg h2).trans (if_neg h1)
      have hC0 := CSn_addR hN s1 s3 (t := t) (g := g) (o := o) (w := w) hM0
      have hCS : CSn M2 (addR s t g o w) kb (fu ra (nRn s) (mN M)) ca := CSn_CG (CG_r (SK_tr hK1 hK2) (fun c hc => by rw [f1 c (by omega) (by omega) (by omega) (by omega) (by omega), i10])) hC0
      have hM1 : MSn M1 s := MSn_GJ (GJ_c (fun c h1 h2 => f0 c (by omega) (by omega))) s4
      have hMS : MSn M2 (addR s t g o w) := MSn_addR hM1 hM2
      have hJ2 : ∀ c, c < 215 → mJ M2 c = mJ M c := fun c hc => by rw [hK2.2.2.2 c (by omega), hK1.2.2.2 c (by omega), hM0]; exact mJ_new_ne (M := M) (k := 7) (sz := 5) (by omega)
      have S2 : Static M2 := SK_S hK2 S1
      refine okI_ ⟨S2, D, J, P, Dg, ?_, ?_, ?_, ?_, addR s t g o w, kb, fu ra (nRn s) (mN M), ca, Sok_addR s1 hc.1 (by omega) (by omega) hc.2.1 hc.2.2, s2, hCS, hMS, fun i hi => ?_, s6⟩ (by rw [hM2]; first | done | rfl) (fun _ => ⟨hM, by rw [hv2, hv], by rw [hM2]; rfl⟩)
      · exact IvC_f (fun j _ => by rw [f 61 (by decide) (by decide) (by decide) (by decide) (by decide) (by decide) (by decide)]) (fun j h1 h2 => f2 j (by omega) (by omega)) hC
      · exact IvD_f (by rw [f 62 (by decide) (by decide) (by decide) (by decide) (by decide) (by decide) (by decide)]) (f2 6 (by decide) (by decide)) (fun c hc => f c (by omega) (by omega) (by omega) (by omega) (by omega) (by omega) (by omega)) (fun c hc => hJ2 c (by omega)) hD
      · exact IvT_f (by rw [f 91 (by decide) (by decide) (by decide) (by decide) (by decide) (by decide) (by decide)]) (by rw [f 91 (by decide) (by decide) (by decide) (by decide) (by decide) (by decide) (by decide)]) (f2 12 (by decide) (by decide)) (f2 22 (by decide) (by decide)) (fun c hc => f c (by omega) (by omega) (by omega) (by omega) (by omega) (by omega) (by omega)) hT
      · exact IvL_f (fun j _ => by rw [f 146 (by decide) (by decide) (by decide) (by decide) (by decide) (by decide) (by decide)]) (fun j hj => f2 j (by omega) (by omega)) (fun c hc => f c (by omega) (by omega) (by omega) (by omega) (by omega) (by omega) (by omega)) hL
      · have hi : i < nRn s + 1 := hi
        show (eRn (addR s t g o w) i).2.1 < Dg
        by_cases hi' : i = nRn s
        · rw [hi', addR_eq]; show g < Dg; omega
        · rw [addR_lt (by omega)]; exact s5 i (by omega)
    · (try dsimp only at h); rw [if_neg hc] at h
      obtain ⟨hv, hM0⟩ := h
      have hF : RF M M1 := by rw [hM, hM0]; exact RF_221
      refine ⟨RF_S hF hS, Or.inl rfl, Ev_post (E2 M1 (RF_S hF hS) (by rw [hM, hM0]; rfl)) (fun r2 M2 ⟨v2, hr2, h2⟩ => ⟨v2, hr2, ?_⟩) (fun _ _ h => h)⟩
      (try dsimp only at h2); rw [if_neg (fun h => h hz), if_neg hc] at h2
      obtain ⟨hv2, hM2⟩ := h2
      exact okI_ (Inv_RF (M := M1) (by rw [hM2]; exact RF_2) (Inv_RF hF hI)) (by rw [hM2]; exact m2_2) (fun _ => ⟨hM, by rw [hv2, hv], by rw [hM2]; rfl⟩)
  · subst h3
    refine ⟨hS, Or.inr (Or.inl rfl), Ev_post (E2 M1 hS rfl) (fun r2 M2 ⟨v2, hr2, h2⟩ => ⟨v2, hr2, ?_⟩) (fun _ _ h => h)⟩
    (try dsimp only at h2); rw [if_pos h1] at h2
    obtain ⟨hv2, hM2⟩ := h2
    exact okI_ (v1 := v2) (M0 := M1) (M1 := M1) (Inv_RF (M := M1) (by rw [hM2]; exact RF_2) hI) (by rw [hM2]; exact m2_2) (fun h => absurd h (by decide))
  · cases h2
end

/-! card, rules (10, 5). -/
section
variable {G : GE} {d : Nat} {M M1 M2 M' : Mem} {D J P Dg J' Dg' m : Nat}
theorem Hk_SK (h : Hk M M' m) : SK M M' := ⟨h.1, h.2.1, h.2.2.1, fun c _ => by rw [h.2.2.2.1]⟩
theorem HB_SK (h : HB M M' m) : SK M M' := ⟨h.1, h.2.1, h.2.2.1, fun c _ => by rw [h.2.2.2.1]⟩
/-- after a text is read: the tape is empty on both sides -/
theorem IvT_0 (T1 : mI M 91 0 = iZ 0) (T2 : mI M 154 12 = iZ 0) (T3 : mI M 91 3 = mI M 154 22) : IvT M := ⟨⟨0, fun _ => 0, T1, T2, by decide, fun j hj => absurd hj (by omega)⟩, T3⟩
theorem Inv_txt (S2 : Static M2) (hC : IvC M D J P) (hD : IvD M Dg) (hL : IvL M) (F : ∀ c, c < 222 → c ≠ 61 → c ≠ 91 → c ≠ 95 → c ≠ 96 → c ≠ 97 → mI M1 c = mI M c) (F61 : ∀ j, j ≠ 6 → mI M1 61 j = mI M 61 j) (FJ : ∀ c, (67 ≤ c ∧ c ≤ 90) ∨ c = 160 → mJ M1 c = mJ M c) (hK : SK M1 M2) (H : ∀ c, c ≠ 154 → (c < 162 ∨ 194 < c) → mI M2 c = mI M1 c) (H4 : ∀ j, ((j < 12 ∧ j ≠ 2) ∨ 44 < j) → mI M2 154 j = mI M1 154 j) (T1 : mI M2 91 0 = iZ 0) (T2 : mI M2 154 12 = iZ 0) (T3 : mI M2 91 3 = mI M2 154 22) (hV : IvS M2 Dg J) : Inv M2 := by
  have f : ∀ c, c < 222 → c ≠ 61 → c ≠ 91 → c ≠ 95 → c ≠ 96 → c ≠ 97 → c ≠ 154 → (c < 162 ∨ 194 < c) → mI M2 c = mI M c := fun c h0 h1 h2 h3 h4 h5 h6 h7 => (H c h6 h7).trans (F c h0 h1 h2 h3 h4 h5)
  have f2 : ∀ j, ((j < 12 ∧ j ≠ 2) ∨ 44 < j) → mI M2 154 j = mI M 154 j := fun j hj => (H4 j hj).trans (by rw [F 154 (by decide) (by decide) (by decide) (by decide) (by decide) (by decide)])
  refine ⟨S2, D, J, P, Dg, ?_, ?_, IvT_0 T1 T2 T3, ?_, hV⟩
  · exact IvC_f (fun j hj => by rw [H 61 (by decide) (by decide), F61 j (by omega)]) (fun j h1 h2 => f2 j (by omega)) hC
  · exact IvD_f (by rw [f 62 (by decide) (by decide) (by decide) (by decide) (by decide) (by decide) (by decide) (by decide)]) (f2 6 (by decide)) (fun c hc => f c (by omega) (by omega) (by omega) (by omega) (by omega) (by omega) (by omega) (by omega)) (fun c hc => (hK.2.2.2 c (by omega)).trans (FJ c hc)) hD
  · exact IvL_f (fun j _ => by rw [f 146 (by decide) (by decide) (by decide) (by decide) (by decide) (by decide) (by decide) (by decide)]) (fun j hj => f2 j (by omega)) (fun c hc => f c (by omega) (by omega) (by omega) (by omega) (by omega) (by omega) (by omega) (by omega)) hL
theorem Hk_H (h : Hk M M' m) : (∀ c, c ≠ 154 → (c < 162 ∨ 194 < c) → mI M' c = mI M c) ∧ ∀ j, ((j < 12 ∧ j ≠ 2) ∨ 44 < j) → mI M' 154 j = mI M 154 j := ⟨fun c h1 h2 => h.2.2.2.2.1 c h1 (by omega), fun j hj => h.2.2.2.2.2.1 j (by omega) (by omega) (by omega) (by omega)⟩
theorem HB_H (h : HB M M' m) : (∀ c, c ≠ 154 → (c < 162 ∨ 194 < c) → mI M' c = mI M c) ∧ ∀ j, ((j < 12 ∧ j ≠ 2) ∨ 44 < j) → mI M' 154 j = mI M 154 j := ⟨fun c h1 h2 => h.2.2.2.2.1 c h1 (by omega), fun j hj => h.2.2.2.2.2.1 j (by omega)⟩
theorem op10_ (hst : (gl G).stackTraces = false) : op10 G d Inv := fun M hI x1 x2 => by
  obtain ⟨z, m1, n1, rfl⟩ := i32 x1
  obtain ⟨y, m2, n2, rfl⟩ := i32 x2
  obtain ⟨hS, D, J, P, Dg, hC, hD, ⟨⟨T, B, t1, t2, t3, t4⟩, t5⟩, hL, s, kb, ra, ca, s1, s2, s3, s4, s5, s6⟩ := id hI
  have n120 := s1.2.2.1.1
  have n200 := s1.2.2.2.1.1
  obtain ⟨a1, a2, a3⟩ := hC.1
  have e0 := c184 (G := G) (d := d + 46) (M := M) (s := s) (kb := kb) (ra := ra) (ca := ca) (z := z) (y := y) (T := T) (B := B) (D := D) hst hS s1 s3 s2 m1 n1 m2 n2 t1 t3 (fun j hj => ⟨(t4 j hj).1, (t4 j hj).2.1, (t4 j hj).2.2.1⟩) a1 (by omega) (by omega)
  have e1 := c240 (G := G) (d := d + 58) hst hS e0 (fun v M' h => by
    rcases h.2.2 with ⟨_, _, h⟩ | ⟨_, h, _⟩
    · rw [h]; exact hS
    · exact h.1) (fun e M' h => by rcases h.2 with ⟨_, h⟩ | ⟨_, _, h⟩ <;> omega)
  refine ⟨71, by decide, Ev_post e1 (fun r M1 ⟨c, hr, hq⟩ => ⟨c, hr, ?_⟩) (fun _ _ h => h)⟩
  obtain ⟨tr, rr, sz, hq4⟩ : ∃ tr rr sz : Nat, ∀ M1, MSn M1 s → 0 ≤ z → z < nRn s → mI M1 182 z.toNat = iZ tr ∧ tr < 20 ∧ mI M1 179 tr = iZ rr ∧ rr < 6 ∧ ∃ sz, MC M1 rr sz (uBk s z.toNat) := by
    by_cases h : 0 ≤ z ∧ z < nRn s
    · obtain ⟨o1, _⟩ := s1.2.2.1.2 z.toNat (by omega)
      have o2 := (s1.2.1.2 _ o1).1
      have b6 := s1.1.1
      have t20 := s1.2.1.1
      refine ⟨uTr s z.toNat, uRl s z.toNat, 0, fun M1 hM _ _ => ⟨(hM.2.2.1.2 _ (by omega)).1, Nat.lt_of_lt_of_le o1 t20, (hM.2.1.2 _ o1).1, Nat.lt_of_lt_of_le o2 b6, ?_⟩⟩
      obtain ⟨sz, _, h⟩ := hM.1.2 _ o2
      exact ⟨sz, h⟩
    · exact ⟨0, 0, 0, fun _ _ h1 h2 => absurd ⟨h1, h2⟩ h⟩
  have E2 : ∀ M1, Static M1 → MSn M1 s → mI M1 154 = mI M 154 → mI M1 161 = mI M 161 → Ev G (d + 60) 63 [aR (some 154), aI (iZ z), aI (iZ y)] M1 0 (rI fun v M' =>
      if ¬ (0 ≤ z ∧ z < nRn s) then v = iZ 0 ∧ M' = setI (setI M1 154 2 (iZ 0)) 154 2 (iZ 1)
      else if ¬ (0 ≤ y ∧ y ≤ T) then v = iZ 0 ∧ M' = setI (setI M1 154 2 (iZ 0)) 154 2 (iZ 2)
      else if nCd s = 200 then Hk M1 M' (nCd s) ∧ v = iZ 9 ∧ mI M' 154 2 = iZ 0 ∧ mI M' 154 12 = iZ 0 ∧ mI M' 154 22 = iZ (-1) ∧ mI M' 154 44 = iZ (nCd s)
      else QK M1 (nCd s) z.toNat D (kCard B y.toNat (uBk s z.toNat)) v M') nX := fun M1 S1 hM f1 f2 => by
    obtain ⟨sz, hsz⟩ : ∃ sz, 0 ≤ z → z < nRn s → mI M1 182 z.toNat = iZ tr ∧ tr < 20 ∧ mI M1 179 tr = iZ rr ∧ rr < 6 ∧ MC M1 rr sz (uBk s z.toNat) := by
      by_cases h : 0 ≤ z ∧ z < nRn s
      · obtain ⟨q1, q2, q3, q4, sz, q5⟩ := hq4 M1 hM h.1 h.2
        exact ⟨sz, fun _ _ => ⟨q1, q2, q3, q4, q5⟩⟩
      · exact ⟨0, fun h1 h2 => absurd ⟨h1, h2⟩ h⟩
    exact c63 (G := G) (d := d + 48) (M := M1) (U := z) (z := y) (RR := nRn s) (T := T) (m := nCd s) (D := D) (B := B) hst S1 m1 n1 m2 n2 (by rw [f1]; exact s4.2.2.1.1) (by omega) (by omega) (by rw [f1]; exact s4.2.2.2.1.1) n200 (by rw [f1]; exact a2) (by rw [f1]; exact t2) t3 (fun j hj => ⟨(t4 j hj).1, by rw [f2]; exact (t4 j hj).2.2.2⟩) hsz
  rcases hq with ⟨rfl, v, M0, ⟨hz, hy, h⟩, hM⟩ | ⟨rfl, h0, h1⟩ | ⟨rfl, h0, h1⟩
  · have i10 : ∀ c, mI M1 c = mI M0 c := fun c => by rw [hM]; rfl
    have hK1 : SK M0 M1 := by rw [hM]; exact SK_221
    rcases h with ⟨hn, hv, hM0⟩ | ⟨hn, hQ⟩
    · have S1 : Static M1 := by rw [hM, hM0]; exact hS
      have f0 : ∀ c, c ≠ 91 → mI M1 c = mI M c := fun c hc => by rw [i10, hM0]; exact mI_row_ne hc
      have hK0 : SK M M1 := by rw [hM, hM0]; exact SK_tr SK_I SK_221
      have hM1 : MSn M1 s := MSn_GJ (GJ_c (fun c h1 h2 => f0 c (by omega))) s4
      refine ⟨S1, Or.inl rfl, Ev_post (E2 M1 S1 hM1 (f0 154 (by decide)) (f0 161 (by decide))) (fun r2 M2 ⟨v2, hr2, h2⟩ => ⟨v2, hr2, ?_⟩) (fun _ _ h => h)⟩
      (try dsimp only at h2); rw [if_neg (fun h => h hz), if_neg (fun h => h hy), if_pos (by omega)] at h2
      obtain ⟨hH, hv2, g2, g12, g22, g44⟩ := h2
      have hK2 := Hk_SK hH
      obtain ⟨H1, H2⟩ := Hk_H hH
      have S2 := SK_S hK2 S1
      have hC1 : CSn M1 s kb ra ca := CSn_CG ⟨by rw [hK0.2.1]; exact Nat.le_refl _, fun _ _ => by rw [hK0.1], fun _ _ => by rw [hK0.2.2.1], fun x h1 _ => ⟨hK0.2.2.2 x (by omega), f0 x (by omega)⟩, by rw [f0 61 (by decide)], fun j _ => by rw [f0 97 (by decide)], fun x hx => f0 x (by omega)⟩ s3
      have hC2 : CSn M2 s kb ra ca := CSn_CG (CG_r hK2 (fun c hc => H1 c (by omega) (by omega))) hC1
      have e91 : ∀ j, mI M2 91 j = (fu (fu (fu (mI M 91) 0 (iZ 0)) 2 (iZ 0)) 3 (iZ (-1))) j := fun j => by rw [H1 91 (by decide) (by decide), i10, hM0, mI_row]
      refine okI_ (Inv_txt S2 hC hD hL (fun c _ _ h _ _ _ => f0 c h) (fun j _ => by rw [f0 61 (by decide)]) (fun c hc => hK0.2.2.2 c (by omega)) hK2 H1 H2 (by rw [e91]; rfl) g12 (by rw [e91, g22]; rfl) ⟨s, kb, ra, ca, s1, s2, hC2, MSn_Hk hH g44 hM1, s5, s6⟩) g2 (fun _ => ⟨hM, by rw [hv2, hv], by rw [hH.2.2.2.1]⟩)
    · have hF := hQ.1
      have S1 : Static M1 := by rw [hM]; exact hF.1
      have f0 : ∀ c, c < 222 → c ≠ 91 → c ≠ 95 → c ≠ 96 → c ≠ 97 → mI M1 c = mI M c := fun c h0 h1 h2 h3 h4 => by rw [i10]; exact (hF.2.2 c h0).2.2.2 h1 h2 h3 h4
      have j0 : ∀ c, c < 221 → mJ M1 c = mJ M c := fun c hc => by rw [hM]; exact (mJ_row_ne (by omega)).trans (hF.2.2 c (by omega)).2.1
      have hM1 : MSn M1 s := MSn_GJ (GJ_c (fun c h1 h2 => f0 c (by omega) (by omega) (by omega) (by omega) (by omega))) s4
      refine ⟨S1, Or.inl rfl, Ev_post (E2 M1 S1 hM1 (f0 154 (by decide) (by decide) (by decide) (by decide) (by decide)) (f0 161 (by decide) (by decide) (by decide) (by decide) (by decide))) (fun r2 M2 ⟨v2, hr2, h2⟩ => ⟨v2, hr2, ?_⟩) (fun _ _ h => h)⟩
      (try dsimp only at h2); rw [if_neg (fun h => h hz), if_neg (fun h => h hy), if_neg (by omega)] at h2
      cases hk : kCard B y.toNat (uBk s z.toNat) with
      | inl x =>
        obtain ⟨e, p⟩ := x
        rw [QD_i hk] at hQ
        rw [QK_i hk] at h2
        obtain ⟨_, b0, hv, _, b3, hC0⟩ := hQ
        obtain ⟨hH, g2, g12, hv2, g22, g44⟩ := h2
        have hK2 := Hk_SK hH
        obtain ⟨H1, H2⟩ := Hk_H hH
        have S2 := SK_S hK2 S1
        have hC2 : CSn M2 s kb ra ca := CSn_CG (CG_r (SK_tr hK1 hK2) (fun c hc => (H1 c (by omega) (by omega)).trans (i10 c))) hC0
        exact okI_ (Inv_txt S2 hC hD hL (fun c h0 _ h1 h2 h3 h4 => f0 c h0 h1 h2 h3 h4) (fun j _ => by rw [f0 61 (by decide) (by decide) (by decide) (by decide) (by decide)]) (fun c hc => j0 c (by omega)) hK2 H1 H2 (by rw [H1 91 (by decide) (by decide), i10]; exact b0) g12 (by rw [g22, H1 91 (by decide) (by decide), i10]; exact b3) ⟨s, kb, ra, ca, s1, s2, hC2, MSn_Hk hH g44 hM1, s5, s6⟩) g2 (fun _ => ⟨hM, by rw [hv2, hv], by rw [hH.2.2.2.1]⟩)
      | inr x =>
        obtain ⟨rows, t, re⟩ := x
        rw [QD_r hk] at hQ
        rw [QK_r hk] at h2
        obtain ⟨_, b0, hv, _, b3, hC0⟩ := hQ
        obtain ⟨hH, g2, g12, hv2, g22, g44, gc⟩ := h2
        have hK2 := Hk_SK hH
        obtain ⟨H1, H2⟩ := Hk_H hH
        have S2 := SK_S hK2 S1
        have hC2 : CSn M2 (addC s z.toNat D rows t re) kb ra (fu ca (nCd s) (mN M)) := CSn_CG (CG_r (SK_tr hK1 hK2) (fun c hc => (H1 c (by omega) (by omega)).trans (i10 c))) hC0
        exact okI_ (Inv_txt S2 hC hD hL (fun c h0 _ h1 h2 h3 h4 => f0 c h0 h1 h2 h3 h4) (fun j _ => by rw [f0 61 (by decide) (by decide) (by decide) (by decide) (by decide)]) (fun c hc => j0 c (by omega)) hK2 H1 H2 (by rw [H1 91 (by decide) (by decide), i10]; exact b0) g12 (by rw [g22, H1 91 (by decide) (by decide), i10]; exact b3) ⟨addC s z.toNat D rows t re, kb, ra, fu ca (nCd s) (mN M), Sok_addC s1 hn (by omega) (by omega) (by omega) hk, s2, hC2, MSn_addC hH g44 gc hM1, s5, s6⟩) g2 (fun _ => ⟨hM, by rw [hv2, hv], by rw [hH.2.2.2.1]⟩)
  · subst h0
    have hz : ¬ (0 ≤ z ∧ z < nRn s) := by rcases h1 with ⟨h, _⟩ | ⟨_, _, h⟩; exact h; exact absurd h (by decide)
    refine ⟨hS, Or.inr (Or.inl rfl), Ev_post (E2 M1 hS s4 rfl rfl) (fun r2 M2 ⟨v2, hr2, h2⟩ => ⟨v2, hr2, ?_⟩) (fun _ _ h => h)⟩
    (try dsimp only at h2); rw [if_pos hz] at h2
    obtain ⟨hv2, hM2⟩ := h2
    exact okI_ (v1 := v2) (M0 := M1) (M1 := M1) (Inv_RF (M := M1) (by rw [hM2]; exact RF_22) hI) (by rw [hM2]; exact m2_2) (fun h => absurd h (by decide))
  · subst h0
    obtain ⟨hz, hy⟩ : (0 ≤ z ∧ z < nRn s) ∧ ¬ (0 ≤ y ∧ y ≤ T) := by rcases h1 with ⟨_, h⟩ | ⟨h1, h2, _⟩; exact absurd h (by decide); exact ⟨h1, h2⟩
    refine ⟨hS, Or.inr (Or.inr rfl), Ev_post (E2 M1 hS s4 rfl rfl) (fun r2 M2 ⟨v2, hr2, h2⟩ => ⟨v2, hr2, ?_⟩) (fun _ _ h => h)⟩
    (try dsimp only at h2); rw [if_neg (fun h => h hz), if_pos hy] at h2
    obtain ⟨hv2, hM2⟩ := h2
    exact okI_ (v1 := v2) (M0 := M1) (M1 := M1) (Inv_RF (M := M1) (by rw [hM2]; exact RF_22) hI) (by rw [hM2]; exact m2_2) (fun h => absurd h (by decide))
theorem op5_ (hst : (gl G).stackTraces = false) : op5 G d Inv := fun M hI x1 => by
  obtain ⟨z, m1, n1, rfl⟩ := i32 x1
  obtain ⟨hS, D, J, P, Dg, hC, hD, ⟨⟨T, B, t1, t2, t3, t4⟩, t5⟩, hL, s, kb, ra, ca, s1, s2, s3, s4, s5, s6⟩ := id hI
  have hN := hS.1
  have b6 := s1.1.1
  have e0 := c159 (G := G) (d := d + 5) (M := M) (z := z) (m := nBk s) (T := T) (B := B) hst hS m1 n1 s3.1.1 b6 t1 t3 (fun j hj => ⟨(t4 j hj).1, (t4 j hj).2.1, (t4 j hj).2.2.1⟩)
  have e1 := c236 (G := G) (d := d + 58) hst hS e0 (fun v M' h => by
    rcases h.2 with ⟨_, _, h⟩ | ⟨_, h, _⟩
    · rw [h]; exact hS
    · exact h) (fun e M' h => h.2.1)
  refine ⟨740, by decide, Ev_post e1 (fun r M1 ⟨c, hr, hq⟩ => ⟨c, hr, ?_⟩) (fun _ _ h => h)⟩
  have E2 : ∀ M1, Static M1 → mI M1 154 = mI M 154 → mI M1 161 = mI M 161 → Ev G (d + 60) 55 [aR (some 154), aI (iZ z)] M1 0 _ nX := fun M1 S1 f1 f2 => c55 (G := G) (d := d + 11) (M := M1) (z := z) (m := nBk s) (T := T) (B := B) hst S1 m1 n1 (by rw [f1]; exact s4.1.1) b6 (by rw [f1]; exact t2) t3 (fun j hj => ⟨(t4 j hj).1, by rw [f2]; exact (t4 j hj).2.2.2⟩)
  rcases hq with ⟨rfl, v, M0, ⟨hz, h⟩, hM⟩ | ⟨_, _, h2, _⟩ | ⟨rfl, h1, _, h3⟩
  · have i10 : ∀ c, mI M1 c = mI M0 c := fun c => by rw [hM]; rfl
    have hK1 : SK M0 M1 := by rw [hM]; exact SK_221
    rcases h with ⟨hn, hv, hM0⟩ | ⟨hn, S0, hN', hFr, b0, hQ⟩
    · have S1 : Static M1 := by rw [hM, hM0]; exact hS
      have f0 : ∀ c, c ≠ 91 → mI M1 c = mI M c := fun c hc => by rw [i10, hM0]; exact mI_row_ne hc
      have hK0 : SK M M1 := by rw [hM, hM0]; exact SK_tr SK_I SK_221
      have hM1 : MSn M1 s := MSn_GJ (GJ_c (fun c h1 h2 => f0 c (by omega))) s4
      refine ⟨S1, Or.inl rfl, Ev_post (E2 M1 S1 (f0 154 (by decide)) (f0 161 (by decide))) (fun r2 M2 ⟨v2, hr2, h2⟩ => ⟨v2, hr2, ?_⟩) (fun _ _ h => h)⟩
      (try dsimp only at h2); rw [if_pos hz, if_pos hn] at h2
      obtain ⟨hv2, hH, g2, g12, g22, g24⟩ := h2
      have hK2 := HB_SK hH
      obtain ⟨H1, H2⟩ := HB_H hH
      have S2 := SK_S hK2 S1
      have hC1 : CSn M1 s kb ra ca := CSn_CG ⟨by rw [hK0.2.1]; exact Nat.le_refl _, fun _ _ => by rw [hK0.1], fun _ _ => by rw [hK0.2.2.1], fun x h1 _ => ⟨hK0.2.2.2 x (by omega), f0 x (by omega)⟩, by rw [f0 61 (by decide)], fun j _ => by rw [f0 97 (by decide)], fun x hx => f0 x (by omega)⟩ s3
      have hC2 : CSn M2 s kb ra ca := CSn_CG (CG_r hK2 (fun c hc => H1 c (by omega) (by omega))) hC1
      have e91 : ∀ j, mI M2 91 j = (fu (fu (fu (mI M 91) 0 (iZ 0)) 2 (iZ 0)) 3 (iZ (-1))) j := fun j => by rw [H1 91 (by decide) (by decide), i10, hM0, mI_row]
      exact okI_ (Inv_txt S2 hC hD hL (fun c _ _ h _ _ _ => f0 c h) (fun j _ => by rw [f0 61 (by decide)]) (fun c hc => hK0.2.2.2 c (by omega)) hK2 H1 H2 (by rw [e91]; rfl) g12 (by rw [e91, g22]; rfl) ⟨s, kb, ra, ca, s1, s2, hC2, MSn_HB hH g24 hM1, s5, s6⟩) g2 (fun _ => ⟨hM, by rw [hv2, hv], by rw [hH.2.2.2.1]⟩)
    · have S1 : Static M1 := by rw [hM]; exact S0
      have hF : FR M M0 := ⟨by omega, hFr⟩
      have f0 : ∀ c, c < 222 → c ≠ 61 → c ≠ 91 → mI M1 c = mI M c := fun c h0 h1 h2 => by rw [i10]; exact (hFr c (by omega)).2.2.1 h2 h1
      have j0 : ∀ c, c < 221 → c ≠ 91 → mJ M1 c = mJ M c := fun c hc h1 => by rw [hM]; exact (mJ_row_ne (by omega)).trans ((hFr c (by omega)).2.1 h1)
      have hM1 : MSn M1 s := MSn_GJ (GJ_c (fun c h1 h2 => f0 c (by omega) (by omega) (by omega))) s4
      refine ⟨S1, Or.inl rfl, Ev_post (E2 M1 S1 (f0 154 (by decide) (by decide) (by decide)) (f0 161 (by decide) (by decide) (by decide))) (fun r2 M2 ⟨v2, hr2, h2⟩ => ⟨v2, hr2, ?_⟩) (fun _ _ h => h)⟩
      (try dsimp only at h2); rw [if_pos hz, if_neg (by omega)] at h2
      cases hk : pRules B z.toNat with
      | inl x =>
        obtain ⟨e, p⟩ := x
        rw [hk] at hQ
        rw [QW_i hk] at h2
        obtain ⟨hv, _, b3, h61, h94⟩ := hQ
        obtain ⟨hH, g2, g12, hv2, g22, g24⟩ := h2
        have hK2 := HB_SK hH
        obtain ⟨H1, H2⟩ := HB_H hH
        have S2 := SK_S hK2 S1
        have hC0 := CSn_FR hN hF h61 h94 s3
        have hC2 : CSn M2 s kb ra ca := CSn_CG (CG_r (SK_tr hK1 hK2) (fun c hc => (H1 c (by omega) (by omega)).trans (i10 c))) hC0
        exact okI_ (Inv_txt S2 hC hD hL (fun c h0 h1 h2 _ _ _ => f0 c h0 h1 h2) (fun j _ => by rw [i10, h61]) (fun c hc => j0 c (by omega) (by omega)) hK2 H1 H2 (by rw [H1 91 (by decide) (by decide), i10]; exact b0) g12 (by rw [g22, H1 91 (by decide) (by decide), i10]; exact b3) ⟨s, kb, ra, ca, s1, s2, hC2, MSn_HB hH g24 hM1, s5, s6⟩) g2 (fun _ => ⟨hM, by rw [hv2, hv], by rw [hH.2.2.2.1]⟩)
      | inr x =>
        obtain ⟨e, q⟩ := x
        rw [hk] at hQ
        rw [QW_r hk] at h2
        obtain ⟨hv, _, b3, h61, h94, hBK, sz, z1, hBC⟩ := hQ
        obtain ⟨hH, g2, g12, hv2, g22, g24, hMC⟩ := h2
        have hK2 := HB_SK hH
        obtain ⟨H1, H2⟩ := HB_H hH
        have S2 := SK_S hK2 S1
        have hC0 := CSn_addB hN s1 hF h61 h94 ⟨z.toNat, sz, hBK, hBC, z1, by omega⟩ s3
        have hC2 : CSn M2 (addB s q) (fu kb (nBk s) (mN M)) ra ca := CSn_CG (CG_r (SK_tr hK1 hK2) (fun c hc => (H1 c (by omega) (by omega)).trans (i10 c))) hC0
        exact okI_ (Inv_txt S2 hC hD hL (fun c h0 h1 h2 _ _ _ => f0 c h0 h1 h2) (fun j hj => by rw [i10, h61]; exact if_neg hj) (fun c hc => j0 c (by omega) (by omega)) hK2 H1 H2 (by rw [H1 91 (by decide) (by decide), i10]; exact b0) g12 (by rw [g22, H1 91 (by decide) (by decide), i10]; exact b3) ⟨addB s q, fu kb (nBk s) (mN M), ra, ca, Sok_addB s1 hn (pRules_ok hk), Dj_addB s2 (fun i hi => by obtain ⟨_, N, _, h, _⟩ := s3.1.2 i hi; exact h.2.1), hC2, MSn_addB hH g24 hMC hM1, s5, s6⟩) g2 (fun _ => ⟨hM, by rw [hv2, hv], by rw [hH.2.2.2.1]⟩)
  · cases h2
  · subst h3
    refine ⟨hS, Or.inr (Or.inl rfl), Ev_post (E2 M1 hS rfl rfl) (fun r2 M2 ⟨v2, hr2, h2⟩ => ⟨v2, hr2, ?_⟩) (fun _ _ h => h)⟩
    (try dsimp only at h2); rw [if_neg h1] at h2
    obtain ⟨hv2, hM2⟩ := h2
    exact okI_ (v1 := v2) (M0 := M1) (M1 := M1) (Inv_RF (M := M1) (by rw [hM2]; exact RF_22) hI) (by rw [hM2]; exact m2_2) (fun h => absurd h (by decide))
end

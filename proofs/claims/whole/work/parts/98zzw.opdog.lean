/-! dog, feed (1, 4). -/
section
variable {G : GE} {d : Nat} {M M' : Mem} {D J P Dg J' Dg' n : Nat} {s t : Int}
theorem madd_c (h : mJ M' 160 = mJ M 160) : madd M' s t n = madd M s t n := by
  unfold madd mloop mhalf
  rw [h]
theorem kadd_out {c : Nat} (hn : n < 24) (h : c < 67 ∨ 90 < c) : kadd M s t n c = mJ M c := by
  funext j
  unfold kadd kloop
  rw [if_neg (by omega), if_neg (by omega), if_neg (by omega)]
theorem op1_ (hst : (gl G).stackTraces = false) : op1 G d Inv := fun M hI x1 x2 x3 => by
  obtain ⟨h, m1, n1, rfl⟩ := i32 x1
  obtain ⟨s, m2, n2, rfl⟩ := i32 x2
  obtain ⟨t, m3, n3, rfl⟩ := i32 x3
  obtain ⟨hS, D, J, P, n, hC, ⟨⟨g1, g2, g3⟩, ⟨H, hH⟩, hp, hK⟩, hT, hL, hV⟩ := id hI
  have e1 := c111 (G := G) (d := d + 57) (M := M) (n := n) hst hS m1 n1 m2 n2 m3 n3 g1 g3
  refine ⟨0, by decide, Ev_post e1 (fun r M1 ⟨v, hr, hv⟩ => ⟨v, hr, ?_⟩) (fun _ _ h => h)⟩
  by_cases hc : n < 24 ∧ (0 ≤ h ∧ h < 12) ∧ (s = -1 ∨ 0 ≤ s ∧ s < n) ∧ (t = -1 ∨ 0 ≤ t ∧ t < n)
  · (try dsimp only at hv); rw [if_pos hc] at hv
    obtain ⟨hv, hM⟩ := hv
    have S1 : Static M1 := by rw [hM]; exact hS
    have e2 := c22 (G := G) (d := d + 58) (M := M1) (n := n) hst S1 m1 n1 m2 n2 m3 n3 (by rw [hM]; exact g2) g3
    refine ⟨S1, Ev_post e2 (fun r M2 ⟨v2, hr2, h2⟩ => ⟨v2, hr2, ?_⟩) (fun _ _ h => h)⟩
    (try dsimp only at h2); rw [if_pos hc] at h2
    obtain ⟨hv2, hM2⟩ := h2
    obtain ⟨hn, hh, hs, ht⟩ := hc
    have hJ1 : mJ M1 = kadd M s t n := by rw [hM]; rfl
    have j160 : mJ M1 160 = mJ M 160 := by rw [hJ1]; exact kadd_out hn (by decide)
    have hJ2 : ∀ c, c ≠ 160 → mJ M2 c = kadd M s t n c := fun c hc => by rw [hM2]; exact (mJ_row_ne hc).trans (by rw [hJ1])
    have h160 : mJ M2 160 = madd M s t n := by rw [hM2]; exact mJ_row.trans (madd_c j160)
    have f1 : ∀ c, c ≠ 62 → c ≠ 63 → c ≠ 64 → c ≠ 65 → mI M1 c = mI M c := fun c h1 h2 h3 h4 => by
      rw [hM, mI_row_ne h4, mI_row_ne h3, mI_row_ne h2, mI_row_ne h1]; rfl
    have f : ∀ c, c ≠ 62 → c ≠ 63 → c ≠ 64 → c ≠ 65 → c ≠ 154 → c ≠ 157 → c ≠ 158 → c ≠ 159 → mI M2 c = mI M c := fun c h1 h2 h3 h4 h5 h6 h7 h8 => by
      rw [hM2, mI_row_ne h8, mI_row_ne h7, mI_row_ne h6, mI_row_ne h5]; exact f1 c h1 h2 h3 h4
    have f2 : ∀ j, j ≠ 2 → j ≠ 6 → mI M2 154 j = mI M 154 j := fun j h1 h2 => by rw [hM2, hM]; exact (if_neg h2).trans (if_neg h1)
    have hK' : mK M2 = mK M ∧ mN M2 = mN M ∧ mP M2 = mP M := by rw [hM2, hM]; exact ⟨rfl, rfl, rfl⟩
    have S2 : Static M2 := by
      obtain ⟨a, b, c⟩ := hK'
      exact ⟨by rw [b]; exact hS.1, by rw [a]; exact hS.2.1, by rw [c]; exact hS.2.2⟩
    have e63 : mI M2 63 = fu (mI M 63) n (iZ h) := by rw [hM2, hM]; rfl
    have e64 : mI M2 64 = fu (mI M 64) n (iZ s) := by rw [hM2, hM]; rfl
    have e65 : mI M2 65 = fu (mI M 65) n (iZ t) := by rw [hM2, hM]; rfl
    have e157 : mI M2 157 = fu (mI M 157) n (iZ h) := by rw [hM2, hM]; rfl
    have e158 : mI M2 158 = fu (mI M 158) n (iZ s) := by rw [hM2, hM]; rfl
    have e159 : mI M2 159 = fu (mI M 159) n (iZ t) := by rw [hM2, hM]; rfl
    refine ⟨by rw [hv2, hv], S2, D, J, P, n + 1, ?_, ⟨⟨by rw [hM2, hM]; first | done | rfl, by rw [hM2]; first | done | rfl, by omega⟩, ⟨fu H n h.toNat, fun j hj => ?_⟩, fun i hi => ?_, KN_add hK hn hs ht (fun i hi => hJ2 _ (by omega)) h160⟩, ?_, ?_, ?_⟩
    · exact IvC_f (fun j _ => by rw [f 61 (by decide) (by decide) (by decide) (by decide) (by decide) (by decide) (by decide) (by decide)]) (fun j h1 h2 => f2 j (by omega) (by omega)) hC
    · rw [e63, e157]
      by_cases hj' : j = n
      · subst hj'
        rw [fu0, fu0, fu0]
        exact ⟨by omega, by rw [show ((h.toNat : Nat) : Int) = h from by omega], by rw [show ((h.toNat : Nat) : Int) = h from by omega]⟩
      · rw [fu_ne _ _ hj', fu_ne _ _ hj', fu_ne _ _ hj']; exact hH j hj
    · rw [e64, e65, e158, e159]
      by_cases hi' : i = n
      · subst hi'
        rw [fu0, fu0, fu0, fu0]
        exact ⟨s, t, ⟨hs, ht⟩, ⟨rfl, rfl⟩, rfl, rfl⟩
      · rw [fu_ne _ _ hi', fu_ne _ _ hi', fu_ne _ _ hi', fu_ne _ _ hi']
        exact hp i (by omega)
    · exact IvT_f (by rw [f 91 (by decide) (by decide) (by decide) (by decide) (by decide) (by decide) (by decide) (by decide)]) (by rw [f 91 (by decide) (by decide) (by decide) (by decide) (by decide) (by decide) (by decide) (by decide)]) (f2 12 (by decide) (by decide)) (f2 22 (by decide) (by decide)) (fun c hc => f c (by omega) (by omega) (by omega) (by omega) (by omega) (by omega) (by omega) (by omega)) hT
    · exact IvL_f (fun j _ => by rw [f 146 (by decide) (by decide) (by decide) (by decide) (by decide) (by decide) (by decide) (by decide)]) (fun j hj => f2 j (by omega) (by omega)) (fun c hc => f c (by omega) (by omega) (by omega) (by omega) (by omega) (by omega) (by omega) (by omega)) hL
    · obtain ⟨a, b, c⟩ := hK'
      refine IvS_f ⟨by rw [b]; exact Nat.le_refl _, fun _ _ => by rw [a], fun _ _ => by rw [c], fun x h1 _ => ⟨(hJ2 x (by omega)).trans (kadd_out hn (by omega)), f x (by omega) (by omega) (by omega) (by omega) (by omega) (by omega) (by omega) (by omega)⟩, by rw [f 61 (by decide) (by decide) (by decide) (by decide) (by decide) (by decide) (by decide) (by decide)], fun j _ => by rw [f 97 (by decide) (by decide) (by decide) (by decide) (by decide) (by decide) (by decide) (by decide)], fun x hx => f x (by omega) (by omega) (by omega) (by omega) (by omega) (by omega) (by omega) (by omega)⟩ ⟨fun j hj => f2 j (by omega) (by omega), fun c h1 h2 h3 h4 => f c (by omega) (by omega) (by omega) (by omega) (by omega) (by omega) (by omega) (by omega)⟩ (by omega) (Nat.le_refl _) hV
  · (try dsimp only at hv); rw [if_neg hc] at hv
    obtain ⟨hv, hM⟩ := hv
    subst hM
    have e2 := c22 (G := G) (d := d + 58) (M := M1) (n := n) hst hS m1 n1 m2 n2 m3 n3 g2 g3
    refine ⟨hS, Ev_post e2 (fun r M2 ⟨v2, hr2, h2⟩ => ⟨v2, hr2, ?_⟩) (fun _ _ h => h)⟩
    (try dsimp only at h2); rw [if_neg hc] at h2
    exact ⟨by rw [h2.1, hv], Inv_RF (M := M1) (by rw [h2.2]; exact RF_2) hI⟩
theorem op4_ (hst : (gl G).stackTraces = false) : op4 G d Inv := fun M hI a b c e x => by
  obtain ⟨hS, D, J, P, Dg, hC, hD, ⟨⟨T, B, t1, t2, t3, t4⟩, t5⟩, hL, hV⟩ := id hI
  have e1 := c121 (G := G) (d := d + 53) (M := M) (a := a) (b := b) (c := c) (e := e) (f := x) (n := T) hst hS t1 t3
  refine ⟨0, by decide, Ev_post e1 (fun r M1 ⟨v, hr, hv⟩ => ⟨v, hr, ?_⟩) (fun _ _ h => h)⟩
  rcases hv with ⟨hT, hv, hM⟩ | ⟨hT, hv, hM⟩
  · have S1 : Static M1 := by rw [hM]; exact hS
    have e2 := c25 (G := G) (d := d + 59) (M := M1) (a := a) (b := b) (c := c) (e := e) (f := x) (n := T) hst S1 (by rw [hM]; exact t2) t3
    refine ⟨S1, Ev_post e2 (fun r M2 ⟨v2, hr2, h2⟩ => ⟨v2, hr2, ?_⟩) (fun _ _ h => h)⟩
    rcases h2 with ⟨_, hv2, hM2⟩ | ⟨h2, _⟩
    · have f : ∀ c, c ≠ 91 → c ≠ 92 → c ≠ 93 → c ≠ 154 → c ≠ 161 → mI M2 c = mI M c := fun c h1 h2 h3 h4 h5 => by
        rw [hM2, mI_row_ne h5, mI_row_ne h4, hM, mI_row_ne h3, mI_row_ne h2, mI_row_ne h1]
      have f2 : ∀ j, j ≠ 2 → j ≠ 12 → mI M2 154 j = mI M 154 j := fun j h1 h2 => by rw [hM2, hM]; exact (if_neg h2).trans (if_neg h1)
      have hK : SK M M2 := by rw [hM2, hM]; exact SK_tr (SK_tr (SK_tr SK_I SK_I) SK_I) (SK_tr SK_I SK_I)
      have e91 : mI M2 91 = fu (mI M 91) 0 (iZ ((T + 20 : Nat) : Int)) := by rw [hM2, hM]; rfl
      have e92 : mI M2 92 = apN 20 (mI M 92) T (fun j => b20 a b c e x j) := by rw [hM2, hM]; rfl
      have e93 : mI M2 93 = apN 20 (mI M 93) T (fun j => kd (b20 a b c e x j)) := by rw [hM2, hM]; rfl
      have e161 : mI M2 161 = apN 20 (mI M 161) T (fun j => b20 a b c e x j) := by rw [hM2, hM]; rfl
      refine ⟨by rw [hv2, hv], SK_S hK hS, D, J, P, Dg, ?_, ?_, ⟨⟨T + 20, fun j => if T ≤ j ∧ j < T + 20 then b20 a b c e x (j - T) else B j, by rw [e91]; first | done | rfl, by rw [hM2]; first | done | rfl, by omega, fun j hj => ?_⟩, ?_⟩, ?_, ?_⟩
      · exact IvC_f (fun j _ => by rw [f 61 (by decide) (by decide) (by decide) (by decide) (by decide)]) (fun j h1 h2 => f2 j (by omega) (by omega)) hC
      · exact IvD_f (by rw [f 62 (by decide) (by decide) (by decide) (by decide) (by decide)]) (f2 6 (by decide) (by decide)) (fun c hc => f c (by omega) (by omega) (by omega) (by omega) (by omega)) (fun c hc => hK.2.2.2 c (by omega)) hD
      · rw [e92, e93, e161]
        unfold apN
        by_cases hj' : T ≤ j ∧ j < T + 20
        · simp only [if_pos hj']
          exact ⟨b20_lt, by trivial, by trivial, by trivial⟩
        · simp only [if_neg hj']
          exact t4 j (by omega)
      · rw [e91, f2 22 (by decide) (by decide)]; exact (if_neg (by decide)).trans t5
      · exact IvL_f (fun j _ => by rw [f 146 (by decide) (by decide) (by decide) (by decide) (by decide)]) (fun j hj => f2 j (by omega) (by omega)) (fun c hc => f c (by omega) (by omega) (by omega) (by omega) (by omega)) hL
      · exact IvS_i hK hS (fun c hc => f c (by omega) (by omega) (by omega) (by omega) (by omega)) (by rw [f 61 (by decide) (by decide) (by decide) (by decide) (by decide)]) (fun j _ => by rw [f 97 (by decide) (by decide) (by decide) (by decide) (by decide)]) (fun j hj => f2 j (by omega) (by omega)) (Nat.le_refl _) (Nat.le_refl _) hV
    · exact absurd hT (by omega)
  · subst hM
    have e2 := c25 (G := G) (d := d + 59) (M := M1) (a := a) (b := b) (c := c) (e := e) (f := x) (n := T) hst hS t2 t3
    refine ⟨hS, Ev_post e2 (fun r M2 ⟨v2, hr2, h2⟩ => ⟨v2, hr2, ?_⟩) (fun _ _ h => h)⟩
    rcases h2 with ⟨h2, _⟩ | ⟨_, hv2, hM2⟩
    · exact absurd hT (by omega)
    · exact ⟨by rw [hv2, hv], Inv_RF (M := M1) (by rw [hM2]; exact RF_2) hI⟩
end

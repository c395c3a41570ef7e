/-! enters, draw (18, 19). -/
section
variable {G : GE} {d : Nat} {M M' : Mem} {D J P Dg J' Dg' : Nat}
theorem op18_ (hst : (gl G).stackTraces = false) : op18 G d Inv := fun M hI x1 => by
  obtain ⟨z, m1, n1, rfl⟩ := i32 x1
  obtain ⟨hS, D, J, P, Dg, hC, hD, hT, ⟨⟨n, L, l1, l2, l3, l4⟩, hdr⟩, hV⟩ := id hI
  have hL1 : ∀ i, i < n → mI M 148 i = iZ ((if i < n then (L i : Int) else 0)) := fun i hi => by rw [if_pos hi]; exact (l4 i hi).2.1
  have hL2 : ∀ i, i < n → mI M 199 i = iZ ((if i < n then (L i : Int) else 0)) := fun i hi => by rw [if_pos hi]; exact (l4 i hi).2.2
  have hb : ∀ i, 0 ≤ (if i < n then (L i : Int) else 0) ∧ (if i < n then (L i : Int) else 0) < 24 := fun i => by
    by_cases hi : i < n
    · rw [if_pos hi]; have := (l4 i hi).1; omega
    · rw [if_neg hi]; omega
  have e0 := c213 (G := G) (d := d + 56) (M := M) (m := Dg) (n := n) (L := fun i => if i < n then (L i : Int) else 0) hst hS m1 n1 hD.1.1 (by omega) (by have := hD.1.2.2; omega) l1 l3 hL1 hb
  have e1 := c247 (G := G) (d := d + 58) hst hS e0 (fun v M' h => by rcases h.2 with ⟨_, _, h⟩ | ⟨_, _, h⟩ <;> rw [h] <;> exact hS) (fun e M' h => h.2.1)
  refine ⟨6, by decide, Ev_post e1 (fun r M1 ⟨c, hr, hq⟩ => ⟨c, hr, ?_⟩) (fun _ _ h => h)⟩
  rcases hq with ⟨rfl, v, M0, ⟨hz, h⟩, hM⟩ | ⟨rfl, h1, _, h3⟩ | ⟨_, _, h2, _⟩
  · rcases h with ⟨hp, hv, hM0⟩ | ⟨hp, hv, hM0⟩
    · have hF : RF M M1 := by rw [hM, hM0]; exact RF_221
      have e2 := c84 (G := G) (d := d + 58) (M := M1) (m := Dg) (n := n) (L := fun i => if i < n then (L i : Int) else 0) hst (RF_S hF hS) m1 n1 (by rw [hF.2.2.2.2.2 6 (by decide)]; exact hD.1.2.1) (by omega) (by have := hD.1.2.2; omega) (by rw [hF.2.2.2.2.2 66 (by decide)]; exact l2) l3 (by rw [hF.2.2.2.2.1 199 (by decide) (by decide) (by decide) (by decide)]; exact hL2) hb
      refine ⟨RF_S hF hS, Or.inl rfl, Ev_post e2 (fun r M2 ⟨v2, hr2, h2⟩ => ⟨v2, hr2, ?_⟩) (fun _ _ h => h)⟩
      rcases h2 with ⟨h2, _⟩ | ⟨_, _, hv2, hM2⟩ | ⟨_, h2, _⟩
      · exact absurd hz h2
      · exact okI_ (Inv_RF (M := M1) (by rw [hM2]; exact RF_2) (Inv_RF hF hI)) (by rw [hM2]; exact m2_2) (fun _ => ⟨hM, by rw [hv2, hv], by rw [hM2]; rfl⟩)
      · exact absurd hp h2
    · have S1 : Static M1 := by rw [hM, hM0]; exact hS
      have e2 := c84 (G := G) (d := d + 58) (M := M1) (m := Dg) (n := n) (L := fun i => if i < n then (L i : Int) else 0) hst S1 m1 n1 (by rw [hM, hM0]; exact hD.1.2.1) (by omega) (by have := hD.1.2.2; omega) (by rw [hM, hM0]; exact l2) l3 (by rw [hM, hM0]; exact hL2) hb
      refine ⟨S1, Or.inl rfl, Ev_post e2 (fun r M2 ⟨v2, hr2, h2⟩ => ⟨v2, hr2, ?_⟩) (fun _ _ h => h)⟩
      rcases h2 with ⟨h2, _⟩ | ⟨_, h2, _⟩ | ⟨_, _, hv2, hM2⟩
      · exact absurd hz h2
      · exact absurd h2 hp
      · have f : ∀ c, c ≠ 146 → c ≠ 148 → c ≠ 154 → c ≠ 199 → mI M2 c = mI M c := fun c h1 h2 h3 h4 => by
          rw [hM2, mI_row_ne h4, mI_row_ne h3, hM, hM0]; exact (mI_row_ne h2).trans (mI_row_ne h1)
        have f2 : ∀ j, j ≠ 2 → j ≠ 66 → mI M2 154 j = mI M 154 j := fun j h1 h2 => by rw [hM2, hM, hM0]; exact (if_neg h2).trans (if_neg h1)
        have hK : SK M M2 := by rw [hM2, hM, hM0]; exact SK_tr (SK_tr (SK_tr SK_I SK_I) SK_221) (SK_tr SK_I SK_I)
        have e146 : mI M2 146 = fu (mI M 146) 0 (iZ (n + 1)) := by rw [hM2, hM, hM0]; rfl
        have e148 : mI M2 148 = fu (mI M 148) n (iZ z) := by rw [hM2, hM, hM0]; rfl
        have e199 : mI M2 199 = fu (mI M 199) n (iZ z) := by rw [hM2, hM, hM0]; rfl
        have h24 := hD.1.2.2
        refine okI_ ⟨SK_S hK hS, D, J, P, Dg, ?_, ?_, ?_, ⟨⟨n + 1, fu L n z.toNat, by rw [e146]; first | done | rfl, by rw [hM2]; first | done | rfl, by omega, fun i hi => ?_⟩, ?_⟩, ?_⟩ (by rw [hM2]; first | done | rfl) (fun _ => ⟨hM, by rw [hv2, hv], by rw [hM2]; rfl⟩)
        · exact IvC_f (fun j _ => by rw [f 61 (by decide) (by decide) (by decide) (by decide)]) (fun j h1 h2 => f2 j (by omega) (by omega)) hC
        · exact IvD_f (by rw [f 62 (by decide) (by decide) (by decide) (by decide)]) (f2 6 (by decide) (by decide)) (fun c hc => f c (by omega) (by omega) (by omega) (by omega)) (fun c hc => hK.2.2.2 c (by omega)) hD
        · exact IvT_f (by rw [f 91 (by decide) (by decide) (by decide) (by decide)]) (by rw [f 91 (by decide) (by decide) (by decide) (by decide)]) (f2 12 (by decide) (by decide)) (f2 22 (by decide) (by decide)) (fun c hc => f c (by omega) (by omega) (by omega) (by omega)) hT
        · rw [e148, e199]
          by_cases hi' : i = n
          · subst hi'
            rw [fu0, fu0, fu0, show ((z.toNat : Nat) : Int) = z from by omega]
            exact ⟨by omega, rfl, rfl⟩
          · rw [fu_ne _ _ hi', fu_ne _ _ hi', fu_ne _ _ hi']
            exact l4 i (by omega)
        · rw [e146, f2 67 (by decide) (by decide), f 147 (by decide) (by decide) (by decide) (by decide), f 200 (by decide) (by decide) (by decide) (by decide)]
          exact hdr
        · exact IvS_i hK hS (fun c hc => f c (by omega) (by omega) (by omega) (by omega)) (by rw [f 61 (by decide) (by decide) (by decide) (by decide)]) (fun j _ => by rw [f 97 (by decide) (by decide) (by decide) (by decide)]) (fun j hj => f2 j (by omega) (by omega)) (Nat.le_refl _) (Nat.le_refl _) hV
  · subst h3
    have e2 := c84 (G := G) (d := d + 58) (M := M1) (m := Dg) (n := n) (L := fun i => if i < n then (L i : Int) else 0) hst hS m1 n1 hD.1.2.1 (by omega) (by have := hD.1.2.2; omega) l2 l3 hL2 hb
    refine ⟨hS, Or.inr (Or.inl rfl), Ev_post e2 (fun r M2 ⟨v2, hr2, h2⟩ => ⟨v2, hr2, ?_⟩) (fun _ _ h => h)⟩
    rcases h2 with ⟨_, hv2, hM2⟩ | ⟨h2, _⟩ | ⟨h2, _⟩
    · exact okI_ (v1 := v2) (M0 := M1) (M1 := M1) (Inv_RF (M := M1) (by rw [hM2]; exact RF_2) hI) (by rw [hM2]; exact m2_2) (fun h => absurd h (by decide))
    · exact absurd h2 h1
    · exact absurd h2 h1
  · cases h2
theorem fst1_cong {α : Type} {F F' : Nat → Option α} : ∀ m i, (∀ j, i ≤ j → j < i + m → F j = F' j) → fst1 F m i = fst1 F' m i
  | 0, _, _ => rfl
  | m + 1, i, h => by
    unfold fst1
    rw [h i (Nat.le_refl _) (by omega), fst1_cong m (i + 1) (fun j h1 h2 => h j (by omega) (by omega))]
theorem sk_cong {h h' : Nat → Nat} {g n : Nat} (e : ∀ i, i < n → h i = h' i) : ∀ (f place : Nat) (pl : Nat → Nat), (∀ p, p < place → pl p < n) → sk h g n f place pl = sk h' g n f place pl
  | 0, _, _, _ => rfl
  | f + 1, place, pl, hp => by
    unfold sk
    refine fst1_cong n 0 (fun i _ hi => ?_)
    have hi : i < n := by omega
    have ok : okAt h g pl place i ↔ okAt h' g pl place i := by
      constructor
      · intro k p hpp; have := k p hpp; rw [e _ (hp p hpp), e i hi] at this; exact this
      · intro k p hpp; have := k p hpp; rw [← e _ (hp p hpp), ← e i hi] at this; exact this
    rw [sk_cong e f (place + 1) (fu pl place i) (fun p hpp => by
      unfold fu
      by_cases z : p = place
      · rw [if_pos z]; exact hi
      · rw [if_neg z]; exact hp p (by omega))]
    by_cases z : okAt h g pl place i
    · rw [if_pos z, if_pos (ok.1 z)]
    · rw [if_neg z, if_neg (fun y => z (ok.2 y))]
theorem Inv_L' (h : Inv M) (hK : SK M M') (f : ∀ c, c ≠ 154 → c ≠ 146 → c ≠ 147 → c ≠ 148 → c ≠ 199 → c ≠ 200 → (c < 149 ∨ 153 < c) → (c < 201 ∨ 221 < c) → mI M' c = mI M c) (e : ∀ j, j ≠ 2 → j ≠ 66 → j ≠ 67 → mI M' 154 j = mI M 154 j) (hL : IvL M') : Inv M' := by
  have f' := fun c (h : (c < 146 ∨ 154 < c) ∧ (c < 199 ∨ 221 < c)) => f c (by omega) (by omega) (by omega) (by omega) (by omega) (by omega) (by omega) (by omega)
  obtain ⟨hS, D, J, P, Dg, hC, hD, hT, _, hV⟩ := h
  refine ⟨SK_S hK hS, D, J, P, Dg, ?_, ?_, ?_, hL, ?_⟩
  · exact IvC_f (fun j _ => by rw [f' 61 (by decide)]) (fun j h1 h2 => e j (by omega) (by omega) (by omega)) hC
  · exact IvD_f (by rw [f' 62 (by decide)]) (e 6 (by decide) (by decide) (by decide)) (fun c hc => f' c (by omega)) (fun c hc => hK.2.2.2 c (by omega)) hD
  · exact IvT_f (by rw [f' 91 (by decide)]) (by rw [f' 91 (by decide)]) (e 12 (by decide) (by decide) (by decide)) (e 22 (by decide) (by decide) (by decide)) (fun c hc => f' c (by omega)) hT
  · exact IvS_i hK hS (fun c hc => f' c (by omega)) (by rw [f' 61 (by decide)]) (fun j _ => by rw [f' 97 (by decide)]) (fun j hj => e j (by omega) (by omega) (by omega)) (Nat.le_refl _) (Nat.le_refl _) hV
theorem op19_ (hst : (gl G).stackTraces = false) : op19 G d Inv := fun M hI x1 x2 x3 => by
  generalize (x1.toInt64 <<< (jZ 32 &&& 63) ||| x2.toInt64 &&& jZ 4294967295) = sd
  obtain ⟨g, m1, n1, rfl⟩ := i32 x3
  obtain ⟨hS, D, J, P, Dg, hC, hD, hT, ⟨⟨n, L, l1, l2, l3, l4⟩, nd, d1, d2, d3, d4⟩, hV⟩ := id hI
  obtain ⟨H, hH⟩ := hD.2.1
  have e0 := c218 (G := G) (d := d + 46) (M := M) (n := n) (s := sd) (H := H) hst hS m1 n1 l3 l1 (fun j hj => ⟨L j, (l4 j hj).1, (l4 j hj).2.1⟩) (fun j hj => (hH j hj).2.1) (fun j hj => (hH j hj).1)
  have e1 := c248 (G := G) (d := d + 58) hst hS e0 (fun v M' h => by
    obtain ⟨_, S, r, A, o, x, _, h⟩ := h
    rcases h with ⟨_, _, h⟩ | ⟨_, q, _, _, h⟩ <;> rw [h] <;> exact hS) (fun e M' h => h.2.1)
  refine ⟨6, by decide, Ev_post e1 (fun r M1 ⟨c, hr, hq⟩ => ⟨c, hr, ?_⟩) (fun _ _ h => h)⟩
  rcases hq with ⟨rfl, v, M0, ⟨hg, S, r, A, o, x, hSh, h⟩, hM⟩ | ⟨_, _, h2, _⟩ | ⟨rfl, h1, _, h3⟩
  · -- the shuffled list of both
    have hSS : ∀ (S' : Nat → Int32), S' = shuf (n - 1) sd (upto n (mI M 199) (mI M 201)) → 0 < n → ∀ j, j < n → S j = S' j := fun S' hS' hn j hj => by
      rw [hSh, hS']
      refine shuf_congr (n := n) (n - 1) sd _ _ (by omega) (fun i hi => ?_) j hj
      unfold upto
      rw [if_pos (by omega), if_pos hi, (l4 i hi).2.1, (l4 i hi).2.2]
    have hsk : ∀ (S' : Nat → Int32), S' = shuf (n - 1) sd (upto n (mI M 199) (mI M 201)) → 0 < n → sk (fun j => H (iN (S j))) g.toNat n n 0 (fun _ => 0) = sk (fun j => H (iN (S' j))) g.toNat n n 0 (fun _ => 0) := fun S' hS' hn => by
      refine sk_cong (fun i hi => ?_) n 0 _ (fun p hp => absurd hp (by omega))
      show H (iN (S i)) = H (iN (S' i))
      rw [hSS S' hS' hn i hi]
    have e2 : Static M1 → mI M1 154 = mI M 154 → mI M1 157 = mI M 157 → mI M1 199 = mI M 199 → Ev G (d + 60) 87 [aR (some 154), aL sd, aI (iZ ((g.toNat : Nat) : Int))] M1 0 _ nX := fun S1 f1 f2 f3 => c87 (G := G) (d := d + 49) (M := M1) (n := n) (g := g.toNat) (s := sd) (H := H) hst S1 (by omega) (by omega) l3 (by rw [f1]; exact l2) (fun j hj => ⟨L j, (l4 j hj).1, by rw [f3]; exact (l4 j hj).2.2⟩) (fun j hj => by rw [f2]; exact (hH j hj).2.2) (fun j hj => (hH j hj).1)
    rw [show ((g.toNat : Nat) : Int) = g from by omega] at e2
    rcases h with ⟨h0, hv, hM0⟩ | ⟨hn, q, hq, hv, hM0⟩
    · have S1 : Static M1 := by rw [hM, hM0]; exact hS
      refine ⟨S1, Or.inl rfl, Ev_post (e2 S1 (by rw [hM, hM0]; rfl) (by rw [hM, hM0]; rfl) (by rw [hM, hM0]; rfl)) (fun r2 M2 ⟨v2, hr2, r', S', hS', h2⟩ => ⟨v2, hr2, ?_⟩) (fun _ _ h => h)⟩
      have hS' : S' = shuf (n - 1) sd (upto n (mI M 199) (mI M 201)) := by rw [hS', hM, hM0]; rfl
      rcases h2 with ⟨_, hv2, hM2⟩ | ⟨hn, q, hq, _⟩
      · have f : ∀ c, c ≠ 154 → c ≠ 146 → (c < 149 ∨ 153 < c) → (c < 201 ∨ 221 < c) → mI M2 c = mI M c := fun c h1 h2 h3 h4 => by
          rw [hM2, mI_row_ne (by omega), mI_row_ne (by omega), mI_row_ne h1, hM, hM0]
          exact (mI_row_ne (by omega)).trans ((mI_row_ne (by omega)).trans ((mI_row_ne (by omega)).trans ((mI_row_ne (by omega)).trans ((mI_row_ne (by omega)).trans (mI_row_ne (by omega))))))
        have e : ∀ j, j ≠ 2 → mI M2 154 j = mI M 154 j := fun j hj => by rw [hM2, hM, hM0]; exact if_neg hj
        have e6 : ∀ j, j ≠ 9 → mI M2 146 j = mI M 146 j := fun j hj => by rw [hM2, hM, hM0]; exact if_neg hj
        refine okI_ (Inv_L' hI ?_ (fun c h1 h2 _ _ _ _ h3 h4 => f c h1 h2 h3 h4) (fun j h1 _ _ => e j h1) (IvL_f (fun j hj => e6 j (by omega)) (fun j hj => e j (by omega)) (fun c hc => f c (by omega) (by omega) (by omega) (by omega)) ⟨⟨n, L, l1, l2, l3, l4⟩, nd, d1, d2, d3, d4⟩)) (by rw [hM2]; first | done | rfl) (fun _ => ⟨hM, by rw [hv2, hv], by rw [hM2]; rfl⟩)
        rw [hM2, hM, hM0]
        exact SK_tr (SK_tr (SK_tr (SK_tr (SK_tr (SK_tr (SK_tr SK_I SK_I) SK_I) SK_I) SK_I) SK_I) SK_221) (SK_tr (SK_tr SK_I SK_I) SK_I)
      · rcases h0 with h0 | h0
        · exact absurd hn (by omega)
        · rw [hsk S' hS' hn, hq] at h0; cases h0
    · have S1 : Static M1 := by rw [hM, hM0]; exact hS
      refine ⟨S1, Or.inl rfl, Ev_post (e2 S1 (by rw [hM, hM0]; rfl) (by rw [hM, hM0]; rfl) (by rw [hM, hM0]; rfl)) (fun r2 M2 ⟨v2, hr2, r', S', hS', h2⟩ => ⟨v2, hr2, ?_⟩) (fun _ _ h => h)⟩
      have hS' : S' = shuf (n - 1) sd (upto n (mI M 199) (mI M 201)) := by rw [hS', hM, hM0]; rfl
      have hk := hsk S' hS' hn
      have hql := sk_lt (n := n) n 0 _ q (fun p hp => absurd hp (by omega)) hq
      rcases h2 with ⟨h0, _⟩ | ⟨_, q', hq', hv2, hM2⟩
      · rcases h0 with h0 | h0
        · exact absurd hn (by omega)
        · rw [← hk, hq] at h0; cases h0
      · have qq : q' = q := by rw [← hk, hq] at hq'; cases hq'; rfl
        subst qq
        have f : ∀ c, c ≠ 154 → c ≠ 146 → c ≠ 147 → c ≠ 200 → (c < 149 ∨ 153 < c) → (c < 201 ∨ 221 < c) → mI M2 c = mI M c := fun c h1 h2 h3 h4 h5 h6 => by
          rw [hM2, mI_row_ne (by omega), mI_row_ne (by omega), mI_row_ne h4, mI_row_ne h1, hM, hM0]
          exact (mI_row_ne (by omega)).trans ((mI_row_ne (by omega)).trans ((mI_row_ne (by omega)).trans ((mI_row_ne (by omega)).trans ((mI_row_ne (by omega)).trans ((mI_row_ne h3).trans (mI_row_ne h2))))))
        have e : ∀ j, j ≠ 2 → j ≠ 67 → mI M2 154 j = mI M 154 j := fun j hj hj2 => by rw [hM2, hM, hM0]; exact (if_neg hj2).trans (if_neg hj)
        have e6 : ∀ j, j ≠ 9 → j ≠ 1 → mI M2 146 j = mI M 146 j := fun j hj hj2 => by rw [hM2, hM, hM0]; exact (if_neg hj2).trans (if_neg hj)
        have e147 : mI M2 147 = upto n (fun j => S (q' j)) (mI M 147) := by rw [hM2, hM, hM0]; rfl
        have e200 : mI M2 200 = upto n (fun j => S' (q' j)) (mI M 200) := by rw [hM2, hM, hM0]; rfl
        refine okI_ (Inv_L' hI ?_ (fun c h1 h2 h3 _ _ h4 h5 h6 => f c h1 h2 h3 h4 h5 h6) (fun j h1 _ h2 => e j h1 h2) ⟨⟨n, L, by rw [e6 0 (by decide) (by decide)]; exact l1, by rw [e 66 (by decide) (by decide)]; exact l2, l3, by rw [f 148 (by decide) (by decide) (by decide) (by decide) (by decide) (by decide), f 199 (by decide) (by decide) (by decide) (by decide) (by decide) (by decide)]; exact l4⟩, n, by rw [hM2, hM, hM0]; first | done | rfl, by rw [hM2]; first | done | rfl, l3, fun i hi => ?_⟩) (by rw [hM2]; first | done | rfl) (fun _ => ⟨hM, by rw [hv2, hv, hSS S' hS' hn _ (hql 0 (by omega))], by rw [hM2]; rfl⟩)
        · rw [hM2, hM, hM0]
          exact SK_tr (SK_tr (SK_tr (SK_tr (SK_tr (SK_tr (SK_tr (SK_tr SK_I SK_I) SK_I) SK_I) SK_I) SK_I) SK_I) SK_221) (SK_tr (SK_tr (SK_tr SK_I SK_I) SK_I) SK_I)
        · rw [e147, e200]
          unfold upto
          rw [if_pos hi, if_pos hi]
          exact hSS S' hS' hn _ (hql i (by omega))
  · cases h2
  · subst h3
    have e2 := c87x (G := G) (d := d + 58) (M := M1) (s := sd) hst hS m1 n1 h1
    refine ⟨hS, Or.inr (Or.inl rfl), Ev_post e2 (fun r M2 ⟨v2, hr2, hv2, hM2⟩ => ⟨v2, hr2, ?_⟩) (fun _ _ h => h)⟩
    exact okI_ (v1 := v2) (M0 := M1) (M1 := M1) (Inv_RF (M := M1) (by rw [hM2]; exact RF_2) hI) (by rw [hM2]; exact m2_2) (fun h => absurd h (by decide))
end

/-! kin, inbred, drawn, packets, scale (2, 3, 20, 21, 22). -/
section
variable {G : GE} {d : Nat} {M M' : Mem}
/-- one refusal, or an answer -/
def r1J (p : Prop) (e : Nat) (x : Int64) : Nat ⊕ Int64 → Prop
  | .inl e' => e' = e ∧ ¬ p
  | .inr v => p ∧ v = x
def r1I (p : Prop) (e : Nat) (x : Int32) : Nat ⊕ Int32 → Prop
  | .inl e' => e' = e ∧ ¬ p
  | .inr v => p ∧ v = x
theorem r1J_one {p : Prop} {e : Nat} {x : Int64} : ∀ a b, r1J p e x a → r1J p e x b → a = b := by
  intro a b
  cases a <;> cases b <;> simp [r1J] <;> grind
theorem r1I_one {p : Prop} {e : Nat} {x : Int32} : ∀ a b, r1I p e x a → r1I p e x b → a = b := by
  intro a b
  cases a <;> cases b <;> simp [r1I] <;> grind
theorem m2_2 {v : Int32} : mI (rowI M 154 (fu (mI M 154) 2 v)) 154 2 = v := by rw [mI_row]; exact if_pos rfl
theorem rQ_ok {R : Nat ⊕ Int32 → Prop} {v : Int32} (h : R (.inr v)) (hM : M' = setI M 154 2 (iZ 0)) : rQ M R (some (aI v)) M' := by
  rw [hM]
  exact ⟨v, rfl, RF_2, rfl, Or.inr ⟨h, m2_2⟩⟩
theorem rQ_no {R : Nat ⊕ Int32 → Prop} {v : Int32} {e : Nat} (h : R (.inl e)) (hM : M' = setI M 154 2 (iZ ((e + 1 : Nat) : Int))) : rQ M R (some (aI v)) M' := by
  rw [hM]
  exact ⟨v, rfl, RF_2, rfl, Or.inl ⟨e, h, m2_2⟩⟩
theorem rQJ_ok {R : Nat ⊕ Int64 → Prop} {v : Int64} (h : R (.inr v)) (hM : M' = setI M 154 2 (iZ 0)) : rQJ M R (some (aL v)) M' := by
  rw [hM]
  exact ⟨v, rfl, RF_2, rfl, Or.inr ⟨h, m2_2⟩⟩
theorem rQJ_no {R : Nat ⊕ Int64 → Prop} {v : Int64} {e : Nat} (h : R (.inl e)) (hM : M' = setI M 154 2 (iZ ((e + 1 : Nat) : Int))) : rQJ M R (some (aL v)) M' := by
  rw [hM]
  exact ⟨v, rfl, RF_2, rfl, Or.inl ⟨e, h, m2_2⟩⟩
theorem op2_ (hst : (gl G).stackTraces = false) : op2 G d Inv := fun M hI x1 x2 => by
  obtain ⟨a, m1, n1, rfl⟩ := i32 x1
  obtain ⟨b, m2, n2, rfl⟩ := i32 x2
  obtain ⟨hS, D, J, P, Dg, _, ⟨⟨g1, g2, g3⟩, _, _, hK⟩, _⟩ := id hI
  have e0 := c115 (G := G) (d := d + 56) (M := M) (n := Dg) hst hS m1 n1 m2 n2 g1 (by omega) (by omega)
  have e1 := c234 (G := G) (d := d + 58) hst hS e0 (fun v M' h => by rw [h.2.2]; exact hS) (fun e M' h => h.2.1)
  refine rd_J (R := r1J ((0 ≤ a ∧ a < Dg) ∧ 0 ≤ b ∧ b < Dg) 0 (mJ M (67 + a.toNat) b.toNat)) hI (by decide) r1J_one e1 (fun v M' h => ⟨by rw [h.2.2]; exact RF_rfl, h.1, h.2.1⟩) (fun M' h => ⟨by rw [h.2.2]; exact RF_rfl, 0, ⟨rfl, h.1⟩, by decide, rfl⟩) (fun M' h => absurd h.2.1 (by decide)) (fun M1 hF => ?_)
  have e2 := c23 (G := G) (d := d + 58) (M := M1) (n := Dg) hst (RF_S hF hS) m1 n1 m2 n2 (by rw [hF.2.2.2.2.2 6 (by decide)]; exact g2) (by omega) (by omega)
  refine Ev_post e2 (fun r M2 ⟨v, hr, h⟩ => ?_) (fun _ _ h => h)
  subst hr
  by_cases hc : (0 ≤ a ∧ a < Dg) ∧ 0 ≤ b ∧ b < Dg
  · (try dsimp only at h); rw [if_pos hc] at h
    refine rQJ_ok ⟨hc, ?_⟩ h.2
    rw [h.1, hF.2.2.2.1 160 (by decide), ← KN_tell hK g3 (i := a.toNat) (j := b.toNat) (by omega) (by omega)]
    rw [show ((24 : Int) * a + b).toNat = 24 * a.toNat + b.toNat from by omega]
  · (try dsimp only at h); rw [if_neg hc] at h
    exact rQJ_no ⟨rfl, hc⟩ h.2
theorem op3_ (hst : (gl G).stackTraces = false) : op3 G d Inv := fun M hI x1 => by
  obtain ⟨z, m1, n1, rfl⟩ := i32 x1
  obtain ⟨hS, D, J, P, Dg, _, ⟨⟨g1, g2, g3⟩, _, hp, hK⟩, _⟩ := id hI
  obtain ⟨s, t, b1, b2, b3, b4, hs, hs', ht, ht', s5, t5⟩ : ∃ s t : Int, -1 ≤ s ∧ s < 24 ∧ -1 ≤ t ∧ t < 24 ∧ (0 ≤ z → z < Dg → mI M 64 z.toNat = iZ s) ∧ (0 ≤ z → z < Dg → mI M 158 z.toNat = iZ s) ∧ (0 ≤ z → z < Dg → mI M 65 z.toNat = iZ t) ∧ (0 ≤ z → z < Dg → mI M 159 z.toNat = iZ t) ∧ (s ≠ -1 → 0 ≤ s ∧ s < Dg) ∧ (t ≠ -1 → 0 ≤ t ∧ t < Dg) := by
    by_cases h : 0 ≤ z ∧ z < Dg
    · obtain ⟨s, t, ⟨c1, c2⟩, ⟨c3, c4⟩, c5, c6⟩ := hp z.toNat (by omega)
      exact ⟨s, t, by omega, by omega, by omega, by omega, fun _ _ => c3, fun _ _ => c4, fun _ _ => c5, fun _ _ => c6, fun h => by omega, fun h => by omega⟩
    · exact ⟨-1, -1, by decide, by decide, by decide, by decide, fun h1 h2 => absurd ⟨h1, h2⟩ h, fun h1 h2 => absurd ⟨h1, h2⟩ h, fun h1 h2 => absurd ⟨h1, h2⟩ h, fun h1 h2 => absurd ⟨h1, h2⟩ h, fun h => absurd rfl h, fun h => absurd rfl h⟩
  have e0 := c117 (G := G) (d := d + 56) (M := M) (n := Dg) (s := s) (t := t) hst hS m1 n1 g1 (by omega) (by omega) hs ht b1 b2 b3 b4
  have e1 := c235 (G := G) (d := d + 58) hst hS e0 (fun v M' h => by rw [h.2.2]; exact hS) (fun e M' h => h.2.1)
  refine rd_J (R := r1J (0 ≤ z ∧ z < Dg) 0 (if s = -1 ∨ t = -1 then jZ 0 else mJ M (67 + s.toNat) t.toNat)) hI (by decide) r1J_one e1 (fun v M' h => ⟨by rw [h.2.2]; exact RF_rfl, h.1, h.2.1⟩) (fun M' h => ⟨by rw [h.2.2]; exact RF_rfl, 0, ⟨rfl, h.1⟩, by decide, rfl⟩) (fun M' h => absurd h.2.1 (by decide)) (fun M1 hF => ?_)
  have f := fun c (h : c = 158 ∨ c = 159) => hF.2.2.2.2.1 c (by omega) (by omega) (by omega) (by omega)
  have e2 := c24 (G := G) (d := d + 58) (M := M1) (n := Dg) (s := s) (t := t) hst (RF_S hF hS) m1 n1 (by rw [hF.2.2.2.2.2 6 (by decide)]; exact g2) (by omega) (by omega) (by rw [f 158 (by decide)]; exact hs') (by rw [f 159 (by decide)]; exact ht') b1 b2 b3 b4
  refine Ev_post e2 (fun r M2 ⟨v, hr, h⟩ => ?_) (fun _ _ h => h)
  subst hr
  by_cases hc : 0 ≤ z ∧ z < Dg
  · (try dsimp only at h); rw [if_pos hc] at h
    refine rQJ_ok ⟨hc, ?_⟩ h.2
    rw [h.1]
    by_cases h1 : s = -1 ∨ t = -1
    · rw [if_pos h1, if_pos h1]
    · rw [if_neg h1, if_neg h1, hF.2.2.2.1 160 (by decide), ← KN_tell hK g3 (i := s.toNat) (j := t.toNat) (by omega) (by omega)]
      rw [show ((24 : Int) * s + t).toNat = 24 * s.toNat + t.toNat from by omega]
  · (try dsimp only at h); rw [if_neg hc] at h
    exact rQJ_no ⟨rfl, hc⟩ h.2
theorem op20_ (hst : (gl G).stackTraces = false) : op20 G d Inv := fun M hI x1 => by
  obtain ⟨z, m1, n1, rfl⟩ := i32 x1
  obtain ⟨hS, D, J, P, Dg, _, _, _, ⟨_, n, k1, k2, k3, k4⟩, _⟩ := id hI
  have e0 := c219 (G := G) (d := d + 57) (M := M) (n := n) hst hS m1 n1 k1 (by omega) (by omega)
  have e1 := c249 (G := G) (d := d + 58) hst hS e0 (fun v M' h => by rw [h.2.2]; exact hS) (fun e M' h => h.2.1)
  refine rd_I (R := r1I (z = -1 ∨ 0 ≤ z ∧ z < n) 0 (if z = -1 then iZ n else mI M 147 z.toNat)) hI (by decide) r1I_one e1 (fun v M' h => ⟨by rw [h.2.2]; exact RF_rfl, h.1, h.2.1⟩) (fun M' h => ⟨by rw [h.2.2]; exact RF_rfl, 0, ⟨rfl, h.1⟩, by decide, rfl⟩) (fun M' h => absurd h.2.1 (by decide)) (fun M1 hF => ?_)
  have e2 := c88 (G := G) (d := d + 58) (M := M1) (n := n) hst (RF_S hF hS) m1 n1 (by rw [hF.2.2.2.2.2 67 (by decide)]; exact k2) (by omega) (by omega)
  refine Ev_post e2 (fun r M2 ⟨v, hr, h⟩ => ?_) (fun _ _ h => h)
  subst hr
  by_cases hc : z = -1 ∨ 0 ≤ z ∧ z < n
  · (try dsimp only at h); rw [if_pos hc] at h
    refine rQ_ok ⟨hc, ?_⟩ h.2
    rw [h.1, hF.2.2.2.2.1 200 (by decide) (by decide) (by decide) (by decide)]
    by_cases h1 : z = -1
    · rw [if_pos h1, if_pos h1]
    · rw [if_neg h1, if_neg h1]; exact (k4 z.toNat (by omega)).symm
  · (try dsimp only at h); rw [if_neg hc] at h
    exact rQ_no ⟨rfl, hc⟩ h.2
theorem op21_ (hst : (gl G).stackTraces = false) : op21 G d Inv := fun M hI x1 x2 x3 => by
  obtain ⟨n, n1, n2, rfl⟩ := i32 x1
  obtain ⟨m, m1, m2, rfl⟩ := i32 x2
  obtain ⟨u, u1, u2, rfl⟩ := i32 x3
  have hS := hI.1
  have e0 := c220 (G := G) (d := d + 57) (M := M) hst hS n1 n2 m1 m2 u1 u2
  have e1 := c250 (G := G) (d := d + 58) hst hS e0 (fun v M' h => by rw [h.2.2]; exact hS) (fun e M' h => h.2.1)
  refine rd_I (R := r1I ((1 ≤ n ∧ n ≤ 8) ∧ (1 ≤ m ∧ m ≤ 4) ∧ 1 ≤ u ∧ u ≤ 8) 0 (iZ (if n.toNat ≤ m.toNat * u.toNat then ((btD (cyc m.toNat) n.toNat : Nat) : Int) else -1))) hI (by decide) r1I_one e1 (fun v M' h => ⟨by rw [h.2.2]; exact RF_rfl, h.1, h.2.1⟩) (fun M' h => absurd h.2.1 (by decide)) (fun M' h => ⟨by rw [h.2.2]; exact RF_rfl, 0, ⟨rfl, h.1⟩, by decide, rfl⟩) (fun M1 hF => ?_)
  by_cases hc : (1 ≤ n ∧ n ≤ 8) ∧ (1 ≤ m ∧ m ≤ 4) ∧ 1 ≤ u ∧ u ≤ 8
  · obtain ⟨n, rfl⟩ : ∃ N : Nat, n = N := ⟨n.toNat, by omega⟩
    obtain ⟨m, rfl⟩ : ∃ N : Nat, m = N := ⟨m.toNat, by omega⟩
    obtain ⟨u, rfl⟩ : ∃ N : Nat, u = N := ⟨u.toNat, by omega⟩
    have e2 := c89 (G := G) (d := d + 58) (M := M1) (n := n) (m := m) (u := u) hst (RF_S hF hS) (by omega) (by omega) (by omega) (by omega) (by omega) (by omega)
    refine Ev_post e2 (fun r M2 ⟨v, hr, hv, A, U, hM⟩ => ?_) (fun _ _ h => h)
    subst hr
    refine ⟨v, rfl, ?_, by rw [hM]; rfl, Or.inr ⟨⟨hc, ?_⟩, ?_⟩⟩
    · rw [hM]
      refine ⟨rfl, rfl, rfl, fun _ _ => rfl, fun c h1 h2 h3 h4 => ?_, fun j hj => ?_⟩
      · rw [mI_row_ne (by omega), mI_row_ne (by omega), mI_row_ne h1]
      · rw [mI_row_ne (by omega), mI_row_ne (by omega), mI_row]; exact if_neg hj
    · rw [hv, Int.toNat_natCast, Int.toNat_natCast, Int.toNat_natCast]
    · rw [hM, mI_row_ne (by omega), mI_row_ne (by omega), mI_row]; exact if_pos rfl
  · have e2 := c89x (G := G) (d := d + 58) (M := M1) hst (RF_S hF hS) n1 n2 m1 m2 u1 u2 hc
    refine Ev_post e2 (fun r M2 ⟨v, hr, h⟩ => ?_) (fun _ _ h => h)
    subst hr
    exact rQ_no ⟨rfl, hc⟩ h.2
def scR (s : Sn) (J D U W K : Int) : Nat ⊕ Int64 → Prop
  | .inl e => (e = 0 ∧ ¬ ((0 ≤ U ∧ U < J) ∧ (0 ≤ W ∧ W < 3))) ∨ (e = 1 ∧ ((0 ≤ U ∧ U < J) ∧ (0 ≤ W ∧ W < 3)) ∧ ¬ (0 ≤ K ∧ K ≤ D))
  | .inr v => ((0 ≤ U ∧ U < J) ∧ (0 ≤ W ∧ W < 3) ∧ (0 ≤ K ∧ K ≤ D)) ∧ scQ s K U.toNat W v
theorem scR_one {s : Sn} {J D U W K : Int} : ∀ a b, scR s J D U W K a → scR s J D U W K b → a = b := by
  intro a b h1 h2
  cases a <;> cases b
  · unfold scR at h1 h2; simp only at h1 h2; congr 1; omega
  · unfold scR at h1 h2; simp only at h1 h2; exfalso; omega
  · unfold scR at h1 h2; simp only at h1 h2; exfalso; omega
  · rw [scQ_one h1.2 h2.2]
theorem op22_ (hst : (gl G).stackTraces = false) : op22 G d Inv := fun M hI x1 x2 x3 => by
  obtain ⟨z1, m1, n1, rfl⟩ := i32 x1
  obtain ⟨z2, m2, n2, rfl⟩ := i32 x2
  obtain ⟨z3, m3, n3, rfl⟩ := i32 x3
  obtain ⟨hS, D, J, P, Dg, ⟨⟨a1, a2, a3⟩, ⟨j1, j2, j3⟩, _⟩, ⟨⟨g1, g2, g3⟩, _⟩, _, _, s, kb, ra, ca, s1, s2, s3, s4, s5, s6⟩ := id hI
  have e0 := c229 (G := G) (d := d + 48) (M := M) (s := s) (D := D) (J := J) (U := z1) (W := z2) (K := z3) hst hS s1 s3 a1 (by omega) (by omega) j1 (by omega) (by omega) m1 n1 m2 n2 m3 n3
  have e1 := c251 (G := G) (d := d + 58) hst hS e0 (fun v M' h => FZ_S h.1 hS) (fun e M' h => by omega)
  refine rd_J (R := scR s J D z1 z2 z3) hI (by decide) scR_one e1 (fun v M' h => ⟨RF_FZ h.1, h.2⟩) (fun M' h => ⟨by rw [h.1]; exact RF_rfl, 0, ?_, by decide, rfl⟩) (fun M' h => ⟨by rw [h.1]; exact RF_rfl, 1, ?_, by decide, rfl⟩) (fun M1 hF => ?_)
  · exact Or.inl ⟨rfl, by have := h.2; omega⟩
  · exact Or.inr ⟨rfl, by have := h.2; omega⟩
  have hj : ∀ u, u < nRn s → uJd s u < J := fun u hu => s6 _ (s1.2.2.1.2 u hu).1
  have e2 := c96 (G := G) (d := d + 50) (M := M1) (s := s) (D := D) (Dg := Dg) (Jn := J) (U := z1) (W := z2) (K := z3) hst (RF_S hF hS) s1 (MSn_GJ (RF_GJ hF) s4) (by rw [hF.2.2.2.2.2 3 (by decide)]; exact a2) (by omega) (by omega) (by rw [hF.2.2.2.2.2 6 (by decide)]; exact g2) g3 (by rw [hF.2.2.2.2.2 4 (by decide)]; exact j2) j3 s5 hj m1 n1 m2 n2 m3 n3
  refine Ev_post e2 (fun r M2 ⟨v, hr, hV, h⟩ => ?_) (fun _ _ h => h)
  refine ⟨v, hr, RF_FVA hV, hV.2.2.2.1 221 (by decide), ?_⟩
  rcases h with ⟨h, h2⟩ | ⟨h, h', h2⟩ | ⟨h, h2, h3⟩
  · exact Or.inl ⟨0, Or.inl ⟨rfl, h⟩, h2⟩
  · exact Or.inl ⟨1, Or.inr ⟨rfl, h, h'⟩, h2⟩
  · exact Or.inr ⟨⟨h, h3⟩, h2⟩
end

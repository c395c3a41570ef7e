/-! told, took, ladder, sum, luck (11, 12, 15, 16, 23). -/
section
variable {G : GE} {d : Nat} {M M' : Mem} {s : Sn} {Dg D U W K a b P k : Int} {e : Nat}
theorem told_e (h : toldA s D U W K = .inl e) : e = 0 ∨ e = 1 := by
  unfold toldA at h
  grind
theorem took_e (h : tookA s D U W K = .inl e) : e = 0 ∨ e = 1 := by
  unfold tookA at h
  grind
theorem luck_e (h : luckA s D U W K = .inl e) : e = 0 ∨ e = 1 := by
  unfold luckA at h
  grind
theorem lad_e (h : ladA s D a b P k = .inl e) : e = 0 ∨ e = 1 := by
  unfold ladA at h
  grind
theorem sum_e (h : sumA s Dg D W a b k = .inl e) : e = 0 ∨ e = 1 := by
  unfold sumA at h
  grind

theorem op11_ (hst : (gl G).stackTraces = false) : op11 G d Inv := fun M hI x1 x2 x3 => by
  obtain ⟨z1, m1, n1, rfl⟩ := i32 x1
  obtain ⟨z2, m2, n2, rfl⟩ := i32 x2
  obtain ⟨z3, m3, n3, rfl⟩ := i32 x3
  obtain ⟨hS, D, J, P, Dg, ⟨⟨a1, a2, a3⟩, _⟩, ⟨⟨g1, g2, g3⟩, _⟩, _, _, s, kb, ra, ca, s1, s2, s3, s4, s5, s6⟩ := id hI
  have D3 : ∀ M1, RF M M1 → mI M1 154 3 = iZ D := fun M1 hF => by rw [hF.2.2.2.2.2 3 (by decide)]; exact a2
  have D6 : ∀ M1, RF M M1 → mI M1 154 6 = iZ Dg := fun M1 hF => by rw [hF.2.2.2.2.2 6 (by decide)]; exact g2
  have e0 := c194 (G := G) (d := d + 52) (M := M) (s := s) (D := D) (U := z1) (W := z2) (K := z3) hst hS s1 s3 a1 (by omega) (by omega) m1 n1 m2 n2 m3 n3
  have e0' : Ev G (d + 59) 194 [aR (some 61), aI (iZ z1), aI (iZ z2), aI (iZ z3)] M 18 (rI fun v M' => FL M M' ∧ ∃ z, toldA s D z1 z2 z3 = .inr z ∧ v = iZ z) (fun e M' => FL M M' ∧ toldA s D z1 z2 z3 = .inl e) := Ev_post e0 (fun r M' ⟨v, hv, hM, h⟩ => ⟨v, hv, by rw [hM]; exact FL_rfl, h⟩) (fun e M' ⟨hM, h⟩ => ⟨by rw [hM]; exact FL_rfl, h⟩)
  have e1 := c241 (G := G) (d := d + 58) hst hS e0' (fun v M' h => FL_S h.1 hS) (fun e M' h => told_e h.2)
  exact rd_m hI (by decide) e1 (fun M1 hF => c75 (G := G) (d := d + 54) hst (RF_S hF hS) s1 (MSn_GJ (RF_GJ hF) s4) (D3 M1 hF) (by omega) (by omega) m1 n1 m2 n2 m3 n3)

theorem op12_ (hst : (gl G).stackTraces = false) : op12 G d Inv := fun M hI x1 x2 x3 => by
  obtain ⟨z1, m1, n1, rfl⟩ := i32 x1
  obtain ⟨z2, m2, n2, rfl⟩ := i32 x2
  obtain ⟨z3, m3, n3, rfl⟩ := i32 x3
  obtain ⟨hS, D, J, P, Dg, ⟨⟨a1, a2, a3⟩, _⟩, ⟨⟨g1, g2, g3⟩, _⟩, _, _, s, kb, ra, ca, s1, s2, s3, s4, s5, s6⟩ := id hI
  have D3 : ∀ M1, RF M M1 → mI M1 154 3 = iZ D := fun M1 hF => by rw [hF.2.2.2.2.2 3 (by decide)]; exact a2
  have D6 : ∀ M1, RF M M1 → mI M1 154 6 = iZ Dg := fun M1 hF => by rw [hF.2.2.2.2.2 6 (by decide)]; exact g2
  have e0 := c195 (G := G) (d := d + 52) (M := M) (s := s) (D := D) (U := z1) (W := z2) (K := z3) hst hS s1 s3 a1 (by omega) (by omega) m1 n1 m2 n2 m3 n3
  have e0' : Ev G (d + 59) 195 [aR (some 61), aI (iZ z1), aI (iZ z2), aI (iZ z3)] M 18 (rI fun v M' => FL M M' ∧ ∃ z, tookA s D z1 z2 z3 = .inr z ∧ v = iZ z) (fun e M' => FL M M' ∧ tookA s D z1 z2 z3 = .inl e) := Ev_post e0 (fun r M' ⟨v, hv, hM, h⟩ => ⟨v, hv, by rw [hM]; exact FL_rfl, h⟩) (fun e M' ⟨hM, h⟩ => ⟨by rw [hM]; exact FL_rfl, h⟩)
  have e1 := c242 (G := G) (d := d + 58) hst hS e0' (fun v M' h => FL_S h.1 hS) (fun e M' h => took_e h.2)
  exact rd_m hI (by decide) e1 (fun M1 hF => c76 (G := G) (d := d + 54) hst (RF_S hF hS) s1 (MSn_GJ (RF_GJ hF) s4) (D3 M1 hF) (by omega) (by omega) m1 n1 m2 n2 m3 n3)

theorem op23_ (hst : (gl G).stackTraces = false) : op23 G d Inv := fun M hI x1 x2 x3 => by
  obtain ⟨z1, m1, n1, rfl⟩ := i32 x1
  obtain ⟨z2, m2, n2, rfl⟩ := i32 x2
  obtain ⟨z3, m3, n3, rfl⟩ := i32 x3
  obtain ⟨hS, D, J, P, Dg, ⟨⟨a1, a2, a3⟩, _⟩, ⟨⟨g1, g2, g3⟩, _⟩, _, _, s, kb, ra, ca, s1, s2, s3, s4, s5, s6⟩ := id hI
  have D3 : ∀ M1, RF M M1 → mI M1 154 3 = iZ D := fun M1 hF => by rw [hF.2.2.2.2.2 3 (by decide)]; exact a2
  have D6 : ∀ M1, RF M M1 → mI M1 154 6 = iZ Dg := fun M1 hF => by rw [hF.2.2.2.2.2 6 (by decide)]; exact g2
  have e0 := c231 (G := G) (d := d + 53) (M := M) (s := s) (D := D) (U := z1) (W := z2) (K := z3) hst hS s1 s3 a1 (by omega) (by omega) m1 n1 m2 n2 m3 n3
  have e0' : Ev G (d + 59) 231 [aR (some 61), aI (iZ z1), aI (iZ z2), aI (iZ z3)] M 18 (rI fun v M' => FL M M' ∧ ∃ z, luckA s D z1 z2 z3 = .inr z ∧ v = iZ z) (fun e M' => FL M M' ∧ luckA s D z1 z2 z3 = .inl e) := Ev_post e0 (fun r M' ⟨v, hv, hM, h⟩ => ⟨v, hv, by rw [hM]; exact FL_rfl, h⟩) (fun e M' ⟨hM, h⟩ => ⟨by rw [hM]; exact FL_rfl, h⟩)
  have e1 := c252 (G := G) (d := d + 58) hst hS e0' (fun v M' h => FL_S h.1 hS) (fun e M' h => luck_e h.2)
  exact rd_m hI (by decide) e1 (fun M1 hF => c97 (G := G) (d := d + 54) hst (RF_S hF hS) s1 (MSn_GJ (RF_GJ hF) s4) (D3 M1 hF) (by omega) (by omega) m1 n1 m2 n2 m3 n3)

theorem op15_ (hst : (gl G).stackTraces = false) : op15 G d Inv := fun M hI x1 x2 x3 x4 => by
  obtain ⟨z1, m1, n1, rfl⟩ := i32 x1
  obtain ⟨z2, m2, n2, rfl⟩ := i32 x2
  obtain ⟨z3, m3, n3, rfl⟩ := i32 x3
  obtain ⟨z4, m4, n4, rfl⟩ := i32 x4
  obtain ⟨hS, D, J, P, Dg, ⟨⟨a1, a2, a3⟩, _⟩, ⟨⟨g1, g2, g3⟩, _⟩, _, _, s, kb, ra, ca, s1, s2, s3, s4, s5, s6⟩ := id hI
  have D3 : ∀ M1, RF M M1 → mI M1 154 3 = iZ D := fun M1 hF => by rw [hF.2.2.2.2.2 3 (by decide)]; exact a2
  have D6 : ∀ M1, RF M M1 → mI M1 154 6 = iZ Dg := fun M1 hF => by rw [hF.2.2.2.2.2 6 (by decide)]; exact g2
  have e0 := c208 (G := G) (d := d + 53) (M := M) (s := s) (D := D) hst hS s1 s3 a1 (by omega) (by omega) m1 n1 m2 n2 m3 n3 m4 n4
  have e1 := c245 (G := G) (d := d + 58) hst hS e0 (fun v M' h => FL_S h.1 hS) (fun e M' h => lad_e h.2)
  exact rd_m hI (by decide) e1 (fun M1 hF => c81 (G := G) (d := d + 53) hst (RF_S hF hS) s1 (MSn_GJ (RF_GJ hF) s4) (D6 M1 hF) g3 s5 (D3 M1 hF) (by omega) (by omega) m1 n1 m2 n2 m3 n3 m4 n4)

theorem op16_ (hst : (gl G).stackTraces = false) : op16 G d Inv := fun M hI x1 x2 x3 x4 => by
  obtain ⟨z1, m1, n1, rfl⟩ := i32 x1
  obtain ⟨z2, m2, n2, rfl⟩ := i32 x2
  obtain ⟨z3, m3, n3, rfl⟩ := i32 x3
  obtain ⟨z4, m4, n4, rfl⟩ := i32 x4
  obtain ⟨hS, D, J, P, Dg, ⟨⟨a1, a2, a3⟩, _⟩, ⟨⟨g1, g2, g3⟩, _⟩, _, _, s, kb, ra, ca, s1, s2, s3, s4, s5, s6⟩ := id hI
  have D3 : ∀ M1, RF M M1 → mI M1 154 3 = iZ D := fun M1 hF => by rw [hF.2.2.2.2.2 3 (by decide)]; exact a2
  have D6 : ∀ M1, RF M M1 → mI M1 154 6 = iZ Dg := fun M1 hF => by rw [hF.2.2.2.2.2 6 (by decide)]; exact g2
  have e0 := c209 (G := G) (d := d + 53) (M := M) (s := s) (D := D) hst hS s1 s3 (Dg := Dg) g1 (by omega) (by omega) a1 (by omega) (by omega) m1 n1 m2 n2 m3 n3 m4 n4
  have e1 := c246 (G := G) (d := d + 58) hst hS e0 (fun v M' h => FL_S h.1 hS) (fun e M' h => sum_e h.2)
  exact rd_m hI (by decide) e1 (fun M1 hF => c82 (G := G) (d := d + 53) hst (RF_S hF hS) s1 (MSn_GJ (RF_GJ hF) s4) (D6 M1 hF) g3 (D3 M1 hF) (by omega) (by omega) m1 n1 m2 n2 m3 n3 m4 n4)

end
/-! The calls that tell, and change nothing. -/
section
variable {G : GE} {d u kc kr : Nat} {M M' : Mem} {cargs rargs : List AV} {k0 k1 : Int} {q : Int32 → Mem → Prop} {qj : Int64 → Mem → Prop} {qx : QX}
/-- what the reference tells: an answer, or a code -/
def rQ (M : Mem) (R : Nat ⊕ Int32 → Prop) : QR := rI fun v M' => RF M M' ∧ mJ M' 221 = mJ M 221 ∧ ((∃ e : Nat, R (.inl e) ∧ mI M' 154 2 = iZ ((e + 1 : Nat) : Int)) ∨ (R (.inr v) ∧ mI M' 154 2 = iZ 0))
def rQJ (M : Mem) (R : Nat ⊕ Int64 → Prop) : QR := rJ fun v M' => RF M M' ∧ mJ M' 221 = mJ M 221 ∧ ((∃ e : Nat, R (.inl e) ∧ mI M' 154 2 = iZ ((e + 1 : Nat) : Int)) ∨ (R (.inr v) ∧ mI M' 154 2 = iZ 0))
theorem rd_I {R : Nat ⊕ Int32 → Prop} (hI : Inv M) (hu : u ≤ 740) (one : ∀ a b, R a → R b → a = b) (e1 : Ev G (d + 60) kc cargs M u (rI (wI q qx k0 k1)) nX) (hq : ∀ v M', q v M' → RF M M' ∧ R (.inr v)) (h0 : ∀ M', qx 0 M' → RF M M' ∧ ∃ e : Nat, R (.inl e) ∧ e ≤ 1 ∧ k0 = ((e + 1 : Nat) : Int)) (h1 : ∀ M', qx 1 M' → RF M M' ∧ ∃ e : Nat, R (.inl e) ∧ e ≤ 1 ∧ k1 = ((e + 1 : Nat) : Int)) (e2 : ∀ M1, RF M M1 → Ev G (d + 60) kr rargs M1 0 (rQ M1 R) nX) : ∃ u, u ≤ 740 ∧ Ev G (d + 60) kc cargs M u (rI fun c M1 => Static M1 ∧ (c = iZ 0 ∨ c = iZ 1 ∨ c = iZ 2) ∧ Ev G (d + 60) kr rargs M1 0 (rI fun v M2 => okI Inv c v M2) nX) nX := by
  refine ⟨u, hu, Ev_post e1 (fun r M1 ⟨c, hr, hw⟩ => ⟨c, hr, ?_⟩) (fun _ _ h => h)⟩
  have thr : ∀ (e : Nat), RF M M1 → R (.inl e) → e ≤ 1 → c = iZ ((e + 1 : Nat) : Int) → Static M1 ∧ (c = iZ 0 ∨ c = iZ 1 ∨ c = iZ 2) ∧ Ev G (d + 60) kr rargs M1 0 (rI fun v M2 => okI Inv c v M2) nX := fun e hF hR he hc => by
    refine ⟨RF_S hF hI.1, ?_, Ev_post (e2 M1 hF) (fun r M2 ⟨v, hr, hF2, hJ, h⟩ => ⟨v, hr, RF_S hF2 (RF_S hF hI.1), ?_, fun h => absurd (hc.symm.trans h) ?_, Inv_RF hF2 (Inv_RF hF hI)⟩) (fun _ _ h => h)⟩
    · have : e = 0 ∨ e = 1 := by omega
      rcases this with rfl | rfl
      · exact Or.inr (Or.inl hc)
      · exact Or.inr (Or.inr hc)
    · rcases h with ⟨e', hR', h2⟩ | ⟨hR', _⟩
      · have := one _ _ hR hR'
        cases this
        rw [h2, hc]
      · cases one _ _ hR hR'
    · have : e = 0 ∨ e = 1 := by omega
      rcases this with rfl | rfl <;> decide
  rcases hw with ⟨rfl, v, M0, hw, hM⟩ | ⟨hc, hw⟩ | ⟨hc, hw⟩
  · obtain ⟨hF, hR⟩ := hq v M0 hw
    have hF1 : RF M M1 := by rw [hM]; exact RF_tr hF RF_221
    refine ⟨RF_S hF1 hI.1, Or.inl rfl, Ev_post (e2 M1 hF1) (fun r M2 ⟨v2, hr2, hF2, hJ, h⟩ => ⟨v2, hr2, ?_⟩) (fun _ _ h => h)⟩
    rcases h with ⟨e', hR', h2⟩ | ⟨hR', h2⟩
    · cases one _ _ hR hR'
    · cases one _ _ hR hR'
      exact okI_ (Inv_RF hF2 (Inv_RF hF1 hI)) h2 (fun _ => ⟨hM, rfl, hJ⟩)
  · obtain ⟨hF, e, hR, he, rfl⟩ := h0 M1 hw
    exact thr e hF hR he hc
  · obtain ⟨hF, e, hR, he, rfl⟩ := h1 M1 hw
    exact thr e hF hR he hc
theorem rd_J {R : Nat ⊕ Int64 → Prop} (hI : Inv M) (hu : u ≤ 740) (one : ∀ a b, R a → R b → a = b) (e1 : Ev G (d + 60) kc cargs M u (rI (wJ qj qx k0 k1)) nX) (hq : ∀ v M', qj v M' → RF M M' ∧ R (.inr v)) (h0 : ∀ M', qx 0 M' → RF M M' ∧ ∃ e : Nat, R (.inl e) ∧ e ≤ 1 ∧ k0 = ((e + 1 : Nat) : Int)) (h1 : ∀ M', qx 1 M' → RF M M' ∧ ∃ e : Nat, R (.inl e) ∧ e ≤ 1 ∧ k1 = ((e + 1 : Nat) : Int)) (e2 : ∀ M1, RF M M1 → Ev G (d + 60) kr rargs M1 0 (rQJ M1 R) nX) : ∃ u, u ≤ 740 ∧ Ev G (d + 60) kc cargs M u (rI fun c M1 => Static M1 ∧ (c = iZ 0 ∨ c = iZ 1 ∨ c = iZ 2) ∧ Ev G (d + 60) kr rargs M1 0 (rJ fun v M2 => okJ Inv c v M2) nX) nX := by
  refine ⟨u, hu, Ev_post e1 (fun r M1 ⟨c, hr, hw⟩ => ⟨c, hr, ?_⟩) (fun _ _ h => h)⟩
  have thr : ∀ (e : Nat), RF M M1 → R (.inl e) → e ≤ 1 → c = iZ ((e + 1 : Nat) : Int) → Static M1 ∧ (c = iZ 0 ∨ c = iZ 1 ∨ c = iZ 2) ∧ Ev G (d + 60) kr rargs M1 0 (rJ fun v M2 => okJ Inv c v M2) nX := fun e hF hR he hc => by
    refine ⟨RF_S hF hI.1, ?_, Ev_post (e2 M1 hF) (fun r M2 ⟨v, hr, hF2, hJ, h⟩ => ⟨v, hr, RF_S hF2 (RF_S hF hI.1), ?_, fun h => absurd (hc.symm.trans h) ?_, Inv_RF hF2 (Inv_RF hF hI)⟩) (fun _ _ h => h)⟩
    · have : e = 0 ∨ e = 1 := by omega
      rcases this with rfl | rfl
      · exact Or.inr (Or.inl hc)
      · exact Or.inr (Or.inr hc)
    · rcases h with ⟨e', hR', h2⟩ | ⟨hR', _⟩
      · have := one _ _ hR hR'
        cases this
        rw [h2, hc]
      · cases one _ _ hR hR'
    · have : e = 0 ∨ e = 1 := by omega
      rcases this with rfl | rfl <;> decide
  rcases hw with ⟨rfl, v, M0, hw, hM⟩ | ⟨hc, hw⟩ | ⟨hc, hw⟩
  · obtain ⟨hF, hR⟩ := hq v M0 hw
    have hF1 : RF M M1 := by rw [hM]; exact RF_tr hF RF_221
    refine ⟨RF_S hF1 hI.1, Or.inl rfl, Ev_post (e2 M1 hF1) (fun r M2 ⟨v2, hr2, hF2, hJ, h⟩ => ⟨v2, hr2, ?_⟩) (fun _ _ h => h)⟩
    rcases h with ⟨e', hR', h2⟩ | ⟨hR', h2⟩
    · cases one _ _ hR hR'
    · cases one _ _ hR hR'
      exact ⟨RF_S hF2 (RF_S hF1 hI.1), h2, fun _ => by rw [hJ, an221 hM], Inv_RF hF2 (Inv_RF hF1 hI)⟩
  · obtain ⟨hF, e, hR, he, rfl⟩ := h0 M1 hw
    exact thr e hF hR he hc
  · obtain ⟨hF, e, hR, he, rfl⟩ := h1 M1 hw
    exact thr e hF hR he hc
/-- what a pure answer tells -/
def rOf (r : Nat ⊕ Int) : Nat ⊕ Int32 → Prop
  | .inl e => r = .inl e
  | .inr v => ∃ z, r = .inr z ∧ v = iZ z
theorem rOf_one {r : Nat ⊕ Int} : ∀ a b, rOf r a → rOf r b → a = b := by
  intro a b
  cases r <;> cases a <;> cases b <;> simp [rOf] <;> grind
theorem rQ_m {r : Nat ⊕ Int} {x : Option AV} (h : mQ M r x M') : rQ M (rOf r) x M' := by
  obtain ⟨v, hv, hF, h⟩ := h
  refine ⟨v, hv, RF_FA hF, by rw [hF.2.2.2.1], ?_⟩
  rcases h with ⟨e, h1, h2⟩ | ⟨z, h1, h2, h3⟩
  · exact Or.inl ⟨e, h1, h2⟩
  · exact Or.inr ⟨⟨z, h1, h2⟩, h3⟩
/-- told, took, luck, ladder, sum -/
theorem rd_m {r : Nat ⊕ Int} (hI : Inv M) (hu : u ≤ 740) (e1 : Ev G (d + 60) kc cargs M u (rI (wI (fun v M' => FL M M' ∧ ∃ z, r = .inr z ∧ v = iZ z) (fun e M' => FL M M' ∧ r = .inl e) 1 2)) nX) (e2 : ∀ M1, RF M M1 → Ev G (d + 60) kr rargs M1 0 (mQ M1 r) nX) : ∃ u, u ≤ 740 ∧ Ev G (d + 60) kc cargs M u (rI fun c M1 => Static M1 ∧ (c = iZ 0 ∨ c = iZ 1 ∨ c = iZ 2) ∧ Ev G (d + 60) kr rargs M1 0 (rI fun v M2 => okI Inv c v M2) nX) nX :=
  rd_I (R := rOf r) hI hu rOf_one e1 (fun v M' h => ⟨RF_FL h.1, h.2⟩) (fun M' h => ⟨RF_FL h.1, 0, h.2, by decide, rfl⟩) (fun M' h => ⟨RF_FL h.1, 1, h.2, by decide, rfl⟩) (fun M1 hF => Ev_post (e2 M1 hF) (fun r M' h => rQ_m h) (fun _ _ h => h))
end

/-! What both sides keep alike. -/
section
variable {G : GE} {d : Nat} {M M' : Mem}
/-- today, judges, handlers -/
def IvC (M : Mem) (D J P : Nat) : Prop := (mI M 61 0 = iZ D ∧ mI M 154 3 = iZ D ∧ D ≤ 999) ∧ (mI M 61 1 = iZ J ∧ mI M 154 4 = iZ J ∧ J ≤ 6) ∧ mI M 61 2 = iZ P ∧ mI M 154 5 = iZ P ∧ P ≤ 12
/-- the dogs -/
def IvD (M : Mem) (Dg : Nat) : Prop := (mI M 62 0 = iZ Dg ∧ mI M 154 6 = iZ Dg ∧ Dg ≤ 24) ∧ (∃ H : Nat → Nat, ∀ j, j < 24 → H j < 12 ∧ mI M 63 j = iZ (H j) ∧ mI M 157 j = iZ (H j)) ∧ (∀ i, i < Dg → ∃ s t : Int, ((s = -1 ∨ 0 ≤ s ∧ s < i) ∧ (t = -1 ∨ 0 ≤ t ∧ t < i)) ∧ (mI M 64 i = iZ s ∧ mI M 158 i = iZ s) ∧ mI M 65 i = iZ t ∧ mI M 159 i = iZ t) ∧ KN M Dg
/-- the text, and where a text was refused -/
def IvT (M : Mem) : Prop := (∃ (T : Nat) (B : Nat → Nat), mI M 91 0 = iZ T ∧ mI M 154 12 = iZ T ∧ T ≤ 600 ∧ ∀ j, j < T → B j < 256 ∧ mI M 92 j = iZ (B j) ∧ mI M 93 j = iZ (kd (B j)) ∧ mI M 161 j = iZ (B j)) ∧ mI M 91 3 = mI M 154 22
/-- the list, and what is drawn -/
def IvL (M : Mem) : Prop := (∃ (n : Nat) (L : Nat → Nat), mI M 146 0 = iZ n ∧ mI M 154 66 = iZ n ∧ n ≤ 8 ∧ ∀ i, i < n → L i < 24 ∧ mI M 148 i = iZ (L i) ∧ mI M 199 i = iZ (L i)) ∧ ∃ n : Nat, mI M 146 1 = iZ n ∧ mI M 154 67 = iZ n ∧ n ≤ 8 ∧ ∀ i, i < n → mI M 147 i = mI M 200 i
/-- rules, trials, runs, cards, protests -/
def IvS (M : Mem) (Dg J : Nat) : Prop := ∃ (s : Sn) (kb ra ca : Nat → Nat), Sok s ∧ Dj s kb ∧ CSn M s kb ra ca ∧ MSn M s ∧ (∀ u, u < nRn s → uDg s u < Dg) ∧ ∀ i, i < nTl s → (eTl s i).2.2 < J
def Inv (M : Mem) : Prop := Static M ∧ ∃ D J P Dg : Nat, IvC M D J P ∧ IvD M Dg ∧ IvT M ∧ IvL M ∧ IvS M Dg J
theorem Inv_first (h : Bd M 222 183 2) : Inv M := by
  have z := fun c j (h1 : 61 ≤ c) (h2 : c < 222) (h3 : ¬ (c = 91 ∧ j = 3) ∧ ¬ (c = 154 ∧ j = 22)) => Bd_0 h h1 h2 h3
  obtain ⟨a1, a2⟩ := Bd_1 h
  refine ⟨Bd_S h, 0, 0, 0, 0, ⟨⟨z 61 0 (by decide) (by decide) (by decide), z 154 3 (by decide) (by decide) (by decide), by decide⟩, ⟨z 61 1 (by decide) (by decide) (by decide), z 154 4 (by decide) (by decide) (by decide), by decide⟩, z 61 2 (by decide) (by decide) (by decide), z 154 5 (by decide) (by decide) (by decide), by decide⟩, ⟨⟨z 62 0 (by decide) (by decide) (by decide), z 154 6 (by decide) (by decide) (by decide), by decide⟩, ⟨fun _ => 0, fun j _ => ⟨Nat.zero_lt_succ 11, z 63 j (by decide) (by decide) (by omega), z 157 j (by decide) (by decide) (by omega)⟩⟩, fun i hi => absurd hi (by omega), KN_0⟩, ⟨⟨0, fun _ => 0, z 91 0 (by decide) (by decide) (by decide), z 154 12 (by decide) (by decide) (by decide), by decide, fun j hj => absurd hj (by omega)⟩, by rw [a1, a2]⟩, ⟨⟨0, fun _ => 0, z 146 0 (by decide) (by decide) (by decide), z 154 66 (by decide) (by decide) (by decide), by decide, fun j hj => absurd hj (by omega)⟩, 0, z 146 1 (by decide) (by decide) (by decide), z 154 67 (by decide) (by decide) (by decide), by decide, fun j hj => absurd hj (by omega)⟩, ?_⟩
  have no : ∀ {p : Prop} {i : Nat}, i < 0 → p := fun h => absurd h (by omega)
  refine ⟨((0, fun _ => bk0), (0, fun _ => (0, 0, 0)), (0, fun _ => (0, 0, 0, 0)), (0, fun _ => (0, 0, [], 0, false)), (0, fun _ => (0, 0, 0, 0))), fun _ => 0, fun _ => 0, fun _ => 0, ?_, fun i j _ hj => no hj, ?_, ?_, fun u hu => no hu, fun i hi => no hi⟩
  · exact ⟨⟨by decide, fun i hi => no hi⟩, ⟨by decide, fun i hi => no hi⟩, ⟨by decide, fun i hi => no hi⟩, ⟨by decide, fun i hi => no hi⟩, by decide, fun i hi => no hi⟩
  · exact ⟨⟨z 61 6 (by decide) (by decide) (by decide), fun i hi => no hi⟩, ⟨z 97 0 (by decide) (by decide) (by decide), fun i hi => no hi⟩, ⟨z 97 4 (by decide) (by decide) (by decide), fun i hi => no hi⟩, ⟨z 97 6 (by decide) (by decide) (by decide), fun i hi => no hi⟩, z 97 7 (by decide) (by decide) (by decide), fun i hi => no hi⟩
  · exact ⟨⟨z 154 24 (by decide) (by decide) (by decide), fun i hi => no hi⟩, ⟨z 154 42 (by decide) (by decide) (by decide), fun i hi => no hi⟩, ⟨z 154 43 (by decide) (by decide) (by decide), fun i hi => no hi⟩, ⟨z 154 44 (by decide) (by decide) (by decide), fun i hi => no hi⟩, z 154 45 (by decide) (by decide) (by decide), fun i hi => no hi⟩
end

/-! Places in a LADDER: there is just one dog at each (mathematics alone). -/
section
variable {S Gr Gm : Nat → Int} {P : Int}
theorem sN_one {f : Nat → Int} {m : Nat} : ∀ n, sN (fun j => f j) n = sN (fun j => if j = m then 0 else f j) n + if m < n then f m else 0
  | 0 => rfl
  | n + 1 => by
    have ih := sN_one (f := f) (m := m) n
    show sN (fun j => f j) n + f n = sN _ n + (if n = m then 0 else f n) + _
    rw [ih]
    by_cases z : n = m
    · subst z; rw [if_neg (by omega), if_pos rfl, if_pos (by omega)]; all_goals omega
    · rw [if_neg z]
      by_cases y : m < n
      · rw [if_pos y, if_pos (by omega)]; omega
      · rw [if_neg y, if_neg (by omega)]; omega
theorem fnd_no {Q : Nat → Prop} : ∀ n i, (∀ j, i ≤ j → j < i + n → ¬ Q j) → fnd Q i n = -1
  | 0, _, _ => rfl
  | n + 1, i, h => by
    have e : fnd Q i (n + 1) = fnd Q (i + 1) n := if_neg (h i (Nat.le_refl _) (by omega))
    rw [e]
    exact fnd_no n (i + 1) (fun j h1 h2 => h j (by omega) (by omega))
theorem fnd_yes {Q : Nat → Prop} : ∀ n i j, i ≤ j → j < i + n → Q j → 0 ≤ fnd Q i n
  | 0, i, j, h1, h2, _ => by omega
  | n + 1, i, j, h1, h2, h => by
    by_cases z : Q i
    · have e : fnd Q i (n + 1) = i := if_pos z
      rw [e]; omega
    · have e : fnd Q i (n + 1) = fnd Q (i + 1) n := if_neg z
      rw [e]
      by_cases y : j = i
      · subst y; exact absurd h z
      · exact fnd_yes n (i + 1) j (by omega) (by omega) h
theorem fnd_congr {Q R : Nat → Prop} : ∀ n i, (∀ j, i ≤ j → j < i + n → (Q j ↔ R j)) → fnd Q i n = fnd R i n
  | 0, _, _ => rfl
  | n + 1, i, h => by
    have ih := fnd_congr n (i + 1) (fun j h1 h2 => h j (by omega) (by omega))
    have hi := h i (Nat.le_refl _) (by omega)
    by_cases z : Q i
    · rw [show fnd Q i (n + 1) = i from if_pos z, show fnd R i (n + 1) = i from if_pos (hi.mp z)]
    · rw [show fnd Q i (n + 1) = fnd Q (i + 1) n from if_neg z, show fnd R i (n + 1) = fnd R (i + 1) n from if_neg (fun y => z (hi.mpr y)), ih]
theorem fnd_app {Q : Nat → Prop} : ∀ n m i, (∀ j, i + n ≤ j → j < i + n + m → ¬ Q j) → fnd Q i (n + m) = fnd Q i n
  | 0, m, i, h => by
    rw [Nat.zero_add]
    exact fnd_no m i (fun j h1 h2 => h j (by omega) (by omega))
  | n + 1, m, i, h => by
    rw [show n + 1 + m = (n + m) + 1 by omega]
    have ih := fnd_app n m (i + 1) (fun j h1 h2 => h j (by omega) (by omega))
    by_cases z : Q i
    · rw [show fnd Q i ((n + m) + 1) = i from if_pos z, show fnd Q i (n + 1) = i from if_pos z]
    · rw [show fnd Q i ((n + m) + 1) = fnd Q (i + 1) (n + m) from if_neg z, show fnd Q i (n + 1) = fnd Q (i + 1) n from if_neg z, ih]
theorem hgh_irr (j : Nat) : ¬ hgh S Gr j j := by unfold hgh; simp
theorem hgh_tot {o j : Nat} (h : o ≠ j) : hgh S Gr o j ∨ hgh S Gr j o := by
  unfold hgh
  grind
theorem hgh_asy {o j : Nat} (h : hgh S Gr o j) : ¬ hgh S Gr j o := by
  unfold hgh at *
  by_cases e1 : S o = S j
  · rw [if_neg (fun z => z e1)] at h
    rw [if_neg (fun z => z e1.symm)]
    by_cases e2 : Gr o = Gr j
    · rw [if_neg (fun z => z e2)] at h
      rw [if_neg (fun z => z e2.symm)]; omega
    · rw [if_pos e2] at h
      rw [if_pos (fun z => e2 z.symm)]; omega
  · rw [if_pos e1] at h
    rw [if_pos (fun z => e1 z.symm)]; omega
theorem hgh_tr {o j i : Nat} (h : hgh S Gr o j) (h' : hgh S Gr j i) : hgh S Gr o i := by
  unfold hgh at *
  by_cases e1 : S o = S j <;> by_cases e2 : S j = S i
  · have e3 : S o = S i := e1.trans e2
    rw [if_neg (fun z => z e1)] at h
    rw [if_neg (fun z => z e2)] at h'
    rw [if_neg (fun z => z e3)]
    by_cases g1 : Gr o = Gr j <;> by_cases g2 : Gr j = Gr i
    · rw [if_neg (fun z => z g1)] at h
      rw [if_neg (fun z => z g2)] at h'
      rw [if_neg (fun z => z (g1.trans g2))]; omega
    · rw [if_pos g2] at h'
      rw [if_pos (fun z => g2 (g1.symm.trans z))]; omega
    · rw [if_pos g1] at h
      rw [if_pos (fun z => g1 (z.trans g2.symm))]; omega
    · rw [if_pos g1] at h
      rw [if_pos g2] at h'
      rw [if_pos (by omega)]; omega
  · rw [if_pos e2] at h'
    rw [if_pos (by omega)]; omega
  · rw [if_pos e1] at h
    rw [if_pos (by omega)]; omega
  · rw [if_pos e1] at h
    rw [if_pos e2] at h'
    rw [if_pos (by omega)]; omega
/-- the lowest of some -/
theorem low_ex {Q : Nat → Prop} : ∀ n, (∃ j, j < n ∧ Q j) → ∃ m, m < n ∧ Q m ∧ ∀ o, o < n → Q o → o ≠ m → hgh S Gr o m
  | 0, ⟨j, h, _⟩ => by omega
  | n + 1, ⟨j, hj, hq⟩ => by
    by_cases z : ∃ j, j < n ∧ Q j
    · obtain ⟨m, h1, h2, h3⟩ := low_ex n z
      by_cases y : Q n
      · rcases hgh_tot (S := S) (Gr := Gr) (o := n) (j := m) (by omega) with w | w
        · refine ⟨m, by omega, h2, fun o ho hqo hne => ?_⟩
          by_cases x : o = n
          · subst x; exact w
          · exact h3 o (by omega) hqo hne
        · refine ⟨n, by omega, y, fun o ho hqo hne => ?_⟩
          by_cases x : o = m
          · subst x; exact w
          · exact hgh_tr (h3 o (by omega) hqo x) w
      · refine ⟨m, by omega, h2, fun o ho hqo hne => ?_⟩
        by_cases x : o = n
        · subst x; exact absurd hqo y
        · exact h3 o (by omega) hqo hne
    · have : j = n := by
        by_cases y : j = n
        · exact y
        · exact absurd ⟨j, by omega, hq⟩ z
      subst this
      refine ⟨j, by omega, hq, fun o ho hqo hne => absurd ⟨o, by omega, hqo⟩ z⟩
noncomputable def rkQ (S Gr : Nat → Int) (Q : Nat → Prop) (n j : Nat) : Int := sN (fun o => ind (Q o ∧ hgh S Gr o j)) n
noncomputable def szQ (Q : Nat → Prop) (n : Nat) : Int := sN (fun o => ind (Q o)) n
theorem szQ_rm {Q : Nat → Prop} {n m : Nat} (hm : m < n) (hq : Q m) : szQ Q n = szQ (fun o => Q o ∧ o ≠ m) n + 1 := by
  unfold szQ
  rw [sN_one (f := fun o => ind (Q o)) (m := m) n, if_pos hm, ind_t hq]
  congr 1
  refine sN_congr n (fun o _ => ?_)
  by_cases z : o = m
  · rw [if_pos z, ind_f (fun y => y.2 z)]
  · rw [if_neg z]; exact ind_iff ⟨fun y => ⟨y, z⟩, fun y => y.1⟩
theorem rk_ex : ∀ (N : Nat) (Q : Nat → Prop) (n : Nat), szQ Q n = N → ∀ P : Int, 0 ≤ P → P < N → ∃ j, j < n ∧ Q j ∧ rkQ S Gr Q n j = P
  | 0, Q, n, _, P, h1, h2 => by omega
  | N + 1, Q, n, hN, P, h1, h2 => by
    have hex : ∃ j, j < n ∧ Q j := by
      apply Classical.byContradiction
      intro h
      have : szQ Q n = 0 := by
        have e : szQ Q n = sN (fun _ => 0) n := sN_congr n (fun o ho => ind_f (fun y => h ⟨o, ho, y⟩))
        have b := sN_b (f := fun _ => 0) (a := 0) (b := 0) n (fun _ _ => ⟨Int.le_refl _, Int.le_refl _⟩)
        omega
      omega
    obtain ⟨m, m1, m2, m3⟩ := low_ex (S := S) (Gr := Gr) n hex
    have hs := szQ_rm m1 m2
    by_cases z : P = N
    · refine ⟨m, m1, m2, ?_⟩
      have e : rkQ S Gr Q n m = szQ (fun o => Q o ∧ o ≠ m) n := by
        refine sN_congr n (fun o ho => ind_iff ?_)
        constructor
        · rintro ⟨a, b⟩
          exact ⟨a, fun w => hgh_irr m (w ▸ b)⟩
        · rintro ⟨a, b⟩
          exact ⟨a, m3 o ho a b⟩
      omega
    · obtain ⟨j, j1, j2, j3⟩ := rk_ex N (fun o => Q o ∧ o ≠ m) n (by omega) P h1 (by omega)
      refine ⟨j, j1, j2.1, ?_⟩
      rw [← j3]
      refine sN_congr n (fun o ho => ind_iff ?_)
      constructor
      · rintro ⟨a, b⟩
        refine ⟨⟨a, fun w => ?_⟩, b⟩
        subst w
        exact hgh_asy (m3 j j1 j2.1 j2.2) b
      · rintro ⟨a, b⟩
        exact ⟨a.1, b⟩
theorem rk_b {Q : Nat → Prop} {n j : Nat} (hj : j < n) (hq : Q j) : 0 ≤ rkQ S Gr Q n j ∧ rkQ S Gr Q n j < szQ Q n := by
  have b := sN_b (f := fun o => ind (Q o ∧ hgh S Gr o j)) (a := 0) (b := 1) n (fun _ _ => ind_b)
  have hs := szQ_rm hj hq
  have le : ∀ m, sN (fun o => ind (Q o ∧ hgh S Gr o j)) m ≤ sN (fun o => ind (Q o ∧ o ≠ j)) m := by
    intro m
    induction m with
    | zero => exact Int.le_refl _
    | succ m ih =>
      show sN _ m + ind (Q m ∧ hgh S Gr m j) ≤ sN _ m + ind (Q m ∧ m ≠ j)
      have : ind (Q m ∧ hgh S Gr m j) ≤ ind (Q m ∧ m ≠ j) := by
        by_cases z : Q m ∧ hgh S Gr m j
        · rw [ind_t z, ind_t ⟨z.1, fun w => hgh_irr j (w ▸ z.2)⟩]; exact Int.le_refl _
        · rw [ind_f z]; exact ind_b.1
      omega
  have := le n
  unfold rkQ
  have hs' : szQ Q n = sN (fun o => ind (Q o ∧ o ≠ j)) n + 1 := hs
  omega
/-- in a LADDER: a dog's sum is not below 0, one that isn't in it has -1 -/
theorem cAh_rk {n j : Nat} (hn : n ≤ 24) (hb : ∀ j, S j ≠ -1 → 0 ≤ S j) (ho : ∀ j, n ≤ j → S j = -1) (hq : S j ≠ -1) : cAh S Gr j = rkQ S Gr (fun o => S o ≠ -1) n j := by
  have e0 : ∀ o, S o = -1 → ¬ hgh S Gr o j := fun o h => by
    unfold hgh
    rw [h, if_pos (fun z => hq z.symm)]
    have := hb j hq
    omega
  have e : ∀ m, sN (fun o => ind (hgh S Gr o j)) (n + m) = rkQ S Gr (fun o => S o ≠ -1) n j := by
    intro m
    induction m with
    | zero =>
      refine sN_congr n (fun o _ => ind_iff ?_)
      constructor
      · intro h; exact ⟨fun w => e0 o w h, h⟩
      · intro h; exact h.2
    | succ m ih =>
      show sN _ (n + m) + ind (hgh S Gr (n + m) j) = _
      rw [ih, ind_f (e0 _ (ho _ (by omega)))]
      omega
  have := e (24 - n)
  rw [show n + (24 - n) = 24 by omega] at this
  exact this
theorem ldN_sz {n : Nat} (hn : n ≤ 24) (ho : ∀ j, n ≤ j → S j = -1) : ldN S = szQ (fun o => S o ≠ -1) n := by
  have e : ∀ m, sN (fun o => ind (S o ≠ -1)) (n + m) = szQ (fun o => S o ≠ -1) n := by
    intro m
    induction m with
    | zero => rfl
    | succ m ih =>
      show sN _ (n + m) + ind (S (n + m) ≠ -1) = _
      rw [ih, ind_f (fun z => z (ho _ (by omega)))]
      omega
  have := e (24 - n)
  rw [show n + (24 - n) = 24 by omega] at this
  exact this
theorem dgAt_no {n : Nat} (hn : n ≤ 24) (hb : ∀ j, S j ≠ -1 → 0 ≤ S j) (ho : ∀ j, n ≤ j → S j = -1) (hP : ¬ (0 ≤ P ∧ P < ldN S)) : dgAt S Gr P = -1 := by
  refine fnd_no 24 0 (fun j _ _ hq => hP ?_)
  obtain ⟨h1, h2⟩ := hq
  have hj : j < n := by
    by_cases z : j < n
    · exact z
    · exact absurd (ho j (by omega)) h1
  have := rk_b (S := S) (Gr := Gr) (Q := fun o => S o ≠ -1) hj h1
  rw [cAh_rk hn hb ho h1] at h2
  rw [ldN_sz hn ho]
  omega
theorem dgAt_yes {n : Nat} (hn : n ≤ 24) (hb : ∀ j, S j ≠ -1 → 0 ≤ S j) (ho : ∀ j, n ≤ j → S j = -1) (hP : 0 ≤ P ∧ P < ldN S) : dgAt S Gr P ≠ -1 ∧ dgAt S Gr P = fnd (fun j => S j ≠ -1 ∧ rkQ S Gr (fun o => S o ≠ -1) n j = P) 0 n := by
  rw [ldN_sz hn ho] at hP
  obtain ⟨N, hN⟩ : ∃ N : Nat, szQ (fun o => S o ≠ -1) n = N := ⟨(szQ (fun o => S o ≠ -1) n).toNat, by omega⟩
  obtain ⟨j, j1, j2, j3⟩ := rk_ex (S := S) (Gr := Gr) N _ n hN P hP.1 (by omega)
  have hy := fnd_yes (Q := fun j => S j ≠ -1 ∧ cAh S Gr j = P) 24 0 j (by omega) (by omega) ⟨j2, by rw [cAh_rk hn hb ho j2]; exact j3⟩
  have hy : 0 ≤ dgAt S Gr P := hy
  refine ⟨by omega, ?_⟩
  have e := fnd_app (Q := fun j => S j ≠ -1 ∧ cAh S Gr j = P) n (24 - n) 0 (fun j h1 h2 hq => hq.1 (ho j (by omega)))
  rw [show n + (24 - n) = 24 by omega] at e
  show fnd (fun j => S j ≠ -1 ∧ cAh S Gr j = P) 0 24 = _
  rw [e]
  refine fnd_congr n 0 (fun j _ _ => ?_)
  constructor
  · rintro ⟨a, b⟩; exact ⟨a, by rw [← cAh_rk hn hb ho a]; exact b⟩
  · rintro ⟨a, b⟩; exact ⟨a, by rw [cAh_rk hn hb ho a]; exact b⟩
end

/-! Weights between numbers and a ground: what is solved, and that it can be. -/
section
/-- the matrix of weights W with a ground g -/
def lp (V : List Nat) (W : Nat → Nat → Int) (g : Nat → Int) (i j : Nat) : Int := if i = j then g i + sl V (W i) else - W i j
/-- weights are symmetric, none is below 0, none leads to itself -/
def Wt (V : List Nat) (W : Nat → Nat → Int) (g : Nat → Int) : Prop := V.Nodup ∧ (∀ i j, i ∈ V → j ∈ V → W i j = W j i ∧ 0 ≤ W i j) ∧ (∀ i, i ∈ V → W i i = 0) ∧ ∀ i, i ∈ V → 0 ≤ g i
/-- all are joined with the ground -/
def Cn (V : List Nat) (W : Nat → Nat → Int) (g : Nat → Int) : Prop := ∀ S : Nat → Bool, (∃ i, i ∈ V ∧ S i = true) → ∃ i, i ∈ V ∧ S i = true ∧ (0 < g i ∨ ∃ j, j ∈ V ∧ S j = false ∧ 0 < W i j)
def c0 (v : Nat) (V : List Nat) (W : Nat → Nat → Int) (g : Nat → Int) : Int := g v + sl V (W v)
/-- without its first number -/
def wE (v : Nat) (V : List Nat) (W : Nat → Nat → Int) (g : Nat → Int) (i j : Nat) : Int := if i = j then 0 else c0 v V W g * W i j + W i v * W v j
def gE (v : Nat) (V : List Nat) (W : Nat → Nat → Int) (g : Nat → Int) (i : Nat) : Int := c0 v V W g * g i + W i v * g v
section
variable {v : Nat} {V : List Nat} {W : Nat → Nat → Int} {g : Nat → Int}
theorem c0_lp (h : Wt (v :: V) W g) : lp (v :: V) W g v v = c0 v V W g := by
  unfold lp c0
  rw [if_pos rfl]
  show g v + (W v v + sl V (W v)) = _
  rw [h.2.2.1 v List.mem_cons_self]; omega
theorem c0_pos (h : Wt (v :: V) W g) (hc : Cn (v :: V) W g) : 0 < c0 v V W g := by
  obtain ⟨h1, h2, h3, h4⟩ := h
  obtain ⟨i, hi, hs, hr⟩ := hc (fun i => decide (i = v)) ⟨v, List.mem_cons_self, by simp⟩
  have hs := of_decide_eq_true hs
  subst hs
  have hg := h4 i List.mem_cons_self
  have hn : ∀ j, j ∈ V → 0 ≤ W i j := fun j hj => (h2 i j List.mem_cons_self (List.mem_cons_of_mem _ hj)).2
  have hs := sl_nn hn
  unfold c0
  rcases hr with hr | ⟨j, hj, hne, hw⟩
  · omega
  · have hne : ¬ j = i := of_decide_eq_false hne
    have hj : j ∈ V := (List.mem_cons.mp hj).resolve_left hne
    have hle : sl V (fun k => if k = j then W i j else 0) ≤ sl V (W i) := sl_le (fun k hk => by
      by_cases z : k = j
      · subst z; simp
      · rw [if_neg z]; exact hn k hk)
    rw [sl_one (List.nodup_cons.mp h1).2 hj (fun k _ hk => if_neg hk), if_pos rfl] at hle
    omega
theorem Wt_E (h : Wt (v :: V) W g) : Wt V (wE v V W g) (gE v V W g) := by
  obtain ⟨h1, h2, h3, h4⟩ := h
  obtain ⟨n1, n2⟩ := List.nodup_cons.mp h1
  have m := fun i (hi : i ∈ V) => List.mem_cons_of_mem v hi
  have hc : 0 ≤ c0 v V W g := by
    have := h4 v List.mem_cons_self
    have := sl_nn (l := V) (f := W v) (fun j hj => (h2 v j List.mem_cons_self (m j hj)).2)
    unfold c0; omega
  refine ⟨n2, fun i j hi hj => ⟨?_, ?_⟩, fun i _ => if_pos rfl, fun i hi => ?_⟩
  · unfold wE
    by_cases z : i = j
    · subst z; rfl
    · rw [if_neg z, if_neg (fun y => z y.symm), (h2 i j (m i hi) (m j hj)).1, (h2 i v (m i hi) List.mem_cons_self).1, (h2 v j List.mem_cons_self (m j hj)).1, Int.mul_comm (W v i)]
  · unfold wE
    by_cases z : i = j
    · rw [if_pos z]; exact Int.le_refl _
    · rw [if_neg z]
      have a1 := Int.mul_nonneg hc (h2 i j (m i hi) (m j hj)).2
      have a2 := Int.mul_nonneg (h2 i v (m i hi) List.mem_cons_self).2 (h2 v j List.mem_cons_self (m j hj)).2
      omega
  · unfold gE
    have a1 := Int.mul_nonneg hc (h4 i (m i hi))
    have a2 := Int.mul_nonneg (h2 i v (m i hi) List.mem_cons_self).2 (h4 v List.mem_cons_self)
    omega
theorem Cn_E (h : Wt (v :: V) W g) (hc : Cn (v :: V) W g) : Cn V (wE v V W g) (gE v V W g) := by
  have cp := c0_pos h hc
  obtain ⟨h1, h2, h3, h4⟩ := id h
  obtain ⟨n1, n2⟩ := List.nodup_cons.mp h1
  have m := fun i (hi : i ∈ V) => List.mem_cons_of_mem v hi
  intro S ⟨i0, i1, i2⟩
  have hg : ∀ i, i ∈ V → (0 < g i ∨ 0 < W i v * g v) → 0 < gE v V W g i := fun i hi z => by
    have a1 := Int.mul_nonneg (Int.le_of_lt cp) (h4 i (m i hi))
    have a2 := Int.mul_nonneg (h2 i v (m i hi) List.mem_cons_self).2 (h4 v List.mem_cons_self)
    unfold gE
    rcases z with z | z
    · have := Int.mul_pos cp z; omega
    · omega
  have hw : ∀ i j, i ∈ V → j ∈ V → i ≠ j → (0 < W i j ∨ 0 < W i v * W v j) → 0 < wE v V W g i j := fun i j hi hj hne z => by
    have a1 := Int.mul_nonneg (Int.le_of_lt cp) (h2 i j (m i hi) (m j hj)).2
    have a2 := Int.mul_nonneg (h2 i v (m i hi) List.mem_cons_self).2 (h2 v j List.mem_cons_self (m j hj)).2
    unfold wE
    rw [if_neg hne]
    rcases z with z | z
    · have := Int.mul_pos cp z; omega
    · omega
  -- an edge out of S but not to v
  have D : ∀ i, i ∈ V → S i = true → (0 < g i ∨ ∃ j, j ∈ V ∧ S j = false ∧ 0 < W i j) → ∃ i, i ∈ V ∧ S i = true ∧ (0 < gE v V W g i ∨ ∃ j, j ∈ V ∧ S j = false ∧ 0 < wE v V W g i j) := by
    intro i hi hs hr
    refine ⟨i, hi, hs, ?_⟩
    rcases hr with hr | ⟨j, hj, hsj, hr⟩
    · exact Or.inl (hg i hi (Or.inl hr))
    · exact Or.inr ⟨j, hj, hsj, hw i j hi hj (fun z => by rw [z] at hs; rw [hs] at hsj; cases hsj) (Or.inl hr)⟩
  by_cases hv : ∃ i, i ∈ V ∧ S i = true ∧ 0 < W i v
  · obtain ⟨i, hi, hs, hiv⟩ := hv
    obtain ⟨k, hk, ks, kr⟩ := hc (fun j => decide (j = v) || S j) ⟨v, List.mem_cons_self, by simp⟩
    by_cases kv : k = v
    · subst kv
      rcases kr with kr | ⟨j, hj, hsj, kr⟩
      · exact ⟨i, hi, hs, Or.inl (hg i hi (Or.inr (Int.mul_pos hiv kr)))⟩
      · have hsj2 : S j = false := by cases z : S j <;> simp [z] at hsj ⊢
        have hjv : j ≠ k := by intro z; simp [z] at hsj
        have hj := (List.mem_cons.mp hj).resolve_left hjv
        exact ⟨i, hi, hs, Or.inr ⟨j, hj, hsj2, hw i j hi hj (fun z => by rw [z] at hs; rw [hs] at hsj2; cases hsj2) (Or.inr (Int.mul_pos hiv kr))⟩⟩
    · have hkV := (List.mem_cons.mp hk).resolve_left kv
      have ks : S k = true := by simpa [kv] using ks
      refine D k hkV ks ?_
      rcases kr with kr | ⟨j, hj, hsj, kr⟩
      · exact Or.inl kr
      · have hsj2 : S j = false := by cases z : S j <;> simp [z] at hsj ⊢
        have hjv : j ≠ v := by intro z; simp [z] at hsj
        exact Or.inr ⟨j, (List.mem_cons.mp hj).resolve_left hjv, hsj2, kr⟩
  · obtain ⟨k, hk, ks, kr⟩ := hc (fun j => decide (j ≠ v) && S j) ⟨i0, m i0 i1, by
      have : i0 ≠ v := fun z => n1 (z ▸ i1)
      simp [this, i2]⟩
    have kv : k ≠ v := by intro z; simp [z] at ks
    have hkV := (List.mem_cons.mp hk).resolve_left kv
    have ks2 : S k = true := by simpa [kv] using ks
    refine D k hkV ks2 ?_
    rcases kr with kr | ⟨j, hj, hsj, kr⟩
    · exact Or.inl kr
    · by_cases jv : j = v
      · subst jv
        exact absurd ⟨k, hkV, ks2, kr⟩ hv
      · exact Or.inr ⟨j, (List.mem_cons.mp hj).resolve_left jv, by simpa [jv] using hsj, kr⟩
/-- the matrix without its first number -/
theorem lp_E (h : Wt (v :: V) W g) {i j : Nat} (hi : i ∈ V) (hj : j ∈ V) : lp V (wE v V W g) (gE v V W g) i j = c0 v V W g * lp (v :: V) W g i j - W i v * W v j := by
  obtain ⟨h1, h2, h3, h4⟩ := id h
  obtain ⟨n1, n2⟩ := List.nodup_cons.mp h1
  by_cases z : i = j
  · subst z
    unfold lp
    rw [if_pos rfl, if_pos rfl]
    have e : sl V (wE v V W g i) = c0 v V W g * sl V (W i) + W i v * sl V (W v) - W i v * W v i := by
      have e1 : ∀ k, k ∈ V → wE v V W g i k = c0 v V W g * W i k + (W i v * W v k + (if k = i then - (W i v * W v i) else 0)) := fun k hk => by
        unfold wE
        by_cases y : i = k
        · subst y; rw [if_pos rfl, if_pos rfl, h3 i (List.mem_cons_of_mem _ hk)]; omega
        · rw [if_neg y, if_neg (fun q => y q.symm)]; omega
      rw [sl_congr e1, sl_add, sl_add, sl_mul, sl_mul, sl_one n2 hi (fun k _ hk => if_neg hk), if_pos rfl]
      omega
    rw [e]
    show gE v V W g i + _ = c0 v V W g * (g i + (W i v + sl V (W i))) - _
    unfold gE
    have e2 : c0 v V W g = g v + sl V (W v) := rfl
    grind
  · unfold lp
    rw [if_neg z, if_neg z]
    unfold wE
    rw [if_neg z]
    grind
end
/-- there is what solves it, up to a factor -/
theorem lp_ex : ∀ (V : List Nat) (W : Nat → Nat → Int) (g : Nat → Int), Wt V W g → Cn V W g → ∀ r : Nat → Int, ∃ (x : Nat → Int) (t : Int), 0 < t ∧ ∀ i, i ∈ V → sl V (fun j => lp V W g i j * x j) = t * r i
  | [], _, _, _, _, _ => ⟨fun _ => 0, 1, by decide, fun i hi => by cases hi⟩
  | v :: V, W, g, h, hc, r => by
    have cp := c0_pos h hc
    obtain ⟨x, t, ht, hx⟩ := lp_ex V _ _ (Wt_E h) (Cn_E h hc) (fun i => c0 v V W g * r i + W i v * r v)
    obtain ⟨h1, h2, h3, h4⟩ := id h
    obtain ⟨n1, n2⟩ := List.nodup_cons.mp h1
    refine ⟨fun j => if j = v then t * r v + sl V (fun k => W v k * x k) else c0 v V W g * x j, c0 v V W g * t, Int.mul_pos cp ht, fun i hi => ?_⟩
    have hs : ∀ i, sl V (fun j => lp (v :: V) W g i j * (if j = v then t * r v + sl V (fun k => W v k * x k) else c0 v V W g * x j)) = c0 v V W g * sl V (fun j => lp (v :: V) W g i j * x j) := fun i => by
      rw [← sl_mul]
      refine sl_congr (fun j hj => ?_)
      have hjv : ¬ j = v := fun z => n1 (by rw [← z]; exact hj)
      rw [if_neg hjv]
      grind
    show lp (v :: V) W g i v * (if v = v then _ else _) + sl V _ = _
    rw [if_pos rfl, hs i]
    by_cases z : i = v
    · subst z
      have e : sl V (fun j => lp (i :: V) W g i j * x j) = - sl V (fun k => W i k * x k) := by
        rw [← sl_neg]
        refine sl_congr (fun j hj => ?_)
        unfold lp
        have hji : ¬ i = j := fun z => n1 (by rw [z]; exact hj)
        rw [if_neg hji]
        grind
      rw [e, c0_lp h]
      grind
    · have hiV := (List.mem_cons.mp hi).resolve_left z
      have e := hx i hiV
      have e2 : sl V (fun j => lp V (wE v V W g) (gE v V W g) i j * x j) = c0 v V W g * sl V (fun j => lp (v :: V) W g i j * x j) - W i v * sl V (fun k => W v k * x k) := by
        rw [← sl_mul, ← sl_mul, Int.sub_eq_add_neg, ← sl_neg, ← sl_add]
        refine sl_congr (fun j hj => ?_)
        rw [lp_E h hiV hj]
        grind
      rw [e2] at e
      have e3 : lp (v :: V) W g i v = - W i v := by unfold lp; rw [if_neg z]
      rw [e3]
      grind
end

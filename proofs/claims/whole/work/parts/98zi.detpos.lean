/-! The determinant of such a matrix is above 0, and no more than the product of its diagonal. -/
section
def pd : List Nat → (Nat → Int) → Int
  | [], _ => 1
  | a :: l, f => f a * pd l f
theorem pd_pos {l : List Nat} {f : Nat → Int} (h : ∀ a, a ∈ l → 0 < f a) : 0 < pd l f := by
  induction l with
  | nil => exact Int.zero_lt_one
  | cons a l ih => exact Int.mul_pos (h a List.mem_cons_self) (ih (fun b hb => h b (List.mem_cons_of_mem _ hb)))
theorem pd_le {l : List Nat} {f g : Nat → Int} (h : ∀ a, a ∈ l → 0 ≤ f a ∧ f a ≤ g a) : 0 ≤ pd l f ∧ pd l f ≤ pd l g := by
  induction l with
  | nil => exact ⟨Int.le_of_lt Int.zero_lt_one, Int.le_refl _⟩
  | cons a l ih =>
    obtain ⟨h1, h2⟩ := h a List.mem_cons_self
    obtain ⟨i1, i2⟩ := ih (fun b hb => h b (List.mem_cons_of_mem _ hb))
    exact ⟨Int.mul_nonneg h1 i1, Int.mul_le_mul h2 i2 i1 (Int.le_trans h1 h2)⟩
theorem pd_mul {l : List Nat} {f : Nat → Int} {c : Int} : pd l (fun a => c * f a) = c ^ l.length * pd l f := by
  induction l with
  | nil => show (1 : Int) = c ^ 0 * 1; rw [Int.pow_zero]; rfl
  | cons a l ih =>
    show c * f a * pd l _ = c ^ (l.length + 1) * (f a * pd l f)
    rw [ih, Int.pow_succ]; grind
section
variable {v K : Nat} {f : Nat → Int} {c : Int}
/-- columns put together with column v, told behind K -/
def uC (v K : Nat) (f : Nat → Int) (c : Int) (w : Nat → Int) (j : Nat) : Int := if j < K then w j else c * w (j - K) - f (j - K) * w v
theorem Dt_el (hv : v < K) {vs : List (Nat → Int)} : ∀ (js q : List Nat), (∀ j, j ∈ js → j < K ∧ j ≠ v) → vs.length = q.length + js.length + 1 → Dt (v :: (q ++ js.map (· + K))) (vs.map (uC v K f c)) = c ^ js.length * Dt (v :: (q ++ js)) (vs.map (uC v K f c))
  | [], q, _, _ => by
    show Dt (v :: (q ++ [])) _ = c ^ 0 * Dt (v :: (q ++ [])) _
    rw [Int.pow_zero]; omega
  | j :: js, q, h, hl => by
    have hl : vs.length = q.length + (js.length + 1) + 1 := hl
    obtain ⟨j1, j2⟩ := h j List.mem_cons_self
    have ih := Dt_el hv (vs := vs) js (q ++ [j + K]) (fun i hi => h i (List.mem_cons_of_mem _ hi)) (by rw [List.length_append]; simp; omega)
    rw [List.append_assoc, List.append_assoc] at ih
    have e := Dt_lin (vs.map (uC v K f c)) (v :: q) js (j + K) 1 [j, v] (fun i => if i = j then c else - f j) (by rw [List.length_map]; show vs.length = q.length + 1 + js.length + 1; omega) (fun w hw => by
      obtain ⟨w0, _, rfl⟩ := List.mem_map.mp hw
      show 1 * uC v K f c w0 (j + K) = (if j = j then c else - f j) * uC v K f c w0 j + ((if v = j then c else - f j) * uC v K f c w0 v + 0)
      rw [if_pos rfl, if_neg (fun z => j2 z.symm)]
      unfold uC
      rw [if_neg (by omega), if_pos j1, if_pos hv, Nat.add_sub_cancel]
      grind)
    have e2 : Dt (v :: q ++ v :: js) (vs.map (uC v K f c)) = 0 := Dt_dup (p := []) (by rw [List.length_map]; show vs.length = 0 + q.length + js.length + 2; omega)
    have e3 : sl [j, v] (fun i => (if i = j then c else - f j) * Dt (v :: q ++ i :: js) (vs.map (uC v K f c))) = c * Dt (v :: q ++ j :: js) (vs.map (uC v K f c)) := by
      show (if j = j then c else - f j) * Dt (v :: q ++ j :: js) _ + ((if v = j then c else - f j) * Dt (v :: q ++ v :: js) _ + 0) = _
      rw [e2, if_pos rfl]; omega
    rw [e3, Int.one_mul] at e
    show Dt (v :: (q ++ (j + K) :: js.map (· + K))) _ = c ^ (js.length + 1) * Dt (v :: (q ++ j :: js)) _
    have ih : Dt (v :: (q ++ (j + K) :: js.map (· + K))) (vs.map (uC v K f c)) = c ^ js.length * Dt (v :: q ++ (j + K) :: js) (vs.map (uC v K f c)) := ih
    rw [ih, e, Int.pow_succ]
    show _ = c ^ js.length * c * Dt (v :: q ++ j :: js) _
    grind
end
theorem Dt_schur {v : Nat} {js : List Nat} {f : Nat → Int} {vs : List (Nat → Int)} (hn : ∀ j, j ∈ js → j ≠ v) (hl : vs.length = js.length) : f v ^ js.length * Dt (v :: js) (f :: vs) = f v * Dt js (vs.map fun w j => f v * w j - f j * w v) := by
  obtain ⟨K, hK⟩ : ∃ K, v < K ∧ ∀ j, j ∈ js → j < K := by
    have : ∀ l : List Nat, ∃ K, ∀ j, j ∈ l → j < K := by
      intro l
      induction l with
      | nil => exact ⟨0, fun j hj => by cases hj⟩
      | cons a l ih =>
        obtain ⟨K, hK⟩ := ih
        refine ⟨K + a + 1, fun j hj => ?_⟩
        rcases List.mem_cons.mp hj with z | z
        · omega
        · have := hK j z; omega
    obtain ⟨K, hK⟩ := this (v :: js)
    exact ⟨K, hK v List.mem_cons_self, fun j hj => hK j (List.mem_cons_of_mem _ hj)⟩
  have e := Dt_el (v := v) (K := K) (f := f) (c := f v) hK.1 (vs := f :: vs) js [] (fun j hj => ⟨hK.2 j hj, hn j hj⟩) (by simp; omega)
  have e1 : Dt (v :: js) ((f :: vs).map (uC v K f (f v))) = Dt (v :: js) (f :: vs) := by
    have := Dt_congr (f := uC v K f (f v)) (h := fun w => w) (f :: vs) (v :: js) (fun w _ j hj => by
      unfold uC
      rw [if_pos]
      rcases List.mem_cons.mp hj with z | z
      · rw [z]; exact hK.1
      · exact hK.2 j z)
    rw [this, List.map_id']
  rw [List.nil_append, List.nil_append, e1] at e
  rw [← e]
  show uC v K f (f v) f v * Dt (js.map (· + K)) _ - Ex _ [v] (js.map (· + K)) = _
  rw [Ex_zero (fun a m ha _ _ => by
    obtain ⟨j, hj, rfl⟩ := List.mem_map.mp ha
    have : uC v K f (f v) f (j + K) = 0 := by
      unfold uC
      rw [if_neg (by omega), Nat.add_sub_cancel]; grind
    rw [this]; exact Int.zero_mul _)]
  have e2 : uC v K f (f v) f v = f v := by unfold uC; rw [if_pos hK.1]
  rw [e2, Dt_map, List.map_map, Int.sub_zero]
  congr 1
  refine Dt_congr2 vs js (fun w _ j _ => ?_)
  show uC v K f (f v) w (j + K) = _
  unfold uC
  rw [if_neg (by omega), Nat.add_sub_cancel]
theorem Dt_lp : ∀ (V : List Nat) (W : Nat → Nat → Int) (g : Nat → Int), Wt V W g → Cn V W g → (0 < Dt V (V.map (lp V W g)) ∧ Dt V (V.map (lp V W g)) ≤ pd V (fun i => lp V W g i i)) ∧ ∀ i, i ∈ V → 0 < lp V W g i i
  | [], _, _, _, _ => ⟨⟨Int.zero_lt_one, Int.le_refl _⟩, fun i hi => by cases hi⟩
  | v :: V, W, g, h, hc => by
    have cp := c0_pos h hc
    have hw := Wt_E h
    obtain ⟨⟨i1, i2⟩, i3⟩ := Dt_lp V _ _ hw (Cn_E h hc)
    obtain ⟨h1, h2, h3, h4⟩ := id h
    obtain ⟨n1, n2⟩ := List.nodup_cons.mp h1
    have hvv := c0_lp h
    have vi : ∀ i, i ∈ V → lp (v :: V) W g v i = - W v i ∧ lp (v :: V) W g i v = - W i v := fun i hi => by
      have : ¬ v = i := fun z => n1 (by rw [z]; exact hi)
      unfold lp
      rw [if_neg this, if_neg (fun z => this z.symm)]
      exact ⟨rfl, rfl⟩
    have e := Dt_schur (v := v) (js := V) (f := lp (v :: V) W g v) (vs := V.map (lp (v :: V) W g)) (fun j hj z => n1 (by rw [← z]; exact hj)) (by simp)
    have e2 : Dt V ((V.map (lp (v :: V) W g)).map fun w j => lp (v :: V) W g v v * w j - lp (v :: V) W g v j * w v) = Dt V (V.map (lp V (wE v V W g) (gE v V W g))) := by
      rw [List.map_map]
      refine Dt_congr2 V V (fun i hi j hj => ?_)
      show lp (v :: V) W g v v * lp (v :: V) W g i j - lp (v :: V) W g v j * lp (v :: V) W g i v = _
      rw [lp_E h hi hj, hvv, (vi j hj).1, (vi i hi).2]
      grind
    rw [e2, hvv] at e
    generalize hD' : Dt V (V.map (lp V (wE v V W g) (gE v V W g))) = D' at *
    have hD : Dt (v :: V) ((v :: V).map (lp (v :: V) W g)) = Dt (v :: V) (lp (v :: V) W g v :: V.map (lp (v :: V) W g)) := rfl
    rw [hD]
    generalize Dt (v :: V) (lp (v :: V) W g v :: V.map (lp (v :: V) W g)) = D at *
    have cpow : 0 < c0 v V W g ^ V.length := Int.pow_pos cp
    have dg : ∀ i, i ∈ V → 0 < lp (v :: V) W g i i ∧ lp V (wE v V W g) (gE v V W g) i i ≤ c0 v V W g * lp (v :: V) W g i i := fun i hi => by
      have a1 := lp_E h hi hi
      have a2 := i3 i hi
      have a3 : 0 ≤ W i v * W v i := by
        have := (h2 i v (List.mem_cons_of_mem _ hi) List.mem_cons_self)
        rw [← this.1]; exact Int.mul_nonneg this.2 this.2
      have a4 : 0 < c0 v V W g * lp (v :: V) W g i i := by omega
      exact ⟨Int.pos_of_mul_pos_right a4 cp, by omega⟩
    have pp := (pd_le (l := V) (f := fun i => lp V (wE v V W g) (gE v V W g) i i) (g := fun i => c0 v V W g * lp (v :: V) W g i i) (fun i hi => ⟨Int.le_of_lt (i3 i hi), (dg i hi).2⟩)).2
    rw [pd_mul] at pp
    refine ⟨⟨?_, ?_⟩, fun i hi => ?_⟩
    · have : 0 < c0 v V W g ^ V.length * D := by rw [e]; exact Int.mul_pos cp i1
      exact Int.pos_of_mul_pos_right this cpow
    · show D ≤ lp (v :: V) W g v v * pd V (fun i => lp (v :: V) W g i i)
      rw [hvv]
      have q1 : c0 v V W g * D' ≤ c0 v V W g * (c0 v V W g ^ V.length * pd V (fun i => lp (v :: V) W g i i)) := Int.mul_le_mul_of_nonneg_left (Int.le_trans i2 pp) (Int.le_of_lt cp)
      rw [← e] at q1
      have q2 : c0 v V W g * (c0 v V W g ^ V.length * pd V (fun i => lp (v :: V) W g i i)) = c0 v V W g ^ V.length * (c0 v V W g * pd V (fun i => lp (v :: V) W g i i)) := by grind
      rw [q2] at q1
      exact Int.le_of_mul_le_mul_left q1 cpow
    · rcases List.mem_cons.mp hi with z | z
      · rw [z, hvv]; exact cp
      · exact (dg i z).1
end

/-! Two ways to one solution. -/
section
theorem sl_const {l : List Nat} {c : Int} : sl l (fun _ => c) = l.length * c := by
  induction l with
  | nil => exact (Int.zero_mul c).symm
  | cons a l ih =>
    show c + sl l _ = ((l.length + 1 : Nat) : Int) * c
    rw [ih]; grind
theorem rg_s {n : Nat} : List.range (n + 1) = List.range n ++ [n] := List.range_succ
theorem sl_rs {n : Nat} {f : Nat → Int} : sl (List.range (n + 1)) f = sl (List.range n) f + f n := by
  rw [rg_s, sl_app]
  show _ + (f n + 0) = _
  omega
/-- the matrix of weights alone -/
def Lf (n : Nat) (W : Nat → Nat → Int) : Nat → Nat → Int := lp (List.range n) W (fun _ => 0)
/-- weights of n that are joined -/
def Wf (n : Nat) (W : Nat → Nat → Int) : Prop := (∀ i j, i < n → j < n → W i j = W j i ∧ 0 ≤ W i j ∧ W i j ≤ 24) ∧ ∀ i, i < n → W i i = 0
def Cf (n : Nat) (W : Nat → Nat → Int) : Prop := ∀ S : Nat → Bool, (∃ i, i < n ∧ S i = true) → (∃ j, j < n ∧ S j = false) → ∃ i j, i < n ∧ j < n ∧ S i = true ∧ S j = false ∧ 0 < W i j
section
variable {n m : Nat} {W : Nat → Nat → Int}
theorem Lf_row (h : Wf n W) {i : Nat} (hi : i < n) : sl (List.range n) (Lf n W i) = 0 := by
  have e : sl (List.range n) (Lf n W i) = sl (List.range n) (fun j => (if j = i then sl (List.range n) (W i) else 0) + - W i j) := by
    refine sl_congr (fun j hj => ?_)
    unfold Lf lp
    by_cases z : i = j
    · subst z; rw [if_pos rfl, if_pos rfl, h.2 i hi]; show (0 : Int) + _ = _; omega
    · rw [if_neg z, if_neg (fun y => z y.symm)]; omega
  rw [e, sl_add, sl_neg, sl_one List.nodup_range (List.mem_range.mpr hi) (fun k _ hk => if_neg hk), if_pos rfl]
  omega
theorem Lf_sym (h : Wf n W) {i j : Nat} (hi : i < n) (hj : j < n) : Lf n W i j = Lf n W j i := by
  unfold Lf lp
  by_cases z : i = j
  · subst z; rfl
  · rw [if_neg z, if_neg (fun y => z y.symm), (h.1 i j hi hj).1]
theorem Wt_r (h : Wf (m + 1) W) : Wt (List.range m) W (fun i => W i m) := by
  have r := fun i (hi : i ∈ List.range m) => List.mem_range.mp hi
  exact ⟨List.nodup_range, fun i j hi hj => ⟨(h.1 i j (by have := r i hi; omega) (by have := r j hj; omega)).1, (h.1 i j (by have := r i hi; omega) (by have := r j hj; omega)).2.1⟩, fun i hi => h.2 i (by have := r i hi; omega), fun i hi => (h.1 i m (by have := r i hi; omega) (by omega)).2.1⟩
theorem Cn_r (h : Cf (m + 1) W) : Cn (List.range m) W (fun i => W i m) := by
  intro S ⟨i, hi, hs⟩
  have hi := List.mem_range.mp hi
  obtain ⟨a, b, a1, b1, a2, b2, hw⟩ := h (fun j => decide (j < m) && S j) ⟨i, by omega, by simp [hi, hs]⟩ ⟨m, by omega, by simp⟩
  have a2 : (decide (a < m) && S a) = true := a2
  have a3 : a < m ∧ S a = true := by simpa using a2
  refine ⟨a, List.mem_range.mpr a3.1, a3.2, ?_⟩
  by_cases z : b = m
  · subst z; exact Or.inl hw
  · have bm : b < m := by omega
    exact Or.inr ⟨b, List.mem_range.mpr bm, by simpa [bm] using b2, hw⟩
theorem lp_r {i j : Nat} (hi : i < m) (hj : j < m) : lp (List.range m) W (fun i => W i m) i j = Lf (m + 1) W i j := by
  unfold Lf lp
  by_cases z : i = j
  · subst z; rw [if_pos rfl, if_pos rfl, sl_rs]; show W i m + _ = 0 + _; omega
  · rw [if_neg z, if_neg z]
/-- what solves it, 0 together -/
theorem Lf_ex (h : Wf (m + 1) W) (hc : Cf (m + 1) W) {r : Nat → Int} (hr : sl (List.range (m + 1)) r = 0) : ∃ (x : Nat → Int) (t : Int), 0 < t ∧ (∀ i, i < m + 1 → sl (List.range (m + 1)) (fun j => Lf (m + 1) W i j * x j) = t * r i) ∧ sl (List.range (m + 1)) x = 0 := by
  obtain ⟨x, t, ht, hx⟩ := lp_ex _ _ _ (Wt_r h) (Cn_r hc) r
  have hx : ∀ i, i < m → sl (List.range m) (fun j => Lf (m + 1) W i j * x j) = t * r i := fun i hi => by
    rw [← hx i (List.mem_range.mpr hi)]
    exact sl_congr (fun j hj => by rw [lp_r hi (List.mem_range.mp hj)])
  -- with 0 at the last
  have hy : ∀ i, i < m + 1 → sl (List.range (m + 1)) (fun j => Lf (m + 1) W i j * (if j < m then x j else 0)) = t * r i := by
    have e1 : ∀ i, sl (List.range (m + 1)) (fun j => Lf (m + 1) W i j * (if j < m then x j else 0)) = sl (List.range m) (fun j => Lf (m + 1) W i j * x j) := fun i => by
      rw [sl_rs, if_neg (by omega), Int.mul_zero, Int.add_zero]
      exact sl_congr (fun j hj => by rw [if_pos (List.mem_range.mp hj)])
    have e2 : sl (List.range (m + 1)) (fun i => sl (List.range (m + 1)) (fun j => Lf (m + 1) W i j * (if j < m then x j else 0))) = 0 := by
      rw [sl_comm]
      refine sl_zero (fun j hj => ?_)
      have hj := List.mem_range.mp hj
      have : sl (List.range (m + 1)) (fun i => Lf (m + 1) W i j * (if j < m then x j else 0)) = (if j < m then x j else 0) * sl (List.range (m + 1)) (Lf (m + 1) W j) := by
        rw [← sl_mul]
        refine sl_congr (fun i hi => ?_)
        rw [Lf_sym h (List.mem_range.mp hi) hj, Int.mul_comm]
      rw [this, Lf_row h hj, Int.mul_zero]
    intro i hi
    rw [e1]
    by_cases z : i < m
    · exact hx i z
    · have z : i = m := by omega
      subst z
      rw [sl_congr (fun i _ => e1 i), sl_rs] at e2
      rw [sl_congr (fun i hi => hx i (List.mem_range.mp hi)), sl_mul] at e2
      rw [sl_rs] at hr
      have : sl (List.range i) r = - r i := by omega
      rw [this] at e2
      grind
  refine ⟨fun j => ((m + 1 : Nat) : Int) * (if j < m then x j else 0) + - sl (List.range (m + 1)) (fun j => if j < m then x j else 0), ((m + 1 : Nat) : Int) * t, Int.mul_pos (by omega) ht, fun i hi => ?_, ?_⟩
  · have e : sl (List.range (m + 1)) (fun j => Lf (m + 1) W i j * (((m + 1 : Nat) : Int) * (if j < m then x j else 0) + - sl (List.range (m + 1)) (fun j => if j < m then x j else 0))) = ((m + 1 : Nat) : Int) * sl (List.range (m + 1)) (fun j => Lf (m + 1) W i j * (if j < m then x j else 0)) + (- sl (List.range (m + 1)) (fun j => if j < m then x j else 0)) * sl (List.range (m + 1)) (Lf (m + 1) W i) := by
      rw [← sl_mul, ← sl_mul, ← sl_add]
      exact sl_congr (fun j _ => by grind)
    rw [e, hy i hi, Lf_row h hi]
    grind
  · rw [sl_add, sl_mul, sl_const, List.length_range]
    grind
end
theorem Dt_rep {vs : List (Nat → Int)} {p q : List Nat} {a b : Nat} {t : Int} {x : Nat → Int} (hl : vs.length = p.length + q.length + 1) (H : ∀ v, v ∈ vs → t * v a = sl (p ++ b :: q) (fun j => x j * v j)) : t * Dt (p ++ a :: q) vs = x b * Dt (p ++ b :: q) vs := by
  rw [Dt_lin vs p q a t (p ++ b :: q) x hl H, sl_app]
  show _ + (x b * Dt (p ++ b :: q) vs + sl q _) = _
  rw [sl_zero (l := p) (fun j hj => ?_), sl_zero (l := q) (fun j hj => ?_)]
  · omega
  · obtain ⟨q1, q2, rfl⟩ := List.append_of_mem hj
    rw [Dt_dup (by simp at hl ⊢; omega), Int.mul_zero]
  · obtain ⟨p1, p2, rfl⟩ := List.append_of_mem hj
    have : Dt (p1 ++ j :: (p2 ++ j :: q)) vs = 0 := Dt_dup (by simp at hl ⊢; omega)
    rw [show p1 ++ j :: p2 ++ j :: q = p1 ++ j :: (p2 ++ j :: q) by simp, this, Int.mul_zero]
theorem Ex_last {α : Type} {g : α → List α → Int} {w : α} : ∀ (l p : List α), (∀ a r, a ∈ l → g a r = 0) → Ex g p (l ++ [w]) = sg l.length * g w (p ++ l)
  | [], p, _ => by show g w (p ++ []) - 0 = 1 * g w (p ++ []); omega
  | a :: l, p, h => by
    show g a (p ++ (l ++ [w])) - Ex g (p ++ [a]) (l ++ [w]) = - sg l.length * g w (p ++ a :: l)
    rw [h a _ List.mem_cons_self, Ex_last l (p ++ [a]) (fun b r hb => h b r (List.mem_cons_of_mem _ hb)), List.append_assoc]
    show 0 - sg l.length * g w (p ++ a :: l) = _
    grind
theorem sg_sq : ∀ n, sg n * sg n = 1
  | 0 => rfl
  | n + 1 => by show - sg n * - sg n = 1; rw [Int.neg_mul_neg]; exact sg_sq n
section
variable {n m : Nat} {W : Nat → Nat → Int} {r : Nat → Int}
/-- a row's entries: of the weights, with 1 more, 1, the right side, a unit -/
def Fr (n : Nat) (W : Nat → Nat → Int) (r : Nat → Int) (i j : Nat) : Int := if j < n then Lf n W i j else if j < 2 * n then 1 + Lf n W i (j - n) else if j = 2 * n then 1 else if j = 2 * n + 1 then r i else if i = j - (2 * n + 2) then 1 else 0
def FV (n : Nat) (W : Nat → Nat → Int) (r : Nat → Int) : List (Nat → Int) := (List.range n).map (Fr n W r)
theorem FV_len : (FV n W r).length = n := by unfold FV; simp
theorem FV_mem {v : Nat → Int} (h : v ∈ FV n W r) : ∃ i, i < n ∧ v = Fr n W r i := by
  obtain ⟨i, hi, rfl⟩ := List.mem_map.mp h
  exact ⟨i, List.mem_range.mp hi, rfl⟩
theorem Fr_L {i j : Nat} (h : j < n) : Fr n W r i j = Lf n W i j := if_pos h
theorem Fr_M {i j : Nat} (h : j < n) : Fr n W r i (n + j) = 1 + Lf n W i j := by
  unfold Fr
  rw [if_neg (by omega), if_pos (by omega), Nat.add_sub_cancel_left]
theorem Fr_1 {i : Nat} : Fr n W r i (2 * n) = 1 := by
  unfold Fr
  by_cases z : n = 0
  · subst z; rw [if_neg (by omega), if_neg (by omega), if_pos rfl]
  · rw [if_neg (by omega), if_neg (by omega), if_pos rfl]
theorem Fr_r {i : Nat} : Fr n W r i (2 * n + 1) = r i := by
  unfold Fr
  rw [if_neg (by omega), if_neg (by omega), if_neg (by omega), if_pos rfl]
theorem Fr_e {i k : Nat} : Fr n W r i (2 * n + 2 + k) = if i = k then 1 else 0 := by
  unfold Fr
  rw [if_neg (by omega), if_neg (by omega), if_neg (by omega), if_neg (by omega), show 2 * n + 2 + k - (2 * n + 2) = k by omega]
theorem sl_map {l : List Nat} {σ : Nat → Nat} {f : Nat → Int} : sl (l.map σ) f = sl l (fun j => f (σ j)) := by
  induction l with
  | nil => rfl
  | cons a l ih => show f (σ a) + sl (l.map σ) f = f (σ a) + sl l _; rw [ih]
/-- the whole matrix without its last row and column -/
def dR (m : Nat) (W : Nat → Nat → Int) : Int := Dt (List.range m) ((List.range m).map (Lf (m + 1) W))
theorem dR_pos (h : Wf (m + 1) W) (hc : Cf (m + 1) W) : 0 < dR m W ∧ dR m W ≤ pd (List.range m) (fun i => Lf (m + 1) W i i) := by
  obtain ⟨⟨a1, a2⟩, _⟩ := Dt_lp _ _ _ (Wt_r h) (Cn_r hc)
  have e : Dt (List.range m) ((List.range m).map (lp (List.range m) W (fun i => W i m))) = dR m W := Dt_congr2 _ _ (fun i hi j hj => lp_r (List.mem_range.mp hi) (List.mem_range.mp hj))
  have e2 : pd (List.range m) (fun i => lp (List.range m) W (fun i => W i m) i i) ≤ pd (List.range m) (fun i => Lf (m + 1) W i i) := by
    refine (pd_le (fun i hi => ?_)).2
    have a3 := (Dt_lp _ _ _ (Wt_r h) (Cn_r hc)).2 i hi
    have hi := List.mem_range.mp hi
    rw [lp_r hi hi] at a3 ⊢
    exact ⟨Int.le_of_lt a3, Int.le_refl _⟩
  rw [e] at a1 a2
  exact ⟨a1, Int.le_trans a2 e2⟩
/-- the whole matrix is of no use -/
theorem Dt_L0 (h : Wf (m + 1) W) : Dt (List.range m ++ [m]) (FV (m + 1) W r) = 0 := by
  have := Dt_lin (FV (m + 1) W r) (List.range m) [] m 1 (List.range m) (fun _ => -1) (by rw [FV_len]; simp) (fun v hv => by
    obtain ⟨i, hi, rfl⟩ := FV_mem hv
    have e := Lf_row h hi
    rw [sl_rs] at e
    rw [sl_congr (g := fun j => - Lf (m + 1) W i j) (fun j hj => by rw [Fr_L (by have := List.mem_range.mp hj; omega)]; omega), sl_neg, Fr_L (by omega)]
    have : sl (List.range m) (Lf (m + 1) W i) = - Lf (m + 1) W i m := by omega
    rw [this]; omega)
  rw [Int.one_mul] at this
  rw [this]
  refine sl_zero (fun j hj => ?_)
  obtain ⟨p, q, hpq⟩ := List.append_of_mem hj
  rw [hpq, show p ++ j :: q ++ [j] = p ++ j :: (q ++ j :: []) by simp, Dt_dup (by
    have := congrArg List.length hpq
    rw [FV_len]; simp at this ⊢; omega), Int.mul_zero]
theorem Dt_e (h : Wf (m + 1) W) (hc : Cf (m + 1) W) {k : Nat} (hk : k < m + 1) : Dt (List.range m ++ [2 * (m + 1) + 2 + k]) (FV (m + 1) W r) = Dt (List.range m ++ [2 * (m + 1) + 2 + m]) (FV (m + 1) W r) := by
  have u1 : ∀ a, a < m + 1 → sl (List.range (m + 1)) (fun i => if i = a then (1 : Int) else 0) = 1 := fun a ha => by
    rw [sl_one List.nodup_range (List.mem_range.mpr ha) (fun j _ hj => if_neg hj), if_pos rfl]
  obtain ⟨x, t, ht, hx, _⟩ := Lf_ex h hc (r := fun i => (if i = k then 1 else 0) + - (if i = m then (1 : Int) else 0)) (by rw [sl_add, sl_neg, u1 k hk, u1 m (by omega)]; rfl)
  have e := Dt_lin (FV (m + 1) W r) (List.range m) [] (2 * (m + 1) + 2 + k) t ((2 * (m + 1) + 2 + m) :: List.range (m + 1)) (fun j => if j < m + 1 then x j else t) (by rw [FV_len]; simp) (fun v hv => by
    obtain ⟨i, hi, rfl⟩ := FV_mem hv
    have hx := hx i hi
    show _ = (if 2 * (m + 1) + 2 + m < m + 1 then _ else t) * _ + sl (List.range (m + 1)) _
    rw [if_neg (by omega), sl_congr (g := fun j => Lf (m + 1) W i j * x j) (fun j hj => by
      have hj := List.mem_range.mp hj
      rw [if_pos hj, Fr_L hj, Int.mul_comm]), hx, Fr_e, Fr_e]
    grind)
  have e2 : sl ((2 * (m + 1) + 2 + m) :: List.range (m + 1)) (fun j => (if j < m + 1 then x j else t) * Dt (List.range m ++ [j]) (FV (m + 1) W r)) = t * Dt (List.range m ++ [2 * (m + 1) + 2 + m]) (FV (m + 1) W r) := by
    show (if 2 * (m + 1) + 2 + m < m + 1 then _ else t) * _ + sl (List.range (m + 1)) _ = _
    rw [if_neg (by omega), sl_rs, Dt_L0 h, Int.mul_zero, sl_zero (fun j hj => ?_)]
    · omega
    · obtain ⟨p, q, hpq⟩ := List.append_of_mem hj
      rw [hpq, show p ++ j :: q ++ [j] = p ++ j :: (q ++ j :: []) by simp, Dt_dup (by
        have := congrArg List.length hpq
        rw [FV_len]; simp at this ⊢; omega), Int.mul_zero]
  rw [e2] at e
  exact Int.eq_of_mul_eq_mul_left (by omega) e
theorem Dt_em : Dt (List.range m ++ [2 * (m + 1) + 2 + m]) (FV (m + 1) W r) = dR m W := by
  rw [Dt_front (List.range m) (by rw [FV_len]; simp) [] rfl, Dt_col _ _ _ (by rw [FV_len]; simp), List.length_range, List.append_nil]
  unfold FV
  rw [rg_s, List.map_append]
  show sg m * Ex _ [] ((List.range m).map _ ++ [Fr (m + 1) W r m]) = _
  rw [Ex_last _ _ (fun a s ha => by
    obtain ⟨i, hi, rfl⟩ := List.mem_map.mp ha
    have hi := List.mem_range.mp hi
    rw [Fr_e, if_neg (by omega), Int.zero_mul]), Fr_e, if_pos rfl, List.length_map, List.length_range, Int.one_mul, ← Int.mul_assoc, sg_sq, Int.one_mul]
  unfold dR
  refine Dt_congr2 _ _ (fun i hi j hj => ?_)
  exact Fr_L (by have := List.mem_range.mp hj; omega)
theorem Dt_1 (h : Wf (m + 1) W) (hc : Cf (m + 1) W) : Dt (List.range m ++ [2 * (m + 1)]) (FV (m + 1) W r) = ((m + 1 : Nat) : Int) * dR m W := by
  have e := Dt_lin (FV (m + 1) W r) (List.range m) [] (2 * (m + 1)) 1 ((List.range (m + 1)).map (fun k => 2 * (m + 1) + 2 + k)) (fun _ => 1) (by rw [FV_len]; simp) (fun v hv => by
    obtain ⟨i, hi, rfl⟩ := FV_mem hv
    rw [sl_map, sl_congr (g := fun k => if k = i then 1 else 0) (fun k hk => by rw [Fr_e, Int.one_mul]; by_cases z : i = k <;> simp [z, eq_comm]), sl_one List.nodup_range (List.mem_range.mpr hi) (fun j _ hj => if_neg hj), if_pos rfl, Fr_1]
    rfl)
  rw [sl_map, sl_congr (fun k hk => by rw [Dt_e h hc (List.mem_range.mp hk), Dt_em, Int.one_mul]), sl_const, List.length_range, Int.one_mul] at e
  exact e
theorem Dt_M : ∀ (js p : List Nat), (∀ j, j ∈ js → j < n) → p.length + js.length + 1 = n → Dt (p ++ (js.map (n + ·) ++ [2 * n])) (FV n W r) = Dt (p ++ (js ++ [2 * n])) (FV n W r)
  | [], _, _, _ => rfl
  | j :: js, p, hj, hl => by
    have hl : p.length + (js.length + 1) + 1 = n := hl
    have hjn := hj j List.mem_cons_self
    have ih := Dt_M js (p ++ [j]) (fun i hi => hj i (List.mem_cons_of_mem _ hi)) (by rw [List.length_append]; simp; omega)
    rw [List.append_assoc, List.append_assoc] at ih
    have e := Dt_lin (FV n W r) p (js.map (n + ·) ++ [2 * n]) (n + j) 1 [j, 2 * n] (fun _ => 1) (by rw [FV_len]; simp; omega) (fun v hv => by
      obtain ⟨i, hi, rfl⟩ := FV_mem hv
      show _ = 1 * Fr n W r i j + (1 * Fr n W r i (2 * n) + 0)
      rw [Fr_L hjn, Fr_M hjn, Fr_1]; omega)
    have e2 : Dt (p ++ 2 * n :: (js.map (n + ·) ++ [2 * n])) (FV n W r) = 0 := Dt_dup (by rw [FV_len]; simp; omega)
    have e3 : sl [j, 2 * n] (fun i => 1 * Dt (p ++ i :: (js.map (n + ·) ++ [2 * n])) (FV n W r)) = Dt (p ++ j :: (js.map (n + ·) ++ [2 * n])) (FV n W r) := by
      show 1 * Dt (p ++ j :: (js.map (n + ·) ++ [2 * n])) _ + (1 * Dt (p ++ 2 * n :: (js.map (n + ·) ++ [2 * n])) _ + 0) = _
      rw [e2]; omega
    rw [e3, Int.one_mul] at e
    show Dt (p ++ (n + j) :: (js.map (n + ·) ++ [2 * n])) _ = Dt (p ++ j :: (js ++ [2 * n])) _
    rw [e]
    exact ih
/-- the class's determinant -/
theorem Dt_w (h : Wf (m + 1) W) (hc : Cf (m + 1) W) : Dt ((List.range (m + 1)).map (m + 1 + ·)) (FV (m + 1) W r) = ((m + 1 : Nat) : Int) * (((m + 1 : Nat) : Int) * dR m W) := by
  have e := Dt_rep (vs := FV (m + 1) W r) (p := (List.range m).map (m + 1 + ·)) (q := []) (a := 2 * (m + 1)) (b := m + 1 + m) (t := ((m + 1 : Nat) : Int)) (x := fun _ => 1) (by rw [FV_len]; simp) (fun v hv => by
    obtain ⟨i, hi, rfl⟩ := FV_mem hv
    have e0 : (List.range m).map (m + 1 + ·) ++ (m + 1 + m) :: [] = (List.range (m + 1)).map (m + 1 + ·) := by rw [rg_s, List.map_append]; rfl
    rw [e0, sl_map, sl_congr (g := fun j => 1 + Lf (m + 1) W i j) (fun j hj => by rw [Fr_M (List.mem_range.mp hj), Int.one_mul]), sl_add, sl_const, Lf_row h hi, Fr_1, List.length_range]
    omega)
  have e1 := Dt_M (n := m + 1) (W := W) (r := r) (List.range m) [] (fun j hj => by have := List.mem_range.mp hj; omega) (by simp)
  have e1 : Dt ((List.range m).map (m + 1 + ·) ++ [2 * (m + 1)]) (FV (m + 1) W r) = Dt (List.range m ++ [2 * (m + 1)]) (FV (m + 1) W r) := e1
  rw [e1, Dt_1 h hc, Int.one_mul] at e
  rw [rg_s, List.map_append, e]
  rfl
end
end

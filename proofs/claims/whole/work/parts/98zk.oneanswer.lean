/-! The two answers are one, and nothing wraps. -/
section
section
variable {n m b : Nat} {W : Nat → Nat → Int} {r : Nat → Int}
theorem rg_split {n b : Nat} (h : b < n) : ∃ p q, List.range n = p ++ b :: q ∧ p.length = b ∧ p.length + q.length + 1 = n ∧ b ∉ p ∧ b ∉ q ∧ (∀ j, j ∈ p → j < n) ∧ ∀ j, j ∈ q → j < n := by
  obtain ⟨k, rfl⟩ : ∃ k, n = b + (1 + k) := ⟨n - b - 1, by omega⟩
  have e : List.range (b + (1 + k)) = List.range b ++ b :: (List.range k).map (fun x => b + (x + 1)) := by
    rw [List.range_add, Nat.add_comm 1 k, List.range_succ_eq_map]
    simp
  refine ⟨List.range b, (List.range k).map (fun x => b + (x + 1)), e, by simp, by simp; omega, by simp, ?_, fun j hj => by have := List.mem_range.mp hj; omega, fun j hj => ?_⟩
  · intro hj
    obtain ⟨x, hx, h⟩ := List.mem_map.mp hj
    omega
  · obtain ⟨x, hx, rfl⟩ := List.mem_map.mp hj
    have := List.mem_range.mp hx
    omega
/-- the class's numerator -/
def yb (n b : Nat) (W : Nat → Nat → Int) (r : Nat → Int) : Int := Dt (List.range n) ((List.range n).map fun i j => if j = b then r i else 1 + Lf n W i j)
def wD (n : Nat) (W : Nat → Nat → Int) : Int := Dt (List.range n) ((List.range n).map fun i j => 1 + Lf n W i j)
theorem wD_ (h : Wf (m + 1) W) (hc : Cf (m + 1) W) : wD (m + 1) W = ((m + 1 : Nat) : Int) * (((m + 1 : Nat) : Int) * dR m W) := by
  rw [← Dt_w (r := fun _ => 0) h hc, Dt_map]
  unfold wD FV
  rw [List.map_map]
  refine Dt_congr2 _ _ (fun i hi j hj => ?_)
  show 1 + Lf (m + 1) W i j = Fr (m + 1) W (fun _ => 0) i (m + 1 + j)
  rw [Fr_M (List.mem_range.mp hj)]
theorem yb_ (h : Wf n W) (hb : b < n) {x : Nat → Int} {t : Int} (hx : ∀ i, i < n → sl (List.range n) (fun j => Lf n W i j * x j) = t * r i) (h0 : sl (List.range n) x = 0) : t * yb n b W r = x b * wD n W := by
  obtain ⟨p, q, e, l1, l2, n1, n2, m1, m2⟩ := rg_split hb
  have key := Dt_rep (vs := FV n W r) (p := p.map (n + ·)) (q := q.map (n + ·)) (a := 2 * n + 1) (b := n + b) (t := t) (x := fun j => x (j - n)) (by rw [FV_len]; simp; omega) (fun v hv => by
    obtain ⟨i, hi, rfl⟩ := FV_mem hv
    rw [show p.map (n + ·) ++ (n + b) :: q.map (n + ·) = (List.range n).map (n + ·) by rw [e, List.map_append]; rfl, sl_map, Fr_r, sl_congr (g := fun j => x j + Lf n W i j * x j) (fun j hj => by
      rw [Fr_M (List.mem_range.mp hj), Nat.add_sub_cancel_left]; grind), sl_add, h0, hx i hi]
    omega)
  rw [Nat.add_sub_cancel_left] at key
  have k1 : Dt (p.map (n + ·) ++ (n + b) :: q.map (n + ·)) (FV n W r) = wD n W := by
    rw [show p.map (n + ·) ++ (n + b) :: q.map (n + ·) = (List.range n).map (n + ·) by rw [e, List.map_append]; rfl, Dt_map]
    unfold wD FV
    rw [List.map_map]
    refine Dt_congr2 _ _ (fun i hi j hj => ?_)
    exact Fr_M (List.mem_range.mp hj)
  have k2 : Dt (p.map (n + ·) ++ (2 * n + 1) :: q.map (n + ·)) (FV n W r) = yb n b W r := by
    have e2 : p.map (n + ·) ++ (2 * n + 1) :: q.map (n + ·) = (List.range n).map (fun j => if j = b then 2 * n + 1 else n + j) := by
      rw [e, List.map_append, List.map_cons, if_pos rfl]
      congr 1
      · refine List.map_congr_left (fun j hj => ?_)
        rw [if_neg (fun z => n1 (by rw [← z]; exact hj))]
      · congr 1
        refine List.map_congr_left (fun j hj => ?_)
        rw [if_neg (fun z => n2 (by rw [← z]; exact hj))]
    rw [e2, Dt_map]
    unfold yb FV
    rw [List.map_map]
    refine Dt_congr2 _ _ (fun i hi j hj => ?_)
    show Fr n W r i (if j = b then 2 * n + 1 else n + j) = if j = b then r i else _
    by_cases z : j = b
    · rw [if_pos z, if_pos z]; exact Fr_r
    · rw [if_neg z, if_neg z]; exact Fr_M (List.mem_range.mp hj)
  rw [k1, k2] at key
  exact key
/-- the reference's: without number i of the columns, along the right side -/
def zi (m i : Nat) (W : Nat → Nat → Int) (r : Nat → Int) (p q : List Nat) : Int := sg i * Ex (fun k s => r k * Dt (p ++ q) (s.map (Lf (m + 1) W))) [] (List.range m)
theorem Ex_mapα {α : Type} {g : α → List α → Int} {σ : Nat → α} : ∀ (l p : List Nat), Ex g (p.map σ) (l.map σ) = Ex (fun a r => g (σ a) (r.map σ)) p l
  | [], p => rfl
  | a :: l, p => by
    have e := Ex_mapα (g := g) (σ := σ) l (p ++ [a])
    rw [List.map_append] at e
    show g (σ a) (p.map σ ++ l.map σ) - Ex g (p.map σ ++ [σ a]) (l.map σ) = g (σ a) ((p ++ l).map σ) - Ex _ (p ++ [a]) l
    rw [List.map_append, ← e]
    rfl
theorem zi_ (hb : b < m) {p q : List Nat} (e : List.range m = p ++ b :: q) (l1 : p.length = b) {x : Nat → Int} {t : Int} (hx : ∀ i, i < m → sl (List.range m) (fun j => Lf (m + 1) W i j * x j) = t * r i) : t * zi m b W r p q = x b * dR m W := by
  have hlen : p.length + q.length + 1 = m := by have := congrArg List.length e; simp at this; omega
  have hm : ∀ j, j ∈ p ++ b :: q → j < m := fun j hj => List.mem_range.mp (by rw [e]; exact hj)
  have key := Dt_rep (vs := (List.range m).map (Fr (m + 1) W r)) (p := p) (q := q) (a := 2 * (m + 1) + 1) (b := b) (t := t) (x := x) (by simp; omega) (fun v hv => by
    obtain ⟨i, hi, rfl⟩ := List.mem_map.mp hv
    have hi := List.mem_range.mp hi
    rw [← e, sl_congr (g := fun j => Lf (m + 1) W i j * x j) (fun j hj => by rw [Fr_L (by have := List.mem_range.mp hj; omega), Int.mul_comm]), hx i hi, Fr_r])
  have k1 : Dt (p ++ b :: q) ((List.range m).map (Fr (m + 1) W r)) = dR m W := by
    rw [← e]
    exact Dt_congr2 _ _ (fun i hi j hj => Fr_L (by have := List.mem_range.mp hj; omega))
  have k2 : Dt (p ++ (2 * (m + 1) + 1) :: q) ((List.range m).map (Fr (m + 1) W r)) = zi m b W r p q := by
    rw [Dt_front p (by simp; omega) [] rfl, Dt_col _ _ _ (by simp; omega), l1]
    have e3 := Ex_mapα (g := fun (v : Nat → Int) s => v (2 * (m + 1) + 1) * Dt (p ++ q) s) (σ := Fr (m + 1) W r) (List.range m) []
    show sg b * Ex _ (([] : List Nat).map (Fr (m + 1) W r)) ((List.range m).map (Fr (m + 1) W r)) = _
    rw [e3]
    unfold zi
    congr 1
    refine Ex_congr (fun a s ha _ hs => ?_)
    rw [Fr_r]
    congr 1
    refine Dt_congr2 _ _ (fun i hi j hj => Fr_L ?_)
    have : j < m := by
      rcases List.mem_append.mp hj with z | z
      · exact hm j (List.mem_append.mpr (Or.inl z))
      · exact hm j (List.mem_append.mpr (Or.inr (List.mem_cons_of_mem _ z)))
    omega
  rw [k1, k2] at key
  exact key
/-- what the reference makes of them -/
theorem ans_eq (h : Wf (m + 1) W) (hc : Cf (m + 1) W) (hr : sl (List.range (m + 1)) r = 0) (hb : b < m + 1) {Z : Nat → Int} (hZm : Z m = 0) (hZ : ∀ i, i < m → ∃ p q, List.range m = p ++ i :: q ∧ p.length = i ∧ Z i = zi m i W r p q) : yb (m + 1) b W r = ((m + 1 : Nat) : Int) * (((m + 1 : Nat) : Int) * Z b - sl (List.range (m + 1)) Z) ∧ ∃ (x : Nat → Int) (t : Int), 0 < t ∧ (∀ i, i < m + 1 → sl (List.range (m + 1)) (fun j => Lf (m + 1) W i j * x j) = t * r i) ∧ sl (List.range (m + 1)) x = 0 ∧ t * (((m + 1 : Nat) : Int) * Z b - sl (List.range (m + 1)) Z) = ((m + 1 : Nat) : Int) * dR m W * x b := by
  obtain ⟨x, t, ht, hx, h0⟩ := Lf_ex h hc hr
  have y := yb_ h hb hx h0
  rw [wD_ h hc] at y
  have hz : ∀ i, i < m + 1 → t * Z i = (x i + - x m) * dR m W := fun i hi => by
    by_cases z : i < m
    · obtain ⟨p, q, e, l, hz⟩ := hZ i z
      rw [hz]
      refine zi_ (x := fun j => x j + - x m) z e l (fun k hk => ?_)
      have e1 := hx k (by omega)
      have e2 := Lf_row h (i := k) (by omega)
      rw [sl_rs] at e1 e2
      rw [← e1, sl_congr (g := fun j => Lf (m + 1) W k j * x j + (- x m) * Lf (m + 1) W k j) (fun j _ => by grind), sl_add, sl_mul]
      have : sl (List.range m) (Lf (m + 1) W k) = - Lf (m + 1) W k m := by omega
      rw [this]; grind
    · have z : i = m := by omega
      subst z
      rw [hZm]; grind
  have hs : t * sl (List.range (m + 1)) Z = - (((m + 1 : Nat) : Int) * x m * dR m W) := by
    rw [← sl_mul, sl_congr (g := fun i => dR m W * x i + - x m * dR m W) (fun i hi => by rw [hz i (List.mem_range.mp hi)]; grind), sl_add, sl_mul, h0, sl_const, List.length_range]
    grind
  have hzb := hz b hb
  generalize sl (List.range (m + 1)) Z = s at *
  generalize ((m + 1 : Nat) : Int) = N at *
  have hv : t * (N * Z b - s) = N * dR m W * x b := by grind
  refine ⟨?_, x, t, ht, hx, h0, hv⟩
  refine Int.eq_of_mul_eq_mul_left (a := t) (by omega) ?_
  grind
end
/-! How great a solution is. -/
def cntB (l : List Nat) (f : Nat → Bool) : Nat := match l with
  | [] => 0
  | a :: l => (if f a then 1 else 0) + cntB l f
theorem cntB_le {l : List Nat} {f g : Nat → Bool} (h : ∀ a, a ∈ l → f a = true → g a = true) : cntB l f ≤ cntB l g := by
  induction l with
  | nil => exact Nat.le_refl _
  | cons a l ih =>
    have := ih (fun b hb => h b (List.mem_cons_of_mem _ hb))
    have h1 := h a List.mem_cons_self
    show (if f a = true then 1 else 0) + cntB l f ≤ (if g a = true then 1 else 0) + cntB l g
    by_cases z : f a = true
    · rw [if_pos z, if_pos (h1 z)]; omega
    · rw [if_neg z]; omega
theorem cntB_lt {l : List Nat} {f g : Nat → Bool} {b : Nat} (h : ∀ a, a ∈ l → f a = true → g a = true) (hb : b ∈ l) (h1 : f b = false) (h2 : g b = true) : cntB l f < cntB l g := by
  induction l with
  | nil => cases hb
  | cons a l ih =>
    have h3 := fun c hc => h c (List.mem_cons_of_mem _ hc)
    show (if f a = true then 1 else 0) + cntB l f < (if g a = true then 1 else 0) + cntB l g
    rcases List.mem_cons.mp hb with z | z
    · subst z
      have := cntB_le h3
      rw [h1, h2, if_pos rfl, if_neg (by decide)]; omega
    · have := ih h3 z
      have h4 := h a List.mem_cons_self
      by_cases y : f a = true
      · rw [if_pos y, if_pos (h4 y)]; omega
      · rw [if_neg y]; omega
theorem cntB_sl {l : List Nat} {f : Nat → Bool} : (cntB l f : Int) = sl l (fun a => if f a then 1 else 0) := by
  induction l with
  | nil => rfl
  | cons a l ih =>
    show (((if f a = true then 1 else 0) + cntB l f : Nat) : Int) = (if f a = true then 1 else 0) + sl l _
    rw [← ih]
    by_cases z : f a = true
    · rw [if_pos z, if_pos z]; omega
    · rw [if_neg z, if_neg z]; omega
section
variable {n : Nat} {W R : Nat → Nat → Int} {C t : Int} {x r : Nat → Int}
theorem Lf_x (h : Wf n W) {i : Nat} (hi : i < n) : sl (List.range n) (fun j => Lf n W i j * x j) = sl (List.range n) (fun j => W i j * (x i - x j)) := by
  have e : sl (List.range n) (fun j => Lf n W i j * x j) = sl (List.range n) (fun j => (if j = i then sl (List.range n) (W i) * x i else 0) + - (W i j * x j)) := by
    refine sl_congr (fun j hj => ?_)
    unfold Lf lp
    by_cases z : i = j
    · subst z; rw [if_pos rfl, if_pos rfl, h.2 i hi]; grind
    · rw [if_neg z, if_neg (fun y => z y.symm)]; grind
  rw [e, sl_add, sl_neg, sl_one List.nodup_range (List.mem_range.mpr hi) (fun k _ hk => if_neg hk), if_pos rfl, Int.mul_comm, ← sl_mul, ← sl_neg, ← sl_add]
  exact sl_congr (fun j _ => by grind)
/-- over each border there is a small step -/
theorem cut (h : Wf n W) (hc : Cf n W) (ht : 0 < t) (hx : ∀ i, i < n → sl (List.range n) (fun j => Lf n W i j * x j) = t * r i) (hr : ∀ i, i < n → r i = sl (List.range n) (R i)) (hR : ∀ i j, i < n → j < n → R i j = - R j i ∧ R i j ≤ C * W i j) (S : Nat → Bool) (h1 : ∃ i, i < n ∧ S i = true) (h2 : ∃ j, j < n ∧ S j = false) : ∃ i j, i < n ∧ j < n ∧ S i = true ∧ S j = false ∧ x i - x j ≤ C * t := by
  apply Classical.byContradiction
  intro hno
  have hno : ∀ i j, i < n → j < n → S i = true → S j = false → C * t < x i - x j := fun i j hi hj si sj => by
    by_cases z : C * t < x i - x j
    · exact z
    · exact absurd ⟨i, j, hi, hj, si, sj, by omega⟩ hno
  obtain ⟨a, b, ha, hb, sa, sb, hab⟩ := hc S h1 h2
  -- Q i j
  have Q0 : ∀ i, i < n → sl (List.range n) (fun j => W i j * (x i - x j) + - (t * R i j)) = 0 := fun i hi => by
    rw [sl_add, sl_neg, sl_mul, ← Lf_x h hi, hx i hi, hr i hi]; omega
  have rm := fun i (hi : i ∈ List.range n) => List.mem_range.mp hi
  have e1 : sl (List.range n) (fun i => sl (List.range n) (fun j => (if S i = true then 1 else 0) * (if S j = true then 0 else 1) * (W i j * (x i - x j) + - (t * R i j)))) = 0 := by
    have e2 : sl (List.range n) (fun i => sl (List.range n) (fun j => (if S i = true then 1 else 0) * (if S j = true then 1 else 0) * (W i j * (x i - x j) + - (t * R i j)))) = 0 := by
      have e3 : sl (List.range n) (fun i => sl (List.range n) (fun j => (if S i = true then 1 else 0) * (if S j = true then 1 else 0) * (W i j * (x i - x j) + - (t * R i j)))) = - sl (List.range n) (fun i => sl (List.range n) (fun j => (if S i = true then 1 else 0) * (if S j = true then 1 else 0) * (W i j * (x i - x j) + - (t * R i j)))) := by
        conv => lhs; rw [sl_comm]
        rw [← sl_neg]
        refine sl_congr (fun i hi => ?_)
        rw [← sl_neg]
        refine sl_congr (fun j hj => ?_)
        rw [(h.1 j i (rm j hj) (rm i hi)).1, (hR j i (rm j hj) (rm i hi)).1]
        grind
      omega
    have e4 : sl (List.range n) (fun i => sl (List.range n) (fun j => (if S i = true then 1 else 0) * (if S j = true then 0 else 1) * (W i j * (x i - x j) + - (t * R i j)))) + sl (List.range n) (fun i => sl (List.range n) (fun j => (if S i = true then 1 else 0) * (if S j = true then 1 else 0) * (W i j * (x i - x j) + - (t * R i j)))) = 0 := by
      rw [← sl_add]
      refine sl_zero (fun i hi => ?_)
      rw [← sl_add, sl_congr (g := fun j => (if S i = true then 1 else 0) * (W i j * (x i - x j) + - (t * R i j))) (fun j _ => by by_cases z : S j = true <;> simp [z]), sl_mul, Q0 i (rm i hi), Int.mul_zero]
    omega
  have nn : ∀ i j, i < n → j < n → (if a = i ∧ b = j then 1 else 0) ≤ (if S i = true then 1 else 0) * (if S j = true then 0 else 1) * (W i j * (x i - x j) + - (t * R i j)) := fun i j hi hj => by
    obtain ⟨w1, w2, _⟩ := h.1 i j hi hj
    obtain ⟨_, r2⟩ := hR i j hi hj
    by_cases si : S i = true
    · cases sj : S j with
      | true => 
        have : ¬ (a = i ∧ b = j) := fun z => by rw [z.2] at sb; rw [sb] at sj; cases sj
        rw [if_neg this]; simp
      | false =>
        have d := hno i j hi hj si sj
        have q1 : t * R i j ≤ t * (C * W i j) := Int.mul_le_mul_of_nonneg_left r2 (by omega)
        have q2 : W i j * (C * t + 1) ≤ W i j * (x i - x j) := Int.mul_le_mul_of_nonneg_left (by omega) w2
        have q3 : W i j * (C * t + 1) = t * (C * W i j) + W i j := by grind
        rw [if_pos si, show (if false = true then (0 : Int) else 1) = 1 from rfl]
        by_cases z : a = i ∧ b = j
        · rw [if_pos z]
          have : 0 < W i j := by rw [← z.1, ← z.2]; exact hab
          omega
        · rw [if_neg z]; omega
    · have : ¬ (a = i ∧ b = j) := fun z => si (by rw [← z.1]; exact sa)
      rw [if_neg this, if_neg si]; simp
  have e5 := sl_le (l := List.range n) (fun i hi => sl_le (l := List.range n) (fun j hj => nn i j (rm i hi) (rm j hj)))
  rw [e1, sl_one List.nodup_range (List.mem_range.mpr ha) (fun i _ hi => sl_zero (fun j _ => if_neg (fun z => hi z.1.symm))), sl_one List.nodup_range (List.mem_range.mpr hb) (fun j _ hj => if_neg (fun z => hj z.2.symm)), if_pos ⟨rfl, rfl⟩] at e5
  omega
theorem top_ex {f : Nat → Int} : ∀ n : Nat, 0 < n → ∃ b, b < n ∧ ∀ i, i < n → f i ≤ f b
  | 0, h => absurd h (by omega)
  | 1, _ => ⟨0, by omega, fun i hi => by rw [show i = 0 by omega]; exact Int.le_refl _⟩
  | n + 2, _ => by
    obtain ⟨b, hb, h⟩ := top_ex (f := f) (n + 1) (by omega)
    by_cases z : f (n + 1) ≤ f b
    · refine ⟨b, by omega, fun i hi => ?_⟩
      by_cases y : i < n + 1
      · exact h i y
      · rw [show i = n + 1 by omega]; exact z
    · refine ⟨n + 1, by omega, fun i hi => ?_⟩
      by_cases y : i < n + 1
      · have := h i y; omega
      · rw [show i = n + 1 by omega]; exact Int.le_refl _
theorem x_le (h : Wf n W) (hc : Cf n W) (ht : 0 < t) (hC : 0 ≤ C) (hx : ∀ i, i < n → sl (List.range n) (fun j => Lf n W i j * x j) = t * r i) (h0 : sl (List.range n) x = 0) (hr : ∀ i, i < n → r i = sl (List.range n) (R i)) (hR : ∀ i j, i < n → j < n → R i j = - R j i ∧ R i j ≤ C * W i j) {b : Nat} (hb : b < n) : 2 * x b ≤ C * t * ((n : Int) - 1) := by
  obtain ⟨a, ha, top⟩ := top_ex (f := x) n (by omega)
  have rm := fun i (hi : i ∈ List.range n) => List.mem_range.mp hi
  have hCt : 0 ≤ C * t := Int.mul_nonneg hC (by omega)
  have rank : ∀ (k i : Nat), i < n → cntB (List.range n) (fun j => decide (x i < x j)) = k → x a - x i ≤ C * t * k := by
    intro k
    induction k using Nat.strongRecOn with
    | _ k ih =>
      intro i hi hk
      by_cases z : x i < x a
      · obtain ⟨u, v, hu, hv, su, sv, d⟩ := cut h hc ht hx hr hR (fun j => decide (x i < x j)) ⟨a, ha, by simpa using z⟩ ⟨i, hi, by simp⟩
        have su : x i < x u := of_decide_eq_true su
        have sv : ¬ x i < x v := of_decide_eq_false sv
        have lt : cntB (List.range n) (fun j => decide (x u < x j)) < k := by
          rw [← hk]
          refine cntB_lt (b := u) (fun c _ hc => ?_) (List.mem_range.mpr hu) (by simp) (by simpa using su)
          have : x u < x c := of_decide_eq_true hc
          exact decide_eq_true (by omega)
        have := ih _ lt u hu rfl
        have le : C * t * (cntB (List.range n) (fun j => decide (x u < x j)) : Int) ≤ C * t * ((k : Int) - 1) := Int.mul_le_mul_of_nonneg_left (by omega) hCt
        have : C * t * ((k : Int) - 1) = C * t * k - C * t := by grind
        omega
      · have := Int.mul_nonneg hCt (show (0 : Int) ≤ k by omega)
        omega
  have s1 : sl (List.range n) (fun i => x a + - x i) ≤ sl (List.range n) (fun i => C * t * sl (List.range n) (fun j => if x i < x j then 1 else 0)) := sl_le (fun i hi => by
    have := rank _ i (rm i hi) rfl
    rw [cntB_sl] at this
    simp only [decide_eq_true_eq] at this
    omega)
  rw [sl_add, sl_neg, h0, sl_const, sl_mul, List.length_range] at s1
  have s2 : sl (List.range n) (fun i => sl (List.range n) (fun j => if x i < x j then (1 : Int) else 0)) + sl (List.range n) (fun i => sl (List.range n) (fun j => if x j < x i then (1 : Int) else 0)) ≤ sl (List.range n) (fun i => sl (List.range n) (fun j => 1 + (if j = i then -1 else 0))) := by
    rw [← sl_add]
    refine sl_le (fun i hi => ?_)
    rw [← sl_add]
    refine sl_le (fun j hj => ?_)
    by_cases z : j = i
    · subst z; rw [if_neg (by omega), if_pos rfl]; omega
    · rw [if_neg z]
      by_cases y : x i < x j
      · rw [if_pos y, if_neg (by omega)]; omega
      · rw [if_neg y]
        by_cases w : x j < x i
        · rw [if_pos w]; omega
        · rw [if_neg w]; omega
  rw [sl_comm (f := fun i j => if x j < x i then (1 : Int) else 0)] at s2
  have s3 : sl (List.range n) (fun i => sl (List.range n) (fun j => 1 + (if j = i then (-1 : Int) else 0))) = (n : Int) * (n - 1) := by
    rw [sl_congr (g := fun _ => (n : Int) - 1) (fun i hi => by rw [sl_add, sl_const, List.length_range, sl_one List.nodup_range hi (fun k _ hk => if_neg hk), if_pos rfl]; omega), sl_const, List.length_range]
  rw [s3] at s2
  generalize hk : sl (List.range n) (fun i => sl (List.range n) (fun j => if x i < x j then (1 : Int) else 0)) = K at *
  have s4 : C * t * (2 * K) ≤ C * t * ((n : Int) * (n - 1)) := Int.mul_le_mul_of_nonneg_left (by omega) hCt
  have s5 : (n : Int) * (2 * x a) ≤ n * (C * t * ((n : Int) - 1)) := by
    have e1 : (n : Int) * (2 * x a) = 2 * (n * x a) := by grind
    have e2 : C * t * (2 * K) = 2 * (C * t * K) := by grind
    have e3 : (n : Int) * (C * t * ((n : Int) - 1)) = C * t * ((n : Int) * (n - 1)) := by grind
    rw [e1, e3]; omega
  have := Int.le_of_mul_le_mul_left s5 (by omega)
  have := top b hb
  omega
end
end

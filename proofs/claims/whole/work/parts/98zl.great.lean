/-! How great the numbers are. -/
section
variable {m b : Nat} {W R : Nat → Nat → Int} {r : Nat → Int}
theorem pd_const {l : List Nat} {c : Int} : pd l (fun _ => c) = c ^ l.length := by
  induction l with
  | nil => exact (Int.pow_zero c).symm
  | cons a l ih => show c * pd l _ = c ^ (l.length + 1); rw [ih, Int.pow_succ, Int.mul_comm]
theorem Lf_d (h : Wf (m + 1) W) {i : Nat} (hi : i < m + 1) : 0 ≤ Lf (m + 1) W i i ∧ Lf (m + 1) W i i ≤ 24 * m := by
  have e : Lf (m + 1) W i i = 0 + sl (List.range (m + 1)) (W i) := if_pos rfl
  have e1 : 0 ≤ sl (List.range (m + 1)) (W i) := sl_nn (fun j hj => (h.1 i j hi (List.mem_range.mp hj)).2.1)
  have e2 : sl (List.range (m + 1)) (W i) ≤ sl (List.range (m + 1)) (fun j => 24 + (if j = i then -24 else 0)) := sl_le (fun j hj => by
    by_cases z : j = i
    · subst z; rw [if_pos rfl, h.2 j hi]; decide
    · rw [if_neg z]; have := (h.1 i j hi (List.mem_range.mp hj)).2.2; omega)
  rw [sl_add, sl_const, List.length_range, sl_one List.nodup_range (List.mem_range.mpr hi) (fun k _ hk => if_neg hk), if_pos rfl] at e2
  omega
theorem dR_le (h : Wf (m + 1) W) (hc : Cf (m + 1) W) (hm : m ≤ 5) : 0 < dR m W ∧ dR m W ≤ 24883200000 := by
  obtain ⟨a1, a2⟩ := dR_pos h hc
  have e := (pd_le (l := List.range m) (f := fun i => Lf (m + 1) W i i) (g := fun _ => 120) (fun i hi => by
    have := Lf_d h (i := i) (by have := List.mem_range.mp hi; omega)
    omega)).2
  rw [pd_const, List.length_range] at e
  have : (120 : Int) ^ m ≤ 120 ^ 5 := by
    have hc : m = 0 ∨ m = 1 ∨ m = 2 ∨ m = 3 ∨ m = 4 ∨ m = 5 := by omega
    rcases hc with rfl | rfl | rfl | rfl | rfl | rfl <;> decide
  have e5 : (120 : Int) ^ 5 = 24883200000 := by decide
  omega
theorem r_sum (hr : ∀ i, i < m + 1 → r i = sl (List.range (m + 1)) (R i)) (hR : ∀ i j, i < m + 1 → j < m + 1 → R i j = - R j i) : sl (List.range (m + 1)) r = 0 := by
  have e : sl (List.range (m + 1)) r = sl (List.range (m + 1)) (fun i => sl (List.range (m + 1)) (R i)) := sl_congr (fun i hi => hr i (List.mem_range.mp hi))
  have e2 : sl (List.range (m + 1)) (fun i => sl (List.range (m + 1)) (R i)) = - sl (List.range (m + 1)) (fun i => sl (List.range (m + 1)) (R i)) := by
    conv => lhs; rw [sl_comm]
    rw [← sl_neg]
    refine sl_congr (fun i hi => ?_)
    rw [← sl_neg]
    exact sl_congr (fun j hj => by rw [hR j i (List.mem_range.mp hj) (List.mem_range.mp hi)])
  omega
theorem fin_ (h : Wf (m + 1) W) (hc : Cf (m + 1) W) (hm : m ≤ 5) (hr : ∀ i, i < m + 1 → r i = sl (List.range (m + 1)) (R i)) (hR : ∀ i j, i < m + 1 → j < m + 1 → R i j = - R j i ∧ R i j ≤ 2792 * W i j) (hb : b < m + 1) {Z : Nat → Int} (hZm : Z m = 0) (hZ : ∀ i, i < m → ∃ p q, List.range m = p ++ i :: q ∧ p.length = i ∧ Z i = zi m i W r p q) :
    ∃ v : Int, ((m + 1 : Nat) : Int) * Z b - sl (List.range (m + 1)) Z = v ∧ yb (m + 1) b W r = ((m + 1 : Nat) : Int) * v ∧ wD (m + 1) W = ((m + 1 : Nat) : Int) * (((m + 1 : Nat) : Int) * dR m W) ∧ -1050000000000000 ≤ v ∧ v ≤ 1050000000000000 := by
  have hs := r_sum hr (fun i j hi hj => (hR i j hi hj).1)
  obtain ⟨y, x, t, ht, hx, h0, hv⟩ := ans_eq (b := b) h hc hs hb hZm hZ
  obtain ⟨d0, d1⟩ := dR_le h hc hm
  refine ⟨_, rfl, y, wD_ h hc, ?_⟩
  have u1 := x_le (C := 2792) h hc ht (by decide) hx h0 hr hR hb
  have u2 := x_le (C := 2792) (x := fun i => - x i) (r := fun i => - r i) (R := fun i j => - R i j) h hc ht (by decide) (fun i hi => by
    have e := hx i hi
    rw [sl_congr (g := fun j => - (Lf (m + 1) W i j * x j)) (fun j _ => by grind), sl_neg, e]; grind) (by rw [sl_neg, h0]; rfl) (fun i hi => by rw [sl_neg, hr i hi]) (fun i j hi hj => by
    have e1 := hR i j hi hj
    have e2 := hR j i hj hi
    have e3 := (h.1 i j hi hj).1
    rw [e3]
    omega) hb
  generalize ((m + 1 : Nat) : Int) * Z b - sl (List.range (m + 1)) Z = v at *
  generalize dR m W = D at *
  generalize x b = X at *
  have hm' : ((m + 1 : Nat) : Int) - 1 = m := by omega
  rw [hm'] at u1 u2
  have c1 : 2792 * t * (m : Int) ≤ 13960 * t := by
    have := Int.mul_le_mul_of_nonneg_left (show (m : Int) ≤ 5 by omega) (show 0 ≤ 2792 * t by omega)
    omega
  have nd : 0 ≤ ((m + 1 : Nat) : Int) * D ∧ ((m + 1 : Nat) : Int) * D ≤ 149299200000 := by
    refine ⟨Int.mul_nonneg (by omega) (by omega), ?_⟩
    have e1 : ((m + 1 : Nat) : Int) * D ≤ 6 * D := Int.mul_le_mul_of_nonneg_right (by omega) (by omega)
    omega
  generalize ((m + 1 : Nat) : Int) * D = E at *
  have b1 : E * (2 * X) ≤ E * (13960 * t) := Int.mul_le_mul_of_nonneg_left (by omega) nd.1
  have b2 : E * (2 * - X) ≤ E * (13960 * t) := Int.mul_le_mul_of_nonneg_left (by omega) nd.1
  have b3 : E * (13960 * t) ≤ 149299200000 * (13960 * t) := Int.mul_le_mul_of_nonneg_right nd.2 (by omega)
  have e1 : E * (2 * X) = 2 * (t * v) := by rw [hv]; grind
  have e2 : E * (2 * - X) = - (2 * (t * v)) := by rw [hv]; grind
  rw [e1] at b1
  rw [e2] at b2
  have b4 : t * v ≤ t * 1050000000000000 := by omega
  have b5 : t * (-1050000000000000) ≤ t * v := by omega
  exact ⟨Int.le_of_mul_le_mul_left b5 ht, Int.le_of_mul_le_mul_left b4 ht⟩
end

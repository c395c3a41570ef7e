/-! Rows of PACKETS (mathematics alone). -/
section
def uaD (D : Nat → Nat) : Nat → Nat → Int
  | 0, _ => -1
  | k + 1, p => if D k = p then k else uaD D k p
def usD (D : Nat → Nat) : Nat → Nat → Nat
  | 0, _ => 0
  | k + 1, p => if D k = p then usD D k p + 1 else usD D k p
def rsD (D : Nat → Nat) : Nat → Int
  | 0 => 9
  | k + 1 => if uaD D k (D k) = -1 then rsD D k else min (rsD D k) (k - uaD D k (D k))
def udD (D : Nat → Nat) : Nat → Nat
  | 0 => 0
  | k + 1 => if uaD D k (D k) = -1 then udD D k + 1 else udD D k
def cnD (D : Nat → Nat) (u : Nat) : Nat → Bool
  | 0 => true
  | k + 1 => cnD D u k && decide (usD D (k + 1) (D k) ≤ u)
def xvD (D : Nat → Nat) (m : Nat) : Nat → Nat
  | 0 => 0
  | k + 1 => xvD D m k * m + D k
def btD (D : Nat → Nat) : Nat → Nat
  | 0 => 0
  | k + 1 => btD D k ||| (D k * 2 ^ (2 * k))
/-- all rows but those that rest less -/
def dfs (m R U X : Nat) : Nat → Nat → (Nat → Int) → Int → Nat → Nat → Bool
  | 0, _, _, rest, used, x => decide (rest ≤ R ∧ (rest = R → U ≤ used ∧ X ≤ x))
  | r + 1, k, ua, rest, used, x => (List.range m).all fun p => let rest' := if ua p = -1 then rest else min rest (k - ua p); decide (rest' < R) || dfs m R U X r (k + 1) (fun q => if p = q then k else ua q) rest' (if ua p = -1 then used + 1 else used) (x * m + p)
theorem rs_le (D : Nat → Nat) : ∀ k j, rsD D (k + j) ≤ rsD D k
  | k, 0 => Int.le_refl _
  | k, j + 1 => by
    have := rs_le D k j
    rw [← Nat.add_assoc]
    show (if uaD D (k + j) (D (k + j)) = -1 then rsD D (k + j) else min (rsD D (k + j)) (((k + j : Nat) : Int) - uaD D (k + j) (D (k + j)))) ≤ _
    split <;> omega
theorem dfs_ok {m R U X : Nat} (D : Nat → Nat) : ∀ (r k : Nat), (∀ j, j < k + r → D j < m) → dfs m R U X r k (uaD D k) (rsD D k) (udD D k) (xvD D m k) = true → rsD D (k + r) ≤ R ∧ (rsD D (k + r) = R → U ≤ udD D (k + r) ∧ X ≤ xvD D m (k + r))
  | 0, k, hD, e => by
    unfold dfs at e
    exact of_decide_eq_true e
  | r + 1, k, hD, e => by
    unfold dfs at e
    have e := List.all_eq_true.mp e (D k) (List.mem_range.mpr (hD k (by omega)))
    rw [Bool.or_eq_true] at e
    rcases e with e | e
    · have e : rsD D (k + 1) < R := of_decide_eq_true e
      have := rs_le D (k + 1) r
      rw [show k + (r + 1) = k + 1 + r by omega]
      exact ⟨by omega, fun h => by omega⟩
    · rw [show k + (r + 1) = k + 1 + r by omega]
      exact dfs_ok D r (k + 1) (fun j hj => hD j (by omega)) e
def R_ (n m : Nat) : Nat := if n ≤ m then 9 else m
def U_ (n m : Nat) : Nat := if n ≤ m then n else m
def cyc (m : Nat) (i : Nat) : Nat := i % m
def X_ (n m : Nat) : Nat := xvD (cyc m) m n
/-- what is left of the row's number, and its digits -/
def qd (n m x : Nat) : Nat → Nat
  | 0 => x
  | k + 1 => qd n m x k % m ^ (n - 1 - k)
def dg (n m x k : Nat) : Nat := qd n m x k / m ^ (n - 1 - k)
theorem pk_ok : ((List.range 8).all fun n' => (List.range 4).all fun m' => let n := n' + 1; let m := m' + 1; dfs m (R_ n m) (U_ n m) (X_ n m) n 0 (fun _ => -1) 9 0 0 && decide (X_ n m < m ^ n) && ((List.range n).all fun k => decide (dg n m (X_ n m) k = k % m)) && decide (rsD (cyc m) n = R_ n m ∧ udD (cyc m) n = U_ n m) && ((List.range 8).all fun u' => decide (cnD (cyc m) (u' + 1) n = decide (n ≤ m * (u' + 1))))) = true := by decide +kernel
end
section
variable {n m : Nat}
theorem D_congr {D E : Nat → Nat} : ∀ k, (∀ j, j < k → D j = E j) → (∀ p, uaD D k p = uaD E k p) ∧ (∀ p, usD D k p = usD E k p) ∧ rsD D k = rsD E k ∧ udD D k = udD E k ∧ (∀ u, cnD D u k = cnD E u k) ∧ btD D k = btD E k
  | 0, _ => ⟨fun _ => rfl, fun _ => rfl, rfl, rfl, fun _ => rfl, rfl⟩
  | k + 1, h => by
    obtain ⟨a, b, c, e, f, g⟩ := D_congr k (fun j hj => h j (by omega))
    have hk := h k (by omega)
    have us : ∀ p, usD D (k + 1) p = usD E (k + 1) p := fun p => by unfold usD; rw [hk, b]
    refine ⟨fun p => by unfold uaD; rw [hk, a], us, by unfold rsD; rw [hk, a, c], by unfold udD; rw [hk, a, e], fun u => by unfold cnD; rw [hk, f, us], by unfold btD; rw [hk, g]⟩
theorem qd_lt (hm : 0 < m) {x : Nat} : ∀ k, k ≤ n → x < m ^ n → qd n m x k < m ^ (n - k)
  | 0, _, h => h
  | k + 1, hk, h => by
    unfold qd
    rw [show n - (k + 1) = n - 1 - k by omega]
    exact Nat.mod_lt _ (Nat.pow_pos hm)
theorem dg_lt (hm : 0 < m) {x k : Nat} (hk : k < n) (h : x < m ^ n) : dg n m x k < m := by
  unfold dg
  have := qd_lt hm k (by omega) h
  rw [show n - k = n - 1 - k + 1 by omega, Nat.pow_succ] at this
  exact (Nat.div_lt_iff_lt_mul (Nat.pow_pos hm)).mpr (by rw [Nat.mul_comm]; exact this)
theorem xv_dg (hm : 0 < m) {x : Nat} : ∀ k, k ≤ n → x < m ^ n → x = xvD (dg n m x) m k * m ^ (n - k) + qd n m x k
  | 0, _, h => by simp [xvD, qd]
  | k + 1, hk, h => by
    have e := xv_dg hm k (by omega) h
    have e2 := Nat.div_add_mod (qd n m x k) (m ^ (n - 1 - k))
    show x = (xvD (dg n m x) m k * m + dg n m x k) * m ^ (n - (k + 1)) + qd n m x k % m ^ (n - 1 - k)
    rw [show n - (k + 1) = n - 1 - k by omega, Nat.add_mul, Nat.mul_assoc]
    rw [show n - k = n - 1 - k + 1 by omega, Nat.pow_succ, Nat.mul_comm (m ^ (n - 1 - k)) m] at e
    have e3 : dg n m x k * m ^ (n - 1 - k) = m ^ (n - 1 - k) * (qd n m x k / m ^ (n - 1 - k)) := by unfold dg; rw [Nat.mul_comm]
    omega
theorem xv_n (hm : 0 < m) {x : Nat} (h : x < m ^ n) : xvD (dg n m x) m n = x := by
  have e := xv_dg hm n (Nat.le_refl _) h
  have := qd_lt hm n (Nat.le_refl _) h
  simp at e this
  omega
theorem pk_all (n1 : 1 ≤ n) (n2 : n ≤ 8) (m1 : 1 ≤ m) (m2 : m ≤ 4) : (∀ x, x < m ^ n → rsD (dg n m x) n ≤ R_ n m ∧ (rsD (dg n m x) n = R_ n m → U_ n m ≤ udD (dg n m x) n ∧ X_ n m ≤ x)) ∧ X_ n m < m ^ n ∧ (∀ k, k < n → dg n m (X_ n m) k = k % m) ∧ rsD (cyc m) n = R_ n m ∧ udD (cyc m) n = U_ n m ∧ ∀ u, 1 ≤ u → u ≤ 8 → cnD (cyc m) u n = decide (n ≤ m * u) := by
  have h := List.all_eq_true.mp (List.all_eq_true.mp pk_ok (n - 1) (List.mem_range.mpr (by omega))) (m - 1) (List.mem_range.mpr (by omega))
  simp only [show n - 1 + 1 = n by omega, show m - 1 + 1 = m by omega, Bool.and_eq_true] at h
  obtain ⟨⟨⟨⟨h1, h2⟩, h3⟩, h4⟩, h5⟩ := h
  have h4 := of_decide_eq_true h4
  refine ⟨fun x hx => ?_, of_decide_eq_true h2, fun k hk => of_decide_eq_true (List.all_eq_true.mp h3 k (List.mem_range.mpr hk)), h4.1, h4.2, fun u u1 u2 => ?_⟩
  · have := dfs_ok (dg n m x) n 0 (fun j hj => dg_lt (by omega) (by omega) hx) h1
    rw [Nat.zero_add, xv_n (by omega) hx] at this
    exact this
  · have := of_decide_eq_true (List.all_eq_true.mp h5 (u - 1) (List.mem_range.mpr (by omega)))
    rwa [show u - 1 + 1 = u by omega] at this
theorem us_le {D : Nat → Nat} {u : Nat} : ∀ k, cnD D u k = true → ∀ p, usD D k p ≤ u
  | 0, _, p => Nat.zero_le _
  | k + 1, h, p => by
    unfold cnD at h
    rw [Bool.and_eq_true, decide_eq_true_iff] at h
    by_cases e : D k = p
    · rw [← e]; exact h.2
    · unfold usD; rw [if_neg e]; exact us_le k h.1 p
theorem us_sum {D : Nat → Nat} : ∀ k, (∀ j, j < k → D j < 4) → usD D k 0 + usD D k 1 + usD D k 2 + usD D k 3 = k
  | 0, _ => rfl
  | k + 1, h => by
    have e := us_sum k (fun j hj => h j (by omega))
    have hk := h k (by omega)
    have hc : D k = 0 ∨ D k = 1 ∨ D k = 2 ∨ D k = 3 := by omega
    simp only [usD]
    rcases hc with z | z | z | z <;> rw [z] <;> simp <;> omega
theorem us_0 {D : Nat → Nat} {p : Nat} : ∀ k, (∀ j, j < k → D j ≠ p) → usD D k p = 0
  | 0, _ => rfl
  | k + 1, h => by unfold usD; rw [if_neg (h k (by omega))]; exact us_0 k (fun j hj => h j (by omega))
theorem pk_no {u x : Nat} (m1 : 1 ≤ m) (m2 : m ≤ 4) (h : m * u < n) (hx : x < m ^ n) : cnD (dg n m x) u n = false := by
  cases e : cnD (dg n m x) u n with
  | false => rfl
  | true =>
    exfalso
    have a := us_le n e
    have b := us_sum (D := dg n m x) n (fun j hj => by have := dg_lt (n := n) (by omega) hj hx; omega)
    have c : ∀ p, m ≤ p → usD (dg n m x) n p = 0 := fun p hp => us_0 n (fun j hj => by have := dg_lt (n := n) (by omega) hj hx; omega)
    have a0 := a 0
    have a1 := a 1
    have a2 := a 2
    have a3 := a 3
    have hc : m = 1 ∨ m = 2 ∨ m = 3 ∨ m = 4 := by omega
    rcases hc with rfl | rfl | rfl | rfl
    · rw [c 1 (by omega), c 2 (by omega), c 3 (by omega)] at b; omega
    · rw [c 2 (by omega), c 3 (by omega)] at b; omega
    · rw [c 3 (by omega)] at b; omega
    · omega
theorem bt_lt {D : Nat → Nat} : ∀ k, (∀ j, j < k → D j < 4) → btD D k < 2 ^ (2 * k)
  | 0, _ => by show 0 < 1; decide
  | k + 1, h => by
    have e := bt_lt k (fun j hj => h j (by omega))
    unfold btD
    have hk := h k (by omega)
    have p : 2 ^ (2 * (k + 1)) = 4 * 2 ^ (2 * k) := by rw [show 2 * (k + 1) = 2 * k + 2 by omega, Nat.pow_add, Nat.mul_comm]
    have q : D k * 2 ^ (2 * k) ≤ 3 * 2 ^ (2 * k) := Nat.mul_le_mul_right _ (by omega)
    exact Nat.or_lt_two_pow (by omega) (by omega)
end

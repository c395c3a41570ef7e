/-! TOKENS of a text (mathematics alone). -/
section
/-- on over bytes of this kind -/
def wk (B : Nat → Nat) (n : Nat) (k : Int) : Nat → Nat → Nat
  | 0, a => a
  | f + 1, a => if a < n ∧ kd (B a) = k then wk B n k f (a + 1) else a
/-- the kind of the TOKEN that begins here -/
def tkd (B : Nat → Nat) (n b : Nat) : Int := if b < n then kd (B b) else 0
/-- behind the TOKEN that begins here -/
def te (B : Nat → Nat) (n b : Nat) : Nat := if b < n then (if kd (B b) = 1 ∨ kd (B b) = 2 then wk B n (kd (B b)) (n - (b + 1)) (b + 1) else b + 1) else b
/-- the first place from here on that is no blank -/
def bl (B : Nat → Nat) (n a : Nat) : Nat := wk B n 5 (n - a) a
def nxT (B : Nat → Nat) (n b : Nat) : Nat := bl B n (te B n b)
/-- the value of the first k digits, and what the greatest number told apart makes of it -/
def dv (B : Nat → Nat) (b : Nat) : Nat → Nat
  | 0 => 0
  | k + 1 => dv B b k * 10 + (B (b + k) - 48)
def cv (B : Nat → Nat) (b : Nat) : Nat → Nat
  | 0 => 0
  | k + 1 => min 1000000 (10 * cv B b k + (B (b + k) - 48))
/-- the number of the first k letters -/
def nc (B : Nat → Nat) (b : Nat) : Nat → Nat
  | 0 => 0
  | k + 1 => nc B b k * 27 + (B (b + k) - 96)
def tl (B : Nat → Nat) (n b : Nat) : Nat := te B n b - b
variable {B : Nat → Nat} {n : Nat}
theorem wk_b {k : Int} : ∀ f a, a ≤ wk B n k f a ∧ wk B n k f a ≤ a + f ∧ (a ≤ n → wk B n k f a ≤ n)
  | 0, a => ⟨Nat.le_refl _, Nat.le_refl _, id⟩
  | f + 1, a => by
    unfold wk
    by_cases h : a < n ∧ kd (B a) = k
    · rw [if_pos h]
      have := wk_b f (a + 1) (k := k)
      omega
    · rw [if_neg h]; omega
theorem wk_all {k : Int} : ∀ f a j, a ≤ j → j < wk B n k f a → j < n ∧ kd (B j) = k
  | 0, a, j, h1, h2 => by unfold wk at h2; omega
  | f + 1, a, j, h1, h2 => by
    unfold wk at h2
    by_cases h : a < n ∧ kd (B a) = k
    · rw [if_pos h] at h2
      by_cases e : j = a
      · rw [e]; exact h
      · exact wk_all f (a + 1) j (by omega) h2
    · rw [if_neg h] at h2; omega
theorem wk_stop {k : Int} : ∀ f a, n ≤ a + f → ¬ (wk B n k f a < n ∧ kd (B (wk B n k f a)) = k)
  | 0, a, h => by unfold wk; omega
  | f + 1, a, h => by
    unfold wk
    by_cases e : a < n ∧ kd (B a) = k
    · rw [if_pos e]; exact wk_stop f (a + 1) (by omega)
    · rw [if_neg e]; exact e
theorem bl_b {a : Nat} : a ≤ bl B n a ∧ (a ≤ n → bl B n a ≤ n) := ⟨(wk_b _ _).1, (wk_b _ _).2.2⟩
theorem bl_all {a j : Nat} (h1 : a ≤ j) (h2 : j < bl B n a) : j < n ∧ kd (B j) = 5 := wk_all _ _ j h1 h2
theorem bl_stop {a : Nat} : ¬ (bl B n a < n ∧ kd (B (bl B n a)) = 5) := wk_stop _ _ (by omega)
theorem te_b {b : Nat} : b ≤ te B n b ∧ (b ≤ n → te B n b ≤ n) ∧ (b < n → b < te B n b) ∧ (n ≤ b → te B n b = b) := by
  unfold te
  by_cases h : b < n
  · rw [if_pos h]
    by_cases h2 : kd (B b) = 1 ∨ kd (B b) = 2
    · rw [if_pos h2]
      have := wk_b (B := B) (n := n) (k := kd (B b)) (n - (b + 1)) (b + 1)
      omega
    · rw [if_neg h2]; omega
  · rw [if_neg h]; omega
theorem te_1 {b : Nat} (h : b < n) (h2 : kd (B b) = 1 ∨ kd (B b) = 2) : te B n b = wk B n (kd (B b)) (n - (b + 1)) (b + 1) := by
  unfold te; rw [if_pos h, if_pos h2]
theorem te_3 {b : Nat} (h : b < n) (h2 : ¬ (kd (B b) = 1 ∨ kd (B b) = 2)) : te B n b = b + 1 := by
  unfold te; rw [if_pos h, if_neg h2]
theorem te_all {b j : Nat} (h2 : tkd B n b = 1 ∨ tkd B n b = 2) (h3 : b ≤ j) (h4 : j < te B n b) : j < n ∧ kd (B j) = tkd B n b := by
  unfold tkd at h2 ⊢
  by_cases h : b < n
  · rw [if_pos h] at h2 ⊢
    by_cases e : j = b
    · rw [e]; exact ⟨h, rfl⟩
    · rw [te_1 h h2] at h4
      exact wk_all _ _ j (by omega) h4
  · rw [if_neg h] at h2; omega
theorem te_stop {b : Nat} (h2 : tkd B n b = 1 ∨ tkd B n b = 2) : ¬ (te B n b < n ∧ kd (B (te B n b)) = tkd B n b) := by
  unfold tkd at h2 ⊢
  by_cases h : b < n
  · rw [if_pos h] at h2 ⊢
    rw [te_1 h h2]
    exact wk_stop _ _ (by omega)
  · rw [if_neg h] at h2; omega
theorem nxT_b {b : Nat} : b ≤ nxT B n b ∧ (b ≤ n → nxT B n b ≤ n) ∧ (b < n → b < nxT B n b) := by
  have h1 := te_b (B := B) (n := n) (b := b)
  have h2 := bl_b (B := B) (n := n) (a := te B n b)
  unfold nxT
  refine ⟨by omega, fun h => h2.2 (h1.2.1 h), fun h => by omega⟩
theorem kd_1 {z : Int} : kd z = 1 ↔ 97 ≤ z ∧ z ≤ 122 := by
  unfold kd
  by_cases h : 97 ≤ z ∧ z ≤ 122
  · rw [if_pos h]; omega
  · rw [if_neg h]
    constructor
    · intro e; split at e
      · omega
      · split at e
        · omega
        · split at e <;> omega
    · omega
theorem kd_2 {z : Int} : kd z = 2 ↔ 48 ≤ z ∧ z ≤ 57 := by
  unfold kd
  by_cases h : 97 ≤ z ∧ z ≤ 122
  · rw [if_pos h]; omega
  · rw [if_neg h]
    by_cases h2 : 48 ≤ z ∧ z ≤ 57
    · rw [if_pos h2]; omega
    · rw [if_neg h2]
      constructor
      · intro e; split at e
        · omega
        · split at e <;> omega
      · omega
theorem kd_5 {z : Int} : kd z = 5 ↔ z = 32 ∨ z = 10 := by
  unfold kd
  by_cases h : 97 ≤ z ∧ z ≤ 122
  · rw [if_pos h]; omega
  · rw [if_neg h]
    by_cases h2 : 48 ≤ z ∧ z ≤ 57
    · rw [if_pos h2]; omega
    · rw [if_neg h2]
      by_cases h3 : z = 32 ∨ z = 10
      · rw [if_pos h3]; omega
      · rw [if_neg h3]
        constructor
        · intro e; split at e <;> omega
        · omega
theorem kd_3 {z : Int} : kd z = 3 ↔ isSg z := by
  unfold kd isSg
  by_cases h : 97 ≤ z ∧ z ≤ 122
  · rw [if_pos h]; omega
  · rw [if_neg h]
    by_cases h2 : 48 ≤ z ∧ z ≤ 57
    · rw [if_pos h2]; omega
    · rw [if_neg h2]
      by_cases h3 : z = 32 ∨ z = 10
      · rw [if_pos h3]; omega
      · rw [if_neg h3]
        by_cases h4 : (z = 59 ∨ z = 44 ∨ z = 40 ∨ z = 41 ∨ z = 43 ∨ z = 45 ∨ z = 42 ∨ z = 47 ∨ z = 60 ∨ z = 61)
        · rw [if_pos h4]; omega
        · rw [if_neg h4]; omega
theorem kd_b {z : Int} : 1 ≤ kd z ∧ kd z ≤ 5 := by
  unfold kd
  split
  · omega
  · split
    · omega
    · split
      · omega
      · split <;> omega
theorem tkd_b {b : Nat} : 0 ≤ tkd B n b ∧ tkd B n b ≤ 5 := by
  unfold tkd
  have := kd_b (z := B b)
  split <;> omega
theorem dv_b (b : Nat) : ∀ k, (∀ j, j < k → kd (B (b + j)) = 2) → dv B b k < 10 ^ k
  | 0, _ => by show 0 < 1; decide
  | k + 1, h => by
    have h1 := dv_b b k (fun j hj => h j (by omega))
    have h2 := kd_2.mp (h k (by omega))
    unfold dv
    rw [Nat.pow_succ]
    omega
theorem cv_dv (b : Nat) : ∀ k, k ≤ 5 → (∀ j, j < k → kd (B (b + j)) = 2) → cv B b k = dv B b k
  | 0, _, _ => rfl
  | k + 1, h5, h => by
    have e := cv_dv b k (by omega) (fun j hj => h j (by omega))
    have h1 := dv_b b (k + 1) h
    have h3 : 10 ^ (k + 1) ≤ 10 ^ 5 := Nat.pow_le_pow_right (by decide) h5
    have h4 : (10 : Nat) ^ 5 = 100000 := rfl
    unfold cv
    rw [e]
    have : dv B b (k + 1) = dv B b k * 10 + (B (b + k) - 48) := rfl
    omega
theorem cv_b (b : Nat) : ∀ k, cv B b k ≤ 1000000
  | 0 => by unfold cv; omega
  | k + 1 => by unfold cv; omega
theorem nc_b (b : Nat) : ∀ k, (∀ j, j < k → kd (B (b + j)) = 1) → nc B b k < 27 ^ k
  | 0, _ => by show 0 < 1; decide
  | k + 1, h => by
    have h1 := nc_b b k (fun j hj => h j (by omega))
    have h2 := kd_1.mp (h k (by omega))
    unfold nc
    rw [Nat.pow_succ]
    omega
theorem nc_inj {B' : Nat → Nat} {b b' : Nat} : ∀ k k', (∀ j, j < k → kd (B (b + j)) = 1) → (∀ j, j < k' → kd (B' (b' + j)) = 1) → nc B b k = nc B' b' k' → k = k' ∧ ∀ j, j < k → B (b + j) = B' (b' + j)
  | 0, 0, _, _, _ => ⟨rfl, fun j hj => by omega⟩
  | 0, k' + 1, _, h', e => by
    have h2 := kd_1.mp (h' k' (by omega))
    unfold nc at e
    omega
  | k + 1, 0, h, _, e => by
    have h2 := kd_1.mp (h k (by omega))
    unfold nc at e
    omega
  | k + 1, k' + 1, h, h', e => by
    have h2 := kd_1.mp (h k (by omega))
    have h3 := kd_1.mp (h' k' (by omega))
    unfold nc at e
    have e1 : nc B b k = nc B' b' k' := by omega
    have e2 : B (b + k) = B' (b' + k') := by omega
    obtain ⟨r1, r2⟩ := nc_inj k k' (fun j hj => h j (by omega)) (fun j hj => h' j (by omega)) e1
    subst r1
    refine ⟨rfl, fun j hj => ?_⟩
    by_cases z : j = k
    · rw [z]; exact e2
    · exact r2 j (by omega)
theorem nc_congr {B' : Nat → Nat} {b b' : Nat} : ∀ k, (∀ j, j < k → B (b + j) = B' (b' + j)) → nc B b k = nc B' b' k
  | 0, _ => rfl
  | k + 1, h => by unfold nc; rw [nc_congr k (fun j hj => h j (by omega)), h k (by omega)]
end

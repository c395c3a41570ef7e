/-! Words of the document in a text. -/
section
/-- which one of the words, parted by blanks, the bytes from s to e are -/
def am (B : Nat → Nat) (s e : Nat) : List Nat → Nat → Nat → Bool → Int
  | [], w, p, same => if same = true ∧ p = e then w else -1
  | c :: cs, w, p, same => if c ≠ 32 then am B s e cs w (p + 1) (same && decide (p < e ∧ B p = c)) else if same = true ∧ p = e then w else am B s e cs (w + 1) s true
def mtc (B : Nat → Nat) (e : Nat) : List Nat → Nat → Bool
  | [], _ => true
  | c :: cs, p => decide (p < e ∧ B p = c) && mtc B e cs (p + 1)
/-- the bytes from s to e are this word -/
def wEq (B : Nat → Nat) (s e : Nat) (x : List Nat) : Bool := mtc B e x s && decide (s + x.length = e)
def wi (B : Nat → Nat) (s e : Nat) : List (List Nat) → Nat → Int
  | [], _ => -1
  | x :: xs, w => if wEq B s e x = true then w else wi B s e xs (w + 1)
def jn : List (List Nat) → List Nat
  | [] => []
  | [x] => x
  | x :: y :: xs => x ++ 32 :: jn (y :: xs)
variable {B : Nat → Nat} {s e : Nat}
theorem am_word {rest : List Nat} : ∀ (x : List Nat) (w p : Nat) (same : Bool), (∀ c, c ∈ x → c ≠ 32) → am B s e (x ++ rest) w p same = am B s e rest w (p + x.length) (same && mtc B e x p)
  | [], w, p, same, _ => by simp [mtc]
  | c :: cs, w, p, same, h => by
    show (if c ≠ 32 then am B s e (cs ++ rest) w (p + 1) (same && decide (p < e ∧ B p = c)) else if same = true ∧ p = e then (w : Int) else am B s e (cs ++ rest) (w + 1) s true) = _
    rw [if_pos (h c (List.mem_cons_self ..)), am_word cs w (p + 1) _ (fun c hc => h c (List.mem_cons_of_mem _ hc))]
    simp only [List.length_cons, mtc, Bool.and_assoc]
    rw [show p + 1 + cs.length = p + (cs.length + 1) by omega]
theorem am_jn : ∀ (xs : List (List Nat)) (x : List Nat) (w : Nat), (∀ y, y ∈ x :: xs → ∀ c, c ∈ y → c ≠ 32) → am B s e (jn (x :: xs)) w s true = wi B s e (x :: xs) w
  | [], x, w, h => by
    have := am_word (B := B) (s := s) (e := e) (rest := []) x w s true (h x (List.mem_cons_self ..))
    rw [List.append_nil] at this
    show am B s e x w s true = _
    rw [this]
    unfold am wi wi wEq
    simp
  | y :: xs, x, w, h => by
    show am B s e (x ++ 32 :: jn (y :: xs)) w s true = _
    rw [am_word x w s true (h x (List.mem_cons_self ..))]
    unfold am
    rw [if_neg (by simp), am_jn xs y (w + 1) (fun z hz => h z (List.mem_cons_of_mem _ hz))]
    conv => rhs; unfold wi
    unfold wEq
    simp
theorem wi_b : ∀ (xs : List (List Nat)) (w : Nat), -1 ≤ wi B s e xs w ∧ wi B s e xs w < w + xs.length
  | [], w => ⟨Int.le_refl _, by show (-1 : Int) < _; simp; omega⟩
  | x :: xs, w => by
    have := wi_b xs (w + 1)
    unfold wi
    split
    · simp; omega
    · simp at this ⊢; omega
theorem wi_iff : ∀ (xs : List (List Nat)) (w k : Nat), wi B s e xs w = ((w + k : Nat) : Int) ↔ ∃ x, xs[k]? = some x ∧ wEq B s e x = true ∧ ∀ j y, j < k → xs[j]? = some y → wEq B s e y = false
  | [], w, k => by
    constructor
    · intro h; simp [wi] at h; omega
    · rintro ⟨x, h, _⟩; simp at h
  | x :: xs, w, 0 => by
    unfold wi
    by_cases h : wEq B s e x = true
    · rw [if_pos h]; simp [h]
    · rw [if_neg h]
      have := wi_b (B := B) (s := s) (e := e) xs (w + 1)
      constructor
      · intro z
        have : ∀ (xs : List (List Nat)) (w' : Nat), w < w' → wi B s e xs w' ≠ w := by
          intro xs
          induction xs with
          | nil => intro w' _ z; simp [wi] at z
          | cons y ys ih =>
            intro w' hw z
            unfold wi at z
            split at z
            · omega
            · exact ih (w' + 1) (by omega) z
        exact absurd z (by simpa using this xs (w + 1) (by omega))
      · rintro ⟨y, h1, h2, _⟩
        simp at h1
        rw [← h1] at h2
        exact absurd h2 h
  | x :: xs, w, k + 1 => by
    unfold wi
    by_cases h : wEq B s e x = true
    · rw [if_pos h]
      constructor
      · intro z; omega
      · rintro ⟨y, h1, h2, h3⟩
        have := h3 0 x (by omega) rfl
        rw [h] at this; cases this
    · rw [if_neg h, show w + (k + 1) = w + 1 + k by omega, wi_iff xs (w + 1) k]
      constructor
      · rintro ⟨y, h1, h2, h3⟩
        refine ⟨y, h1, h2, fun j z hj hz => ?_⟩
        match j, hj, hz with
        | 0, _, hz => simp at hz; rw [← hz]; simpa using h
        | j + 1, hj, hz => exact h3 j z (by omega) hz
      · rintro ⟨y, h1, h2, h3⟩
        exact ⟨y, h1, h2, fun j z hj hz => h3 (j + 1) z (by omega) hz⟩
theorem wi_none : ∀ (xs : List (List Nat)) (w : Nat), wi B s e xs w = -1 ↔ ∀ x, x ∈ xs → wEq B s e x = false
  | [], w => by simp [wi]
  | x :: xs, w => by
    unfold wi
    by_cases h : wEq B s e x = true
    · rw [if_pos h]
      constructor
      · intro z; omega
      · intro z; rw [z x (List.mem_cons_self ..)] at h; cases h
    · rw [if_neg h, wi_none xs (w + 1)]
      simp at h
      simp [h]
/-- unlike words are not both there -/
theorem mtc_eq : ∀ (x y : List Nat) (p : Nat), x.length = y.length → mtc B e x p = true → mtc B e y p = true → x = y
  | [], [], _, _, _, _ => rfl
  | [], _ :: _, _, h, _, _ => by simp at h
  | _ :: _, [], _, h, _, _ => by simp at h
  | c :: cs, d :: ds, p, h, h1, h2 => by
    simp [mtc] at h1 h2
    rw [mtc_eq cs ds (p + 1) (by simpa using h) h1.2 h2.2, show c = d by omega]
theorem wEq_eq {x y : List Nat} (h1 : wEq B s e x = true) (h2 : wEq B s e y = true) : x = y := by
  unfold wEq at h1 h2
  simp at h1 h2
  exact mtc_eq x y s (by omega) h1.1 h2.1
theorem mtc_iff : ∀ (x : List Nat) (p : Nat), mtc B e x p = true ↔ ∀ j c, x[j]? = some c → p + j < e ∧ B (p + j) = c
  | [], p => by simp [mtc]
  | c :: cs, p => by
    simp only [mtc, Bool.and_eq_true, decide_eq_true_iff]
    rw [mtc_iff cs (p + 1)]
    constructor
    · rintro ⟨h1, h2⟩ j c' hc
      match j, hc with
      | 0, hc => simp at hc; rw [← hc]; exact h1
      | j + 1, hc => have := h2 j c' hc; rwa [show p + 1 + j = p + (j + 1) by omega] at this
    · intro h
      refine ⟨h 0 c rfl, fun j c' hc => ?_⟩
      have := h (j + 1) c' hc
      rwa [show p + (j + 1) = p + 1 + j by omega] at this
theorem str_ok : sTxt 2 = jn [sTxt 12, sTxt 13, sTxt 14, sTxt 15, sTxt 16, sTxt 17, sTxt 18, sTxt 19, sTxt 20, sTxt 21, sTxt 22, sTxt 23, sTxt 24, sTxt 25, sTxt 26, sTxt 27, sTxt 28, sTxt 29] ∧ sTxt 3 = jn [sTxt 13, sTxt 15, sTxt 16, sTxt 17, sTxt 18] ∧ sTxt 6 = jn [sTxt 24, sTxt 25, sTxt 26, sTxt 27, sTxt 28, sTxt 29, sTxt 19] ∧ sTxt 1 = sTxt 12 ∧ sTxt 4 = sTxt 14 ∧ sTxt 5 = sTxt 23 ∧ sTxt 7 = sTxt 21 ∧ sTxt 8 = sTxt 22 ∧ sTxt 9 = sTxt 19 ∧ sTxt 10 = sTxt 19 ∧ sTxt 11 = sTxt 20 := by decide +kernel
theorem str_32 : ((List.range 30).all fun k => k < 12 || ((sTxt k).all fun c => decide (97 ≤ c ∧ c ≤ 122))) = true := by decide +kernel
theorem str_ne {k : Nat} (h1 : 12 ≤ k) (h2 : k < 30) : ∀ c, c ∈ sTxt k → 97 ≤ c ∧ c ≤ 122 := by
  have := List.all_eq_true.mp str_32 k (List.mem_range.mpr h2)
  rw [Bool.or_eq_true] at this
  rcases this with z | z
  · simp at z; omega
  · intro c hc
    exact of_decide_eq_true (List.all_eq_true.mp z c hc)
theorem str_inj : ((List.range 30).all fun k => (List.range 30).all fun l => k < 12 || l < 12 || decide (sTxt k = sTxt l → k = l)) = true := by decide +kernel
end

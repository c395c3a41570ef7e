/-! The first order there is (mathematics alone). -/
section
/-- the first that there is -/
def fst1 {α : Type} (F : Nat → Option α) : Nat → Nat → Option α
  | 0, _ => none
  | m + 1, i => match F i with
    | some r => some r
    | none => fst1 F m (i + 1)
theorem fst1_iff {α : Type} {F : Nat → Option α} : ∀ m i, (fst1 F m i).isSome ↔ ∃ j, i ≤ j ∧ j < i + m ∧ (F j).isSome
  | 0, i => by unfold fst1; simp; intro j h1 h2; omega
  | m + 1, i => by
    unfold fst1
    split
    · next r h => simp; exact ⟨i, Nat.le_refl _, by omega, by rw [h]; rfl⟩
    · next h =>
      rw [fst1_iff m (i + 1)]
      constructor
      · rintro ⟨j, h1, h2, h3⟩; exact ⟨j, by omega, by omega, h3⟩
      · rintro ⟨j, h1, h2, h3⟩
        have : j ≠ i := fun e => by rw [e, h] at h3; cases h3
        exact ⟨j, by omega, by omega, h3⟩
theorem fst1_skip {α : Type} {F : Nat → Option α} : ∀ (k m i : Nat), (∀ j, i ≤ j → j < i + k → F j = none) → k ≤ m → fst1 F m i = fst1 F (m - k) (i + k)
  | 0, m, i, _, _ => rfl
  | k + 1, 0, i, _, h2 => by omega
  | k + 1, m + 1, i, h, h2 => by
    rw [show fst1 F (m + 1) i = fst1 F m (i + 1) by
      conv => lhs; unfold fst1
      rw [h i (Nat.le_refl _) (by omega)]]
    rw [fst1_skip k m (i + 1) (fun j h1 h3 => h j (by omega) (by omega)) (by omega), show m + 1 - (k + 1) = m - k by omega, show i + 1 + k = i + (k + 1) by omega]
theorem fst1_at {α : Type} {F : Nat → Option α} {n i : Nat} {r : α} (h : ∀ j, j < i → F j = none) (hi : i < n) (e : F i = some r) : fst1 F n 0 = some r := by
  rw [fst1_skip i n 0 (fun j _ h2 => h j (by omega)) (by omega), Nat.zero_add]
  obtain ⟨m, hm⟩ : ∃ m, n - i = m + 1 := ⟨n - i - 1, by omega⟩
  rw [hm]
  unfold fst1
  rw [e]
theorem fst1_none {α : Type} {F : Nat → Option α} {n : Nat} (h : ∀ j, j < n → F j = none) : fst1 F n 0 = none := by
  rw [fst1_skip n n 0 (fun j _ h2 => h j (by omega)) (by omega), Nat.sub_self]
  rfl
abbrev okAt (h : Nat → Nat) (g : Nat) (pl : Nat → Nat) (place i : Nat) : Prop := ∀ p, p < place → pl p ≠ i ∧ (place - p < g → h (pl p) ≠ h i)
def sk (h : Nat → Nat) (g n : Nat) : Nat → Nat → (Nat → Nat) → Option (Nat → Nat)
  | 0, _, pl => some pl
  | f + 1, place, pl => fst1 (fun i => if okAt h g pl place i then sk h g n f (place + 1) (fu pl place i) else none) n 0
variable {h : Nat → Nat} {g n : Nat}
theorem sk_iff {f place : Nat} {pl : Nat → Nat} : (sk h g n (f + 1) place pl).isSome ↔ ∃ i, i < n ∧ okAt h g pl place i ∧ (sk h g n f (place + 1) (fu pl place i)).isSome := by
  rw [sk, fst1_iff]
  constructor
  · rintro ⟨j, _, h2, h3⟩
    by_cases e : okAt h g pl place j
    · rw [if_pos e] at h3; exact ⟨j, by omega, e, h3⟩
    · rw [if_neg e] at h3; cases h3
  · rintro ⟨j, h1, h2, h3⟩
    exact ⟨j, by omega, by omega, by rw [if_pos h2]; exact h3⟩
theorem ok_congr {pl pl' : Nat → Nat} {place i : Nat} (e : ∀ p, p < place → pl p = pl' p) (k : okAt h g pl place i) : okAt h g pl' place i := fun p hp => by rw [← e p hp]; exact k p hp
theorem sk_tau {t : Nat → Nat} (t1 : ∀ x, t (t x) = x) (t2 : ∀ x, h (t x) = h x) (t3 : ∀ x, x < n → t x < n) : ∀ (f place : Nat) (pl pl' : Nat → Nat), (∀ p, p < place → pl' p = t (pl p)) → (sk h g n f place pl).isSome → (sk h g n f place pl').isSome
  | 0, _, _, _, _, _ => rfl
  | f + 1, place, pl, pl', e, k => by
    rw [sk_iff] at k ⊢
    obtain ⟨i, i1, i2, i3⟩ := k
    refine ⟨t i, t3 i i1, fun p hp => ?_, sk_tau t1 t2 t3 f (place + 1) _ _ (fun p hp => ?_) i3⟩
    · rw [e p hp, t2, t2]
      exact ⟨fun z => (i2 p hp).1 (by rw [← t1 (pl p), z, t1]), (i2 p hp).2⟩
    · unfold fu
      by_cases z : p = place
      · rw [if_pos z, if_pos z]
      · rw [if_neg z, if_neg z]; exact e p (by omega)
/-- DOGS of one HANDLER fit alike or not at all -/
theorem sk_skip {f place i j : Nat} {pl : Nat → Nat} (hi : i < n) (hj : j < n) (oi : okAt h g pl place i) (oj : okAt h g pl place j) (e : h i = h j) (k : sk h g n f (place + 1) (fu pl place i) = none) : sk h g n f (place + 1) (fu pl place j) = none := by
  cases hs : sk h g n f (place + 1) (fu pl place j) with
  | none => rfl
  | some r =>
    exfalso
    have := sk_tau (h := h) (g := g) (n := n) (t := fun x => if x = i then j else if x = j then i else x) (fun x => by
      by_cases h1 : x = i
      · subst h1; simp
      · by_cases h2 : x = j
        · subst h2; simp [h1]
        · simp [h1, h2]) (fun x => by
      by_cases h1 : x = i
      · subst h1; simp [e]
      · by_cases h2 : x = j
        · subst h2; simp [h1, e]
        · simp [h1, h2]) (fun x hx => by
      by_cases h1 : x = i
      · subst h1; simpa using hj
      · by_cases h2 : x = j
        · subst h2; simpa [h1] using hi
        · simpa [h1, h2] using hx) f (place + 1) (fu pl place j) (fu pl place i) (fun p hp => by
      unfold fu
      by_cases h1 : p = place
      · rw [if_pos h1, if_pos h1]
        by_cases h2 : j = i
        · subst h2; simp
        · simp [h2]
      · rw [if_neg h1, if_neg h1, if_neg (oi p (by omega)).1, if_neg (oj p (by omega)).1]) (by rw [hs]; rfl)
    rw [k] at this
    cases this
def cnt (P : Nat → Bool) : Nat → Nat
  | 0 => 0
  | n + 1 => cnt P n + if P n then 1 else 0
theorem cnt_le {P Q : Nat → Bool} (k : ∀ i, P i = true → Q i = true) : ∀ n, cnt P n ≤ cnt Q n
  | 0 => Nat.le_refl _
  | n + 1 => by
    have := cnt_le k n
    have := k n
    unfold cnt
    cases h1 : P n <;> cases h2 : Q n <;> simp_all <;> omega
theorem cnt_eq {P Q : Nat → Bool} : ∀ n, (∀ i, i < n → P i = Q i) → cnt P n = cnt Q n
  | 0, _ => rfl
  | n + 1, k => by unfold cnt; rw [cnt_eq n (fun i hi => k i (by omega)), k n (by omega)]
theorem cnt_drop {P Q : Nat → Bool} {i : Nat} : ∀ n, i < n → P i = true → Q i = false → (∀ j, j < n → j ≠ i → Q j = P j) → cnt Q n + 1 = cnt P n
  | 0, hi, _, _, _ => by omega
  | n + 1, hi, p, q, k => by
    unfold cnt
    by_cases e : i = n
    · subst e
      rw [p, q, cnt_eq i (fun j hj => k j (by omega) (by omega))]
      simp
    · have := cnt_drop n (by omega) p q (fun j hj => k j (by omega))
      rw [k n (by omega) (fun z => e z.symm)]
      omega
theorem cnt_pos {P : Nat → Bool} {i : Nat} : ∀ n, i < n → P i = true → 0 < cnt P n
  | 0, hi, _ => by omega
  | n + 1, hi, p => by
    unfold cnt
    by_cases e : i = n
    · subst e; rw [p]; simp
    · have := cnt_pos n (by omega) p; omega
/-- not yet in a place -/
def frB (pl : Nat → Nat) (place i : Nat) : Bool := decide (∀ p, p < place → pl p ≠ i)
/-- how many of this HANDLER are not yet in a place -/
def opN (h : Nat → Nat) (n : Nat) (pl : Nat → Nat) (place k : Nat) : Nat := cnt (fun i => frB pl place i && decide (h i = k)) n
/-- where the next of this HANDLER may stand -/
def nxN (h : Nat → Nat) (g : Nat) (pl : Nat → Nat) : Nat → Nat → Nat
  | 0, _ => 0
  | p + 1, k => if h (pl p) = k then p + g else nxN h g pl p k
theorem nx_iff {pl : Nat → Nat} {k q : Nat} : ∀ place, nxN h g pl place k ≤ q ↔ ∀ p, p < place → h (pl p) = k → p + g ≤ q
  | 0 => by unfold nxN; simp
  | place + 1 => by
    unfold nxN
    by_cases e : h (pl place) = k
    · rw [if_pos e]
      exact ⟨fun z p hp _ => by omega, fun z => z place (by omega) e⟩
    · rw [if_neg e, nx_iff place]
      refine ⟨fun z p hp he => ?_, fun z p hp he => z p (by omega) he⟩
      by_cases e2 : p = place
      · subst e2; exact absurd he e
      · exact z p (by omega) he
theorem ok_iff {pl : Nat → Nat} {place i : Nat} : okAt h g pl place i ↔ frB pl place i = true ∧ nxN h g pl place (h i) ≤ place := by
  unfold frB
  rw [nx_iff, decide_eq_true_iff]
  constructor
  · intro k
    refine ⟨fun p hp => (k p hp).1, fun p hp e => ?_⟩
    have := (k p hp).2
    by_cases z : place - p < g
    · exact absurd e (this z)
    · omega
  · rintro ⟨k1, k2⟩ p hp
    refine ⟨k1 p hp, fun z e => ?_⟩
    have := k2 p hp e
    omega
theorem nx_fu {pl : Nat → Nat} {i k : Nat} : ∀ {place q : Nat}, place ≤ q → nxN h g (fu pl q i) place k = nxN h g pl place k
  | 0, _, _ => rfl
  | p + 1, q, hq => by
    unfold nxN
    rw [nx_fu (place := p) (q := q) (by omega), show fu pl q i p = pl p from if_neg (by omega)]
theorem nx_s {pl : Nat → Nat} {i k place : Nat} : nxN h g (fu pl place i) (place + 1) k = if h i = k then place + g else nxN h g pl place k := by
  show (if h (fu pl place i place) = k then place + g else nxN h g (fu pl place i) place k) = _
  rw [nx_fu (Nat.le_refl _), show fu pl place i place = i from if_pos rfl]
theorem fr_s {pl : Nat → Nat} {i j place : Nat} : frB (fu pl place i) (place + 1) j = (frB pl place j && decide (j ≠ i)) := by
  unfold frB
  rw [Bool.eq_iff_iff, Bool.and_eq_true, decide_eq_true_iff, decide_eq_true_iff, decide_eq_true_iff]
  constructor
  · intro k
    refine ⟨fun p hp => ?_, fun e => k place (by omega) (by rw [e]; exact if_pos rfl)⟩
    have := k p (by omega)
    rwa [show fu pl place i p = pl p from if_neg (by omega)] at this
  · rintro ⟨k1, k2⟩ p hp
    by_cases e : p = place
    · rw [e, show fu pl place i place = i from if_pos rfl]; exact fun z => k2 z.symm
    · rw [show fu pl place i p = pl p from if_neg e]; exact k1 p (by omega)
theorem opn_s {pl : Nat → Nat} {i k place : Nat} (hi : i < n) (fr : frB pl place i = true) : opN h n pl place k = opN h n (fu pl place i) (place + 1) k + if h i = k then 1 else 0 := by
  unfold opN
  by_cases e : h i = k
  · rw [if_pos e]
    refine (cnt_drop (i := i) n hi (by rw [fr, Bool.true_and]; exact decide_eq_true e) (by rw [fr_s]; simp) (fun j hj hn => ?_)).symm
    rw [fr_s]; simp [hn]
  · rw [if_neg e]
    refine cnt_eq n (fun j hj => ?_)
    rw [fr_s]
    by_cases z : j = i
    · subst z; simp [e]
    · simp [z]
theorem all_s {pl : Nat → Nat} {i place : Nat} (hi : i < n) (fr : frB pl place i = true) : cnt (frB pl place) n = cnt (frB (fu pl place i) (place + 1)) n + 1 := by
  refine (cnt_drop (i := i) n hi fr (by rw [fr_s]; simp) (fun j hj hn => ?_)).symm
  rw [fr_s]; simp [hn]
/-- what has an order leaves room for all -/
theorem sk_room (hg : 1 ≤ g) : ∀ (f place : Nat) (pl : Nat → Nat) (k : Nat), f + place = n → cnt (frB pl place) n = f → (sk h g n f place pl).isSome → 0 < opN h n pl place k → max place (nxN h g pl place k) + (opN h n pl place k - 1) * g < n
  | 0, place, pl, k, e, c, s, o => by
    have : opN h n pl place k ≤ cnt (frB pl place) n := cnt_le (fun i hi => by simp at hi; exact hi.1) n
    omega
  | f + 1, place, pl, k, e, c, s, o => by
    rw [sk_iff] at s
    obtain ⟨i, i1, i2, i3⟩ := s
    rw [ok_iff] at i2
    have a := all_s i1 i2.1
    have o' := opn_s (h := h) (k := k) i1 i2.1
    have ih := sk_room hg f (place + 1) (fu pl place i) k (by omega) (by omega) i3
    rw [nx_s] at ih
    by_cases z : h i = k
    · rw [if_pos z] at o' ih
      have i22 := i2.2
      rw [z] at i22
      by_cases y : 0 < opN h n (fu pl place i) (place + 1) k
      · have := ih y
        rw [show max (place + 1) (place + g) = place + g by omega] at this
        rw [show max place (nxN h g pl place k) = place by omega, o', Nat.add_sub_cancel]
        obtain ⟨m, hm⟩ : ∃ m, opN h n (fu pl place i) (place + 1) k = m + 1 := ⟨_, (Nat.succ_pred_eq_of_pos y).symm⟩
        rw [hm] at this ⊢
        rw [Nat.add_sub_cancel] at this
        rw [Nat.succ_mul]
        omega
      · rw [o', show opN h n (fu pl place i) (place + 1) k = 0 by omega]
        simp
        omega
    · rw [if_neg z] at o' ih
      rw [o']
      have := ih (by omega)
      have w : max place (nxN h g pl place k) ≤ max (place + 1) (nxN h g pl place k) := by omega
      rw [Nat.add_zero]
      omega
/-- for places that are not yet taken the row doesn't matter -/
theorem fr_0 {pl : Nat → Nat} {i : Nat} : frB pl 0 i = true := by unfold frB; simp
theorem cnt_all {P : Nat → Bool} (k : ∀ i, P i = true) : ∀ n, cnt P n = n
  | 0 => rfl
  | n + 1 => by unfold cnt; rw [cnt_all k n, k n]; simp
/-- the places that it gives are below n -/
theorem sk_lt : ∀ (f place : Nat) (pl r : Nat → Nat), (∀ p, p < place → pl p < n) → sk h g n f place pl = some r → ∀ p, p < place + f → r p < n
  | 0, place, pl, r, e, s => by
    simp only [sk, Option.some.injEq] at s
    rw [← s]; exact fun p hp => e p (by omega)
  | f + 1, place, pl, r, e, s => by
    have hs : (sk h g n (f + 1) place pl).isSome := by rw [s]; rfl
    intro p hp
    have key : ∀ m i, i + m = n → fst1 (fun i => if okAt h g pl place i then sk h g n f (place + 1) (fu pl place i) else none) m i = some r → r p < n := by
      intro m
      induction m with
      | zero => intro i _ z; simp [fst1] at z
      | succ m ih =>
        intro i hi z
        unfold fst1 at z
        split at z
        · next r' hr =>
          cases z
          by_cases o : okAt h g pl place i
          · rw [if_pos o] at hr
            exact sk_lt f (place + 1) _ _ (fun q hq => by
              unfold fu
              by_cases w : q = place
              · rw [if_pos w]; omega
              · rw [if_neg w]; exact e q (by omega)) hr p (by omega)
          · rw [if_neg o] at hr; cases hr
        · exact ih (i + 1) (by omega) z
    exact key n 0 (by omega) s
end

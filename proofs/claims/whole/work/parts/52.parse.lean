/-! EXPRS read from a text (mathematics alone). -/
section
/-- refused (why, where), or the next TOKEN and what was made of it -/
abbrev PR := (Nat × Nat) ⊕ (Nat × List Int)
/-- these ahead of what is made -/
def prp (l : List Int) : PR → PR
  | .inl e => .inl e
  | .inr (c, l') => .inr (c, l ++ l')
variable (B : Nat → Nat) (n : Nat)
def pPt (inn : Nat → PR) (b : Nat) : PR :=
  if tkd B n b = 2 then (if tnE B n b 0 99999 = 0 then .inr (nxT B n b, [((dv B b (tl B n b) : Nat) : Int)]) else .inl (tnE B n b 0 99999, b))
  else if tkd B n b = 1 then (if wix B n b vwL = -1 then .inl (3, b) else .inr (nxT B n b, [-11 - wix B n b vwL]))
  else if sgP B n b 40 then (match inn (nxT B n b) with
    | .inl e => .inl e
    | .inr (c, l) => if sgP B n c 41 then .inr (nxT B n c, l) else .inl (1, c))
  else .inl (1, b)
def pCh (sep : Nat → Int) (sub : Nat → PR) : Nat → Nat → List Int → PR
  | 0, b, acc => .inr (b, acc)
  | f + 1, b, acc => if sep b = 0 then .inr (b, acc) else match sub (nxT B n b) with
    | .inl e => .inl e
    | .inr (c, l) => pCh sep sub f c (acc ++ l ++ [sep b])
def mulS (b : Nat) : Int := if sgP B n b 42 then -9 else if sgP B n b 47 then -10 else 0
def addS (b : Nat) : Int := if sgP B n b 43 then -7 else if sgP B n b 45 then -8 else 0
def teS (b : Nat) : Int := if sgP B n b 60 then -5 else if sgP B n b 61 then -6 else 0
def anS (b : Nat) : Int := if twd B n b 21 then -3 else 0
def orS (b : Nat) : Int := if twd B n b 22 then -2 else 0
/-- a row of these, with the signs between them -/
def pRow (sep : Nat → Int) (sub : Nat → PR) (b : Nat) : PR := match sub b with
  | .inl e => .inl e
  | .inr (c, l) => pCh B n sep sub 600 c l
def pTe (sub : Nat → PR) (b : Nat) : PR := match sub b with
  | .inl e => .inl e
  | .inr (c, l) => if teS B n c = 0 then .inr (c, l) else match sub (nxT B n c) with
    | .inl e => .inl e
    | .inr (c', l') => .inr (c', l ++ l' ++ [teS B n c])
/-- how many 'not' stand here, at most f, and what stands behind them -/
def nts : Nat → Nat → Nat × Nat
  | 0, b => (0, b)
  | f + 1, b => if twd B n b 23 then ((nts f (nxT B n b)).1 + 1, (nts f (nxT B n b)).2) else (0, b)
def pNo (sub : Nat → PR) (b : Nat) : PR := if twd B n (nts B n 6 b).2 23 then .inl (2, (nts B n 6 b).2) else match sub (nts B n 6 b).2 with
  | .inl e => .inl e
  | .inr (c, l) => .inr (c, l ++ List.replicate (nts B n 6 b).1 (-4))
/-- an EXPR, k levels within it left -/
def pEx : Nat → Nat → PR
  | 0, b => if tkd B n b = 2 ∨ tkd B n b = 1 ∨ sgP B n b 40 then .inl (2, b) else .inl (1, b)
  | k + 1, b => pRow B n (orS B n) (pRow B n (anS B n) (pNo B n (pTe B n (pRow B n (addS B n) (pRow B n (mulS B n) (pPt B n (pEx k))))))) b
/-- where it ends, and that it makes no more numbers than it has bytes -/
def LPn (r : Nat → PR) : Prop := ∀ b c l, b ≤ n → r b = .inr (c, l) → b + l.length ≤ c ∧ c ≤ n ∧ b < c
/-- where it is refused -/
def EPn (r : Nat → PR) : Prop := ∀ b k p, b ≤ n → r b = .inl (k, p) → p ≤ n ∧ 1 ≤ k ∧ k ≤ 4
variable {B : Nat → Nat} {n : Nat}
theorem tk_lt {b : Nat} (h : tkd B n b ≠ 0) : b < n := by
  by_cases z : b < n
  · exact z
  · exfalso; exact h (by unfold tkd; rw [if_neg z])
theorem tnE_b {b lo hi : Nat} : tnE B n b lo hi ≤ 2 := by
  unfold tnE
  split
  · omega
  · split <;> omega
theorem LP_pt {inn : Nat → PR} (h : LPn n inn) : LPn n (pPt B n inn) := by
  intro b c l hb e
  have nb := nxT_b (B := B) (n := n) (b := b)
  unfold pPt at e
  split at e
  · next h2 =>
    have := tk_lt (B := B) (n := n) (b := b) (by omega)
    split at e
    · cases e; simp; omega
    · cases e
  · split at e
    · next h1 =>
      have := tk_lt (B := B) (n := n) (b := b) (by omega)
      split at e
      · cases e
      · cases e; simp; omega
    · split at e
      · next hs =>
        have := tk_lt (B := B) (n := n) (b := b) (by have := hs.1; omega)
        split at e
        · cases e
        · next c1 l1 hi =>
          have h1 := h _ _ _ (nb.2.1 hb) hi
          split at e
          · cases e
            have nc := nxT_b (B := B) (n := n) (b := c1)
            omega
          · cases e
      · cases e
theorem EP_pt {inn : Nat → PR} (h : EPn n inn) (h' : LPn n inn) : EPn n (pPt B n inn) := by
  intro b k p hb e
  have nb := nxT_b (B := B) (n := n) (b := b)
  unfold pPt at e
  split at e
  · split at e
    · cases e
    · cases e
      have := tnE_b (B := B) (n := n) (b := b) (lo := 0) (hi := 99999)
      omega
  · split at e
    · split at e
      · cases e; omega
      · cases e
    · split at e
      · split at e
        · next e1 hi => cases e; exact h _ _ _ (nb.2.1 hb) hi
        · next c1 l1 hi =>
          have h1 := h' _ _ _ (nb.2.1 hb) hi
          split at e
          · cases e
          · cases e; omega
      · cases e; omega
/-- a sign stands only where a TOKEN stands -/
def SPn (B : Nat → Nat) (n : Nat) (sep : Nat → Int) : Prop := ∀ b, sep b ≠ 0 → b < n
theorem LP_ch {sep : Nat → Int} {sub : Nat → PR} (hs : SPn B n sep) (h : LPn n sub) : ∀ (f b : Nat) (acc : List Int) (c : Nat) (l : List Int), b ≤ n → pCh B n sep sub f b acc = .inr (c, l) → b + l.length ≤ c + acc.length ∧ c ≤ n ∧ b ≤ c
  | 0, b, acc, c, l, hb, e => by simp [pCh] at e; obtain ⟨rfl, rfl⟩ := e; omega
  | f + 1, b, acc, c, l, hb, e => by
    unfold pCh at e
    split at e
    · cases e; omega
    · next hn =>
      have hbn := hs b hn
      have nb := nxT_b (B := B) (n := n) (b := b)
      split at e
      · cases e
      · next c1 l1 hi =>
        have h1 := h _ _ _ (nb.2.1 hb) hi
        have h2 := LP_ch hs h f c1 _ c l h1.2.1 e
        simp at h2
        omega
theorem EP_ch {sep : Nat → Int} {sub : Nat → PR} (hs : SPn B n sep) (h : LPn n sub) (h' : EPn n sub) : ∀ (f b : Nat) (acc : List Int) (k p : Nat), b ≤ n → pCh B n sep sub f b acc = .inl (k, p) → p ≤ n ∧ 1 ≤ k ∧ k ≤ 4
  | 0, b, acc, k, p, hb, e => by simp [pCh] at e
  | f + 1, b, acc, k, p, hb, e => by
    unfold pCh at e
    split at e
    · cases e
    · next hn =>
      have nb := nxT_b (B := B) (n := n) (b := b)
      split at e
      · next e1 hi => cases e; exact h' _ _ _ (nb.2.1 hb) hi
      · next c1 l1 hi => exact EP_ch hs h h' f c1 _ k p (h _ _ _ (nb.2.1 hb) hi).2.1 e
theorem LP_row {sep : Nat → Int} {sub : Nat → PR} (hs : SPn B n sep) (h : LPn n sub) : LPn n (pRow B n sep sub) := by
  intro b c l hb e
  unfold pRow at e
  split at e
  · cases e
  · next c1 l1 hi =>
    have h1 := h _ _ _ hb hi
    have h2 := LP_ch hs h 600 c1 l1 c l h1.2.1 e
    omega
theorem EP_row {sep : Nat → Int} {sub : Nat → PR} (hs : SPn B n sep) (h : LPn n sub) (h' : EPn n sub) : EPn n (pRow B n sep sub) := by
  intro b k p hb e
  unfold pRow at e
  split at e
  · next e1 hi => cases e; exact h' _ _ _ hb hi
  · next c1 l1 hi => exact EP_ch hs h h' 600 c1 l1 k p (h _ _ _ hb hi).2.1 e
theorem SP_te : SPn B n (teS B n) := fun b h => tk_lt (B := B) (by
  unfold teS at h
  split at h
  · next z => have := z.1; omega
  · split at h
    · next z => have := z.1; omega
    · exact absurd rfl h)
theorem SP_mul : SPn B n (mulS B n) := fun b h => tk_lt (B := B) (by
  unfold mulS at h
  split at h
  · next z => have := z.1; omega
  · split at h
    · next z => have := z.1; omega
    · exact absurd rfl h)
theorem SP_add : SPn B n (addS B n) := fun b h => tk_lt (B := B) (by
  unfold addS at h
  split at h
  · next z => have := z.1; omega
  · split at h
    · next z => have := z.1; omega
    · exact absurd rfl h)
theorem SP_an : SPn B n (anS B n) := fun b h => tk_lt (B := B) (by
  unfold anS at h
  split at h
  · next z => have := z.1; omega
  · exact absurd rfl h)
theorem SP_or : SPn B n (orS B n) := fun b h => tk_lt (B := B) (by
  unfold orS at h
  split at h
  · next z => have := z.1; omega
  · exact absurd rfl h)
theorem LP_te {sub : Nat → PR} (h : LPn n sub) : LPn n (pTe B n sub) := by
  intro b c l hb e
  unfold pTe at e
  split at e
  · cases e
  · next c1 l1 hi =>
    have h1 := h _ _ _ hb hi
    split at e
    · cases e; omega
    · next hn =>
      have := SP_te c1 hn
      have nb := nxT_b (B := B) (n := n) (b := c1)
      split at e
      · cases e
      · next c2 l2 hi2 =>
        cases e
        have h2 := h _ _ _ (nb.2.1 h1.2.1) hi2
        simp
        omega
theorem EP_te {sub : Nat → PR} (h : LPn n sub) (h' : EPn n sub) : EPn n (pTe B n sub) := by
  intro b k p hb e
  unfold pTe at e
  split at e
  · next e1 hi => cases e; exact h' _ _ _ hb hi
  · next c1 l1 hi =>
    have h1 := h _ _ _ hb hi
    split at e
    · cases e
    · have nb := nxT_b (B := B) (n := n) (b := c1)
      split at e
      · next e1 hi2 => cases e; exact h' _ _ _ (nb.2.1 h1.2.1) hi2
      · cases e
theorem nts_b : ∀ (f b : Nat), b ≤ n → b + (nts B n f b).1 ≤ (nts B n f b).2 ∧ (nts B n f b).2 ≤ n ∧ (nts B n f b).1 ≤ f
  | 0, b, hb => ⟨Nat.le_refl _, hb, Nat.le_refl _⟩
  | f + 1, b, hb => by
    unfold nts
    split
    · next h =>
      have := tk_lt (B := B) (n := n) (b := b) (by have := h.1; omega)
      have nb := nxT_b (B := B) (n := n) (b := b)
      have := nts_b f (nxT B n b) (nb.2.1 hb)
      simp only
      omega
    · exact ⟨Nat.le_refl _, hb, Nat.zero_le _⟩
theorem LP_no {sub : Nat → PR} (h : LPn n sub) : LPn n (pNo B n sub) := by
  intro b c l hb e
  have hn := nts_b (B := B) (n := n) 6 b hb
  unfold pNo at e
  split at e
  · cases e
  · split at e
    · cases e
    · next c1 l1 hi =>
      have h1 := h _ _ _ hn.2.1 hi
      cases e
      simp
      omega
theorem EP_no {sub : Nat → PR} (h' : EPn n sub) : EPn n (pNo B n sub) := by
  intro b k p hb e
  have hn := nts_b (B := B) (n := n) 6 b hb
  unfold pNo at e
  split at e
  · cases e; omega
  · split at e
    · next e1 hi => cases e; exact h' _ _ _ hn.2.1 hi
    · cases e
theorem LE_ex : ∀ k, LPn n (pEx B n k) ∧ EPn n (pEx B n k)
  | 0 => by
    constructor
    · intro b c l hb e
      unfold pEx at e
      split at e <;> cases e
    · intro b k p hb e
      unfold pEx at e
      split at e <;> cases e <;> omega
  | k + 1 => by
    obtain ⟨h1, h2⟩ := LE_ex k
    have a1 := LP_pt (B := B) h1
    have a2 := EP_pt (B := B) h2 h1
    have b1 := LP_row (SP_mul (B := B)) a1
    have b2 := EP_row (SP_mul (B := B)) a1 a2
    have c1 := LP_row (SP_add (B := B)) b1
    have c2 := EP_row (SP_add (B := B)) b1 b2
    have d1 := LP_te (B := B) c1
    have d2 := EP_te (B := B) c1 c2
    have e1 := LP_no (B := B) d1
    have e2 := EP_no (B := B) d2
    have f1 := LP_row (SP_an (B := B)) e1
    have f2 := EP_row (SP_an (B := B)) e1 e2
    exact ⟨LP_row (SP_or (B := B)) f1, EP_row (SP_or (B := B)) f1 f2⟩
end

/-! TRIALS, RUNS, CARDS, PROTESTS, and what is known of them (mathematics alone). -/
section
/-- a TRIAL: rules, day, judge -/
abbrev Tl := Nat × Int × Nat
/-- a RUN: trial, dog, hour, wind -/
abbrev Rn := Nat × Nat × Int × Int
/-- a CARD: run, day, rows, time, retired -/
abbrev Cd := Nat × Int × Rw × Int × Bool
/-- a PROTEST: run, day (-1: not decided), how, points -/
abbrev Pt := Nat × Int × Int × Int
abbrev Sn := (Nat × (Nat → Bk)) × (Nat × (Nat → Tl)) × (Nat × (Nat → Rn)) × (Nat × (Nat → Cd)) × (Nat × (Nat → Pt))
abbrev nBk (s : Sn) : Nat := s.1.1
abbrev eBk (s : Sn) : Nat → Bk := s.1.2
abbrev nTl (s : Sn) : Nat := s.2.1.1
abbrev eTl (s : Sn) : Nat → Tl := s.2.1.2
abbrev nRn (s : Sn) : Nat := s.2.2.1.1
abbrev eRn (s : Sn) : Nat → Rn := s.2.2.1.2
abbrev nCd (s : Sn) : Nat := s.2.2.2.1.1
abbrev eCd (s : Sn) : Nat → Cd := s.2.2.2.1.2
abbrev nPt (s : Sn) : Nat := s.2.2.2.2.1
abbrev ePt (s : Sn) : Nat → Pt := s.2.2.2.2.2
section
variable (s : Sn) (u : Nat) (k : Int)
abbrev uTr : Nat := (eRn s u).1
abbrev uDg : Nat := (eRn s u).2.1
abbrev uHr : Int := (eRn s u).2.2.1
abbrev uWd : Int := (eRn s u).2.2.2
abbrev uRl : Nat := (eTl s (uTr s u)).1
abbrev uDy : Int := (eTl s (uTr s u)).2.1
abbrev uJd : Nat := (eTl s (uTr s u)).2.2
abbrev uBk : Bk := eBk s (uRl s u)
abbrev cRn (c : Nat) : Nat := (eCd s c).1
abbrev cDy (c : Nat) : Int := (eCd s c).2.1
abbrev cRw (c : Nat) : Rw := (eCd s c).2.2.1
abbrev cTm (c : Nat) : Int := (eCd s c).2.2.2.1
abbrev cRe (c : Nat) : Bool := (eCd s c).2.2.2.2
/-- the last of the first n cards that was told of this run by this day -/
def cA : Nat → Int
  | 0 => -1
  | n + 1 => if cRn s n = u ∧ cDy s n ≤ k then n else cA n
/-- the card that is known -/
abbrev kaI : Int := cA s u k (nCd s)
abbrev kaN : Nat := (kaI s u k).toNat
/-- what a card makes -/
def aC (c : Nat) : (Nat → Int) × Int × List Int := acR (uBk s (cRn s c)) (uHr s (cRn s c)) (uWd s (cRn s c)) (cRw s c)
def oC (c : Nat) : Prop := outN (uBk s (cRn s c)) (uHr s (cRn s c)) (uWd s (cRn s c)) (aC s c).2.1 (cTm s c) (cRe s c)
/-- this protest is decided -/
abbrev dP (i : Nat) : Prop := (ePt s i).1 = u ∧ (ePt s i).2.1 ≠ -1 ∧ (ePt s i).2.1 ≤ k
/-- what the first n protests add -/
def sP : Nat → Int
  | 0 => 0
  | n + 1 => sP n + if dP s u k n then (ePt s n).2.2.2 else 0
def mP1 (h : Int) (n : Nat) : Prop := ∃ i, i < n ∧ (ePt s i).2.2.1 = h ∧ dP s u k i
def tot : Int := max 0 ((aC s (kaN s u k)).2.1 + sP s u k (nPt s))
def isO : Prop := kaI s u k ≠ -1 ∧ (oC s (kaN s u k) ∨ mP1 s u k 2 (nPt s))
def isC : Prop := kaI s u k ≠ -1 ∧ ¬ mP1 s u k 1 (nPt s) ∧ ¬ isO s u k
end
/-- a book as it may stand -/
def BkO (q : Bk) : Prop := WEs q ∧ ((bP q).length ≤ 8 ∧ ∀ j, 0 ≤ vP q j ∧ vP q j ≤ 99) ∧ (bF q).length ≤ 10 ∧ (bO q).length ≤ 20 ∧ ((bT q).length ≤ 8 ∧ ∀ t, t ∈ bT q → t = 8 ∨ 0 ≤ t ∧ t < (bP q).length) ∧ (1 ≤ bB q ∧ bB q ≤ 20) ∧ -1 ≤ bL q ∧ bL q ≤ 9999
/-- as it may stand -/
def Sok (s : Sn) : Prop :=
  (nBk s ≤ 6 ∧ ∀ i, i < nBk s → BkO (eBk s i)) ∧
  (nTl s ≤ 20 ∧ ∀ i, i < nTl s → (eTl s i).1 < nBk s ∧ 0 ≤ (eTl s i).2.1 ∧ (eTl s i).2.1 ≤ 999 ∧ (eTl s i).2.2 < 6) ∧
  (nRn s ≤ 120 ∧ ∀ i, i < nRn s → (eRn s i).1 < nTl s ∧ (eRn s i).2.1 < 24 ∧ (0 ≤ (eRn s i).2.2.1 ∧ (eRn s i).2.2.1 < 24 ∧ 0 ≤ (eRn s i).2.2.2 ∧ (eRn s i).2.2.2 < 10)) ∧
  (nCd s ≤ 200 ∧ ∀ i, i < nCd s → cRn s i < nRn s ∧ (0 ≤ cDy s i ∧ cDy s i ≤ 999) ∧ rwK (uBk s (cRn s i)) (cRw s i) ∧ rwO (-1) (cRw s i) ∧ nFa (cRw s i) ≤ 40 ∧ 0 ≤ cTm s i ∧ cTm s i ≤ 99999) ∧
  (nPt s ≤ 40 ∧ ∀ i, i < nPt s → (ePt s i).1 < nRn s ∧ (-1 ≤ (ePt s i).2.1 ∧ (ePt s i).2.1 ≤ 999) ∧ ((ePt s i).2.1 ≠ -1 → (0 ≤ (ePt s i).2.2.1 ∧ (ePt s i).2.2.1 ≤ 3) ∧ -50 ≤ (ePt s i).2.2.2 ∧ (ePt s i).2.2.2 ≤ 50))
section
variable {s : Sn} {u : Nat} {k : Int} {n : Nat}
theorem cA_b : ∀ n, -1 ≤ cA s u k n ∧ cA s u k n < n
  | 0 => ⟨Int.le_refl _, by show (-1 : Int) < 0; decide⟩
  | n + 1 => by
    have := cA_b n
    show -1 ≤ (if cRn s n = u ∧ cDy s n ≤ k then (n : Int) else cA s u k n) ∧ (if cRn s n = u ∧ cDy s n ≤ k then (n : Int) else cA s u k n) < ((n + 1 : Nat) : Int)
    split <;> omega
theorem cA_r : ∀ n, cA s u k n ≠ -1 → cRn s (cA s u k n).toNat = u ∧ cDy s (cA s u k n).toNat ≤ k
  | 0, h => absurd rfl h
  | n + 1, h => by
    have e : cA s u k (n + 1) = if cRn s n = u ∧ cDy s n ≤ k then (n : Int) else cA s u k n := rfl
    rw [e] at h ⊢
    by_cases z : cRn s n = u ∧ cDy s n ≤ k
    · rw [if_pos z, Int.toNat_natCast]; exact z
    · rw [if_neg z] at h ⊢; exact cA_r n h
/-- the card told last of this run: it is the one, or what was told ahead of it -/
theorem cA_s (hd : ∀ i, i < n → cDy s i ≤ 999) : (cA s u 999 n = -1 → cA s u k n = -1) ∧ ∀ i : Nat, cA s u 999 n = i → i < n ∧ cRn s i = u ∧ cA s u k n = if cDy s i ≤ k then (i : Int) else cA s u k i := by
  induction n with
  | zero => exact ⟨fun _ => rfl, fun i h => absurd h (by show (-1 : Int) ≠ i; omega)⟩
  | succ n ih =>
    obtain ⟨i1, i2⟩ := ih (fun i hi => hd i (by omega))
    have e : ∀ k, cA s u k (n + 1) = if cRn s n = u ∧ cDy s n ≤ k then (n : Int) else cA s u k n := fun k => rfl
    rw [e, e]
    by_cases z : cRn s n = u
    · have zd : cRn s n = u ∧ cDy s n ≤ 999 := ⟨z, hd n (by omega)⟩
      rw [if_pos zd]
      refine ⟨fun h => by omega, fun i hi => ?_⟩
      have hi : n = i := by omega
      subst hi
      refine ⟨by omega, z, ?_⟩
      by_cases y : cDy s n ≤ k
      · rw [if_pos ⟨z, y⟩, if_pos y]
      · rw [if_neg (fun h => y h.2), if_neg y]
    · rw [if_neg (fun h => z h.1), if_neg (fun h => z h.1)]
      exact ⟨i1, fun i hi => by obtain ⟨a, b, c⟩ := i2 i hi; exact ⟨by omega, b, c⟩⟩
theorem kaN_r (hk : kaI s u k ≠ -1) : kaN s u k < nCd s ∧ cRn s (kaN s u k) = u ∧ kaI s u k = kaN s u k := by
  have b : -1 ≤ kaI s u k ∧ kaI s u k < nCd s := cA_b (nCd s)
  have r : cRn s (kaI s u k).toNat = u := (cA_r (nCd s) hk).1
  exact ⟨show (kaI s u k).toNat < nCd s by omega, r, show kaI s u k = ((kaI s u k).toNat : Int) by omega⟩
theorem uBkO (h : Sok s) (hu : u < nRn s) : BkO (uBk s u) := h.1.2 _ (h.2.1.2 _ (h.2.2.1.2 u hu).1).1
theorem rw_len8 {q : Bk} {rows : Rw} (h8 : (bP q).length ≤ 8) (hk : rwK q rows) (ho : rwO (-1) rows) : rows.length ≤ 8 := by
  have key : ∀ (rows : Rw) (last : Int), rows ≠ [] → rwK q rows → rwL last rows < 8 := by
    intro rows
    induction rows with
    | nil => intro last h _; exact absurd rfl h
    | cons y rows ih =>
      intro last _ hk
      obtain ⟨p, l⟩ := y
      by_cases e : rows = []
      · subst e
        have : p < (bP q).length := (hk (p, l) List.mem_cons_self).1
        show (p : Int) < 8
        omega
      · exact ih p e (fun y hy => hk y (List.mem_cons_of_mem _ hy))
  by_cases z : rows = []
  · rw [z]; exact Nat.zero_le _
  · have := key rows (-1) z hk
    have := rwL_len rows (-1) ho
    omega
theorem aC_b (hO : Sok s) {c : Nat} (hc : c < nCd s) : (0 ≤ (aC s c).2.1 ∧ (aC s c).2.1 ≤ 792) ∧ ∀ j, 0 ≤ (aC s c).1 j ∧ (aC s c).1 j ≤ 99 := by
  obtain ⟨o1, o2, o3, o4, o5, o6⟩ := hO.2.2.2.1.2 c hc
  have hb := uBkO hO o1
  obtain ⟨a1, a2⟩ := acR_b (q := uBk s (cRn s c)) (hr := uHr s (cRn s c)) (wd := uWd s (cRn s c)) hb.2.1.2 (cRw s c)
  have := rw_len8 hb.2.1.1 o3 o4
  unfold aC
  exact ⟨by omega, a2⟩
theorem sP_b (h : Sok s) : ∀ n, n ≤ nPt s → -50 * (n : Int) ≤ sP s u k n ∧ sP s u k n ≤ 50 * (n : Int)
  | 0, _ => ⟨Int.le_refl _, Int.le_refl _⟩
  | n + 1, hn => by
    have ih := sP_b h n (by omega)
    have hb := (h.2.2.2.2.2 n (by omega)).2.2
    show _ ≤ sP s u k n + _ ∧ sP s u k n + _ ≤ _
    split
    · next hd =>
      have := hb hd.2.1
      omega
    · omega
theorem tot_b (hO : Sok s) (hk : kaI s u k ≠ -1) : 0 ≤ tot s u k ∧ tot s u k ≤ 2792 := by
  obtain ⟨q1, q2, q3⟩ := kaN_r hk
  have a := (aC_b hO q1).1
  have b := sP_b (u := u) (k := k) hO (nPt s) (Nat.le_refl _)
  have n := hO.2.2.2.2.1
  unfold tot
  omega
end
end

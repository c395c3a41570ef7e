/-! EXPRS worked out (mathematics alone). -/
section
/-- two values joined -/
def jnd (c : Int) (x y : Int32) : Int32 := if c = -2 then bZ (¬ x.toInt = 0 ∨ ¬ y.toInt = 0) else if c = -3 then bZ (¬ x.toInt = 0 ∧ ¬ y.toInt = 0) else if c = -5 then bZ (x.toInt < y.toInt) else if c = -6 then bZ (x.toInt = y.toInt) else if c = -7 then x + y else if c = -8 then x - y else if c = -9 then x * y else if y.toInt = 0 then iZ 0 else x / y
/-- one number of the code, over a stack's row and its height -/
def stq (V : Nat → Int32) (s : (Nat → Int32) × Nat) (c : Int) : (Nat → Int32) × Nat :=
  if 0 ≤ c then (fu s.1 s.2 (iZ c), s.2 + 1)
  else if c ≤ -11 then (fu s.1 s.2 (V (-11 - c).toNat), s.2 + 1)
  else if c = -4 then (fu s.1 (s.2 - 1) (bZ ((s.1 (s.2 - 1)).toInt = 0)), s.2)
  else (fu s.1 (s.2 - 2) (jnd c (s.1 (s.2 - 2)) (s.1 (s.2 - 1))), s.2 - 1)
def rnn (V : Nat → Int32) (l : List Int) (s : (Nat → Int32) × Nat) : (Nat → Int32) × Nat := l.foldl (stq V) s
def vl (V : Nat → Int32) (l : List Int) : Int32 := (rnn V l (fun _ => 0, 0)).1 0
/-- code that makes one value, in so many places of the stack -/
def WEc (P : Nat → List Int → Prop) : Prop := (∀ (h : Nat) (c : Int), 0 ≤ c → c ≤ 99999 → P (h + 1) [c]) ∧ (∀ (h : Nat) (c : Int), -18 < c → c ≤ -11 → P (h + 1) [c]) ∧ (∀ (h : Nat) (l : List Int), P h l → P h (l ++ [-4])) ∧ ∀ (h : Nat) (l l' : List Int) (c : Int), P (h + 1) l → P h l' → -11 < c → c < -1 → c ≠ -4 → P (h + 1) (l ++ l' ++ [c])
def WE (h : Nat) (l : List Int) : Prop := ∀ P, WEc P → P h l
theorem WE_c : WEc WE := ⟨fun h c a b P p => p.1 h c a b, fun h c a b P p => p.2.1 h c a b, fun h l w P p => p.2.2.1 h l (w P p), fun h l l' c w w' a b e P p => p.2.2.2 h l l' c (w P p) (w' P p) a b e⟩
/-- how high it stands on its way: never above 31, never below what is asked -/
def sf : List Int → Nat → Prop
  | [], _ => True
  | c :: l, d => if 0 ≤ c then c ≤ 99999 ∧ d < 31 ∧ sf l (d + 1) else if c ≤ -11 then -18 < c ∧ d < 31 ∧ sf l (d + 1) else if c = -4 then 1 ≤ d ∧ sf l d else c < -1 ∧ 2 ≤ d ∧ sf l (d - 1)
theorem WE_up {h : Nat} {l : List Int} (w : WE h l) : WE (h + 1) l := by
  exact w (fun h l => WE (h + 1) l) ⟨fun h c a b => WE_c.1 _ c a b, fun h c a b => WE_c.2.1 _ c a b, fun h l ih => WE_c.2.2.1 _ _ ih, fun h l l' c ih ih' a b e => WE_c.2.2.2 _ _ _ _ ih ih' a b e⟩
theorem WE_mono {h h' : Nat} {l : List Int} (w : WE h l) (hh : h ≤ h') : WE h' l := by
  induction hh with
  | refl => exact w
  | step _ ih => exact WE_up ih
theorem WE_sf {h : Nat} {l : List Int} (w : WE h l) : ∀ (l2 : List Int) (d : Nat), d + h ≤ 31 → sf l2 (d + 1) → sf (l ++ l2) d := by
  refine w (fun h l => ∀ (l2 : List Int) (d : Nat), d + h ≤ 31 → sf l2 (d + 1) → sf (l ++ l2) d) ⟨?_, ?_, ?_, ?_⟩
  · intro h c a b
    intro l2 d hd h2
    show sf (c :: l2) d
    unfold sf
    rw [if_pos a]
    exact ⟨b, by omega, h2⟩
  · intro h c a b
    intro l2 d hd h2
    show sf (c :: l2) d
    unfold sf
    rw [if_neg (by omega), if_pos b]
    exact ⟨a, by omega, h2⟩
  · intro h l ih
    intro l2 d hd h2
    rw [List.append_assoc]
    refine ih _ d hd ?_
    show sf (-4 :: l2) (d + 1)
    unfold sf
    rw [if_neg (by decide), if_neg (by decide), if_pos rfl]
    exact ⟨by omega, h2⟩
  · intro h l l' c ih ih' a b e
    intro l2 d hd h2
    rw [List.append_assoc, List.append_assoc]
    refine ih _ d hd (ih' _ (d + 1) (by omega) ?_)
    show sf (c :: l2) (d + 1 + 1)
    unfold sf
    rw [if_neg (by omega), if_neg (by omega), if_neg e]
    exact ⟨b, by omega, h2⟩
theorem rn_app {V : Nat → Int32} {l l' : List Int} {s : (Nat → Int32) × Nat} : rnn V (l ++ l') s = rnn V l' (rnn V l s) := List.foldl_append ..
theorem rn_one {V : Nat → Int32} {c : Int} {s : (Nat → Int32) × Nat} : rnn V [c] s = stq V s c := rfl
theorem WE_rn {V : Nat → Int32} {h : Nat} {l : List Int} (w : WE h l) : ∃ v, ∀ f d, (rnn V l (f, d)).2 = d + 1 ∧ (rnn V l (f, d)).1 d = v ∧ ∀ i, i < d → (rnn V l (f, d)).1 i = f i := by
  refine w (fun h l => ∃ v, ∀ f d, (rnn V l (f, d)).2 = d + 1 ∧ (rnn V l (f, d)).1 d = v ∧ ∀ i, i < d → (rnn V l (f, d)).1 i = f i) ⟨?_, ?_, ?_, ?_⟩
  · intro h c a b
    refine ⟨iZ c, fun f d => ?_⟩
    rw [rn_one]; unfold stq; rw [if_pos a]
    exact ⟨rfl, if_pos rfl, fun i hi => if_neg (by simp only; omega)⟩
  · intro h c a b
    refine ⟨V (-11 - c).toNat, fun f d => ?_⟩
    rw [rn_one]; unfold stq; rw [if_neg (by omega), if_pos b]
    exact ⟨rfl, if_pos rfl, fun i hi => if_neg (by simp only; omega)⟩
  · intro h l ih
    obtain ⟨v, ih⟩ := ih
    refine ⟨bZ (v.toInt = 0), fun f d => ?_⟩
    obtain ⟨a1, a2, a3⟩ := ih f d
    rw [rn_app, rn_one]; unfold stq
    rw [if_neg (by decide), if_neg (by decide), if_pos rfl, a1]
    simp only [Nat.add_sub_cancel]
    rw [a2]
    exact ⟨trivial, if_pos rfl, fun i hi => by rw [show fu (rnn V l (f, d)).1 d (bZ (v.toInt = 0)) i = _ from if_neg (by omega)]; exact a3 i hi⟩
  · intro h l l' c ih ih' a b e
    obtain ⟨v, ih⟩ := ih
    obtain ⟨v', ih'⟩ := ih'
    refine ⟨jnd c v v', fun f d => ?_⟩
    obtain ⟨a1, a2, a3⟩ := ih f d
    obtain ⟨b1, b2, b3⟩ := ih' (rnn V l (f, d)).1 (d + 1)
    have e1 : rnn V l (f, d) = ((rnn V l (f, d)).1, d + 1) := Prod.ext rfl a1
    rw [← e1] at b1 b2 b3
    rw [rn_app, rn_app, rn_one]; unfold stq
    rw [if_neg (by omega), if_neg (by omega), if_neg e, b1]
    simp only [show d + 1 + 1 - 2 = d by omega, show d + 1 + 1 - 1 = d + 1 by omega]
    rw [b2, b3 d (by omega), a2]
    exact ⟨trivial, if_pos rfl, fun i hi => by rw [show fu (rnn V l' (rnn V l (f, d))).1 d (jnd c v v') i = _ from if_neg (by omega), b3 i (by omega)]; exact a3 i hi⟩
theorem WE_vl {V : Nat → Int32} {h : Nat} {l : List Int} (w : WE h l) (f : Nat → Int32) : (rnn V l (f, 0)).2 = 1 ∧ (rnn V l (f, 0)).1 0 = vl V l := by
  obtain ⟨v, hv⟩ := WE_rn (V := V) w
  exact ⟨(hv f 0).1, (hv f 0).2.1.trans (hv (fun _ => 0) 0).2.1.symm⟩
end

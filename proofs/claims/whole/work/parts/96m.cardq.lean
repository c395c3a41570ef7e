/-! CARDS: what is read and made, one more at the end (mathematics alone). -/
section
variable {B : Nat → Nat} {n b cnt w : Nat} {q : Bk} {hr wd lf x : Int} {tm : Nat → Nat} {l : List (Nat × Int)}
theorem app_get' {α : Type} {l m : List α} {x : α} {i : Nat} (h : (l ++ m)[i]? = some x) : (i < l.length ∧ l[i]? = some x) ∨ (l.length ≤ i ∧ m[i - l.length]? = some x) := by
  by_cases z : i < l.length
  · rw [List.getElem?_append_left z] at h; exact Or.inl ⟨z, h⟩
  · rw [List.getElem?_append_right (by omega)] at h; exact Or.inr ⟨by omega, h⟩
/-- one fault more of this kind -/
def tI (tm : Nat → Nat) (w : Nat) : Nat → Nat := fun j => if j = w then tm j + 1 else tm j
def tmA : (Nat → Nat) → List (Nat × Int) → Nat → Nat
  | tm, [] => tm
  | tm, (w, _) :: l => tmA (tI tm w) l
theorem offN_b {V : Nat → Int32} {l : List Int} (h : 0 ≤ lf) : 0 ≤ offN V l lf ∧ offN V l lf ≤ lf := by
  unfold offN
  omega
theorem acF_app : ∀ (l : List (Nat × Int)) (lf : Int) (tm : Nat → Nat), acF q hr wd lf tm (l ++ [(w, x)]) = ((acF q hr wd lf tm l).1 - offN (vF hr wd x (tI (tmA tm l) w w) (acF q hr wd lf tm l).1 0 0) (cF q w) (acF q hr wd lf tm l).1, (acF q hr wd lf tm l).2 ++ [offN (vF hr wd x (tI (tmA tm l) w w) (acF q hr wd lf tm l).1 0 0) (cF q w) (acF q hr wd lf tm l).1])
  | [], lf, tm => rfl
  | (w', x') :: l, lf, tm => by
    have ih := acF_app l (lf - offN (vF hr wd x' (tI tm w' w') lf 0 0) (cF q w') lf) (tI tm w')
    show ((acF q hr wd (lf - offN (vF hr wd x' (tI tm w' w') lf 0 0) (cF q w') lf) (tI tm w') (l ++ [(w, x)])).1, _ :: (acF q hr wd _ (tI tm w') (l ++ [(w, x)])).2) = _
    show (_, offN (vF hr wd x' (tI tm w' w') lf 0 0) (cF q w') lf :: (acF q hr wd (lf - offN (vF hr wd x' (tI tm w' w') lf 0 0) (cF q w') lf) (tI tm w') (l ++ [(w, x)])).2) = _
    rw [ih]
    rfl
theorem acF_len : ∀ (l : List (Nat × Int)) (lf : Int) (tm : Nat → Nat), (acF q hr wd lf tm l).2.length = l.length
  | [], _, _ => rfl
  | (w', x') :: l, lf, tm => congrArg (· + 1) (acF_len l (lf - offN (vF hr wd x' (tI tm w' w') lf 0 0) (cF q w') lf) (tI tm w'))
theorem acF_b : ∀ (l : List (Nat × Int)) (lf : Int) (tm : Nat → Nat), 0 ≤ lf → 0 ≤ (acF q hr wd lf tm l).1 ∧ (acF q hr wd lf tm l).1 ≤ lf
  | [], lf, _, h => ⟨h, Int.le_refl _⟩
  | (w', x') :: l, lf, tm, h => by
    have o := offN_b (V := vF hr wd x' (tI tm w' w') lf 0 0) (l := cF q w') h
    have := acF_b l (lf - offN (vF hr wd x' (tI tm w' w') lf 0 0) (cF q w') lf) (tI tm w') (by omega)
    refine ⟨this.1, Int.le_trans this.2 (by omega)⟩
theorem tmA_app : ∀ (l : List (Nat × Int)) (tm : Nat → Nat), tmA tm (l ++ [(w, x)]) = tI (tmA tm l) w
  | [], _ => rfl
  | (w', x') :: l, tm => tmA_app l (tI tm w')
theorem tmA_le : ∀ (l : List (Nat × Int)) (tm : Nat → Nat) (j : Nat), tmA tm l j ≤ tm j + l.length
  | [], _, _ => Nat.le_refl _
  | (w', x') :: l, tm, j => by
    have h := tmA_le l (tI tm w') j
    have : tI tm w' j ≤ tm j + 1 := by unfold tI; split <;> omega
    show tmA (tI tm w') l j ≤ tm j + (l.length + 1)
    omega
theorem kFa_r {c : Nat} (h : kFa B n q cnt b = .inr (c, w, x)) : cnt < 40 ∧ tl B n b ≤ 8 ∧ w < (bF q).length ∧ 0 ≤ x ∧ x ≤ 99999 := by
  unfold kFa at h
  split at h
  · cases h
  · next h1 =>
    have xb := ixO_b (P := gN (bF q)) (x := nc B b (tl B n b)) (c := (bF q).length)
    split at h
    · cases h
    · next h2 =>
      split at h
      · split at h
        · cases h
        · next h4 =>
          cases h
          have h4 : tnE B n (nxT B n b) 0 99999 = 0 := by omega
          have := tn_0 h4
          omega
      · cases h
        omega
/-- the numbers of parts are told one behind the other -/
def rwO : Int → Rw → Prop
  | _, [] => True
  | last, (p, _) :: rows => last < p ∧ rwO p rows
def rwL : Int → Rw → Int
  | last, [] => last
  | _, (p, _) :: rows => rwL p rows
theorem rwL_le : ∀ (rows : Rw) (last : Int), rwO last rows → last ≤ rwL last rows
  | [], _, _ => Int.le_refl _
  | (p, l) :: rows, last, h => Int.le_trans (Int.le_of_lt h.1) (rwL_le rows p h.2)
theorem rwO_app {p : Nat} {m : List (Nat × Int)} : ∀ (rows : Rw) (last : Int), rwO last rows → rwL last rows < p → rwO last (rows ++ [(p, m)])
  | [], _, _, h => ⟨h, trivial⟩
  | (p', l) :: rows, last, h, h2 => ⟨h.1, rwO_app rows p' h.2 h2⟩
theorem rwL_app {p : Nat} {m : List (Nat × Int)} : ∀ (rows : Rw) (last : Int), rwL last (rows ++ [(p, m)]) = p
  | [], _ => rfl
  | (p', l) :: rows, last => rwL_app rows p'
theorem acR_no {p : Nat} : ∀ (rows : Rw) (last : Int), rwO last rows → rwL last rows < p → (acR q hr wd rows).1 p = 0
  | [], _, _, _ => rfl
  | (p', l) :: rows, last, h, h2 => by
    have h2 : rwL p' rows < p := h2
    have := rwL_le rows p' h.2
    show (if p = p' then _ else (acR q hr wd rows).1 p) = 0
    rw [if_neg (by omega)]
    exact acR_no rows p' h.2 h2
theorem acR_app {p : Nat} {m : List (Nat × Int)} : ∀ (rows : Rw) (last : Int), rwO last rows → rwL last rows < p → acR q hr wd (rows ++ [(p, m)]) = (fun j => if j = p then (acF q hr wd (vP q p) (fun _ => 0) m).1 else (acR q hr wd rows).1 j, (acR q hr wd rows).2.1 + (acF q hr wd (vP q p) (fun _ => 0) m).1, (acR q hr wd rows).2.2 ++ (acF q hr wd (vP q p) (fun _ => 0) m).2)
  | [], _, _, _ => by
    show (_, _ + 0, _ ++ []) = _
    rw [List.append_nil, Int.add_zero]
    show _ = (_, 0 + _, [] ++ _)
    rw [Int.zero_add]
    rfl
  | (p', l) :: rows, last, h, h2 => by
    have h2 : rwL p' rows < p := h2
    have := rwL_le rows p' h.2
    have ih := acR_app (p := p) (m := m) rows p' h.2 h2
    show (fun j => if j = p' then _ else (acR q hr wd (rows ++ [(p, m)])).1 j, _ + (acR q hr wd (rows ++ [(p, m)])).2.1, _ ++ (acR q hr wd (rows ++ [(p, m)])).2.2) = _
    rw [ih]
    refine Prod.ext ?_ (Prod.ext ?_ ?_)
    · funext j
      show (if j = p' then _ else if j = p then _ else _) = (if j = p then _ else if j = p' then _ else _)
      by_cases z : j = p'
      · rw [if_pos z, if_neg (by omega), if_pos z]
      · rw [if_neg z, if_neg z]
    · show _ + (_ + _) = _ + _ + _
      rw [Int.add_assoc]
    · show _ ++ (_ ++ _) = _ ++ _ ++ _
      rw [List.append_assoc]
/-- how many faults -/
def nFa : Rw → Nat
  | [] => 0
  | (_, l) :: rows => l.length + nFa rows
theorem nFa_app {p : Nat} {m : List (Nat × Int)} : ∀ (rows : Rw), nFa (rows ++ [(p, m)]) = nFa rows + m.length
  | [] => by show m.length + 0 = 0 + m.length; omega
  | (p', l) :: rows => by show l.length + nFa (rows ++ [(p, m)]) = l.length + nFa rows + m.length; rw [nFa_app rows]; omega
theorem acR_len : ∀ (rows : Rw), (acR q hr wd rows).2.2.length = nFa rows
  | [] => rfl
  | (p', l) :: rows => by
    show ((acF q hr wd (vP q p') (fun _ => 0) l).2 ++ (acR q hr wd rows).2.2).length = l.length + nFa rows
    rw [List.length_append, acF_len, acR_len rows]
end

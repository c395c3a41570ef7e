/-! EXPRS make one value, and how high their stack stands (mathematics alone). -/
section
variable {B : Nat → Nat} {n : Nat}
def WP (h : Nat) (rd : Nat → PR) : Prop := ∀ b c l, rd b = .inr (c, l) → WE h l
theorem WP_pt {h : Nat} {inn : Nat → PR} (h1 : 1 ≤ h) (w : WP h inn) : WP h (pPt B n inn) := by
  intro b c l e
  obtain ⟨h, rfl⟩ : ∃ k, h = k + 1 := ⟨h - 1, by omega⟩
  unfold pPt at e
  split at e
  · split at e
    · rename_i hz
      cases e
      obtain ⟨t1, t2, t3⟩ := tn_0 hz
      exact WE_c.1 _ _ (by omega) (by omega)
    · cases e
  · split at e
    · split at e
      · cases e
      · cases e
        rename_i hw
        have := vw_b (B := B) (n := n) (b := b)
        exact WE_c.2.1 _ _ (by omega) (by omega)
    · split at e
      · split at e
        · cases e
        · rename_i hx
          split at e
          · cases e; exact w _ _ _ hx
          · cases e
      · cases e
theorem WP_ch {h : Nat} {sep : Nat → Int} {sub : Nat → PR} (hs : ∀ b, sep b = 0 ∨ (-11 < sep b ∧ sep b < -1 ∧ sep b ≠ -4)) (w : WP h sub) : ∀ (f b : Nat) (acc : List Int) (c : Nat) (l : List Int), WE (h + 1) acc → pCh B n sep sub f b acc = .inr (c, l) → WE (h + 1) l
  | 0, b, acc, c, l, ha, e => by unfold pCh at e; cases e; exact ha
  | f + 1, b, acc, c, l, ha, e => by
    unfold pCh at e
    split at e
    · cases e; exact ha
    · rename_i hz
      split at e
      · cases e
      · rename_i hx
        have h3 := (hs b).resolve_left hz
        exact WP_ch hs w f _ _ c l (WE_c.2.2.2 _ _ _ _ ha (w _ _ _ hx) h3.1 h3.2.1 h3.2.2) e
theorem WP_row {h : Nat} {sep : Nat → Int} {sub : Nat → PR} (hs : ∀ b, sep b = 0 ∨ (-11 < sep b ∧ sep b < -1 ∧ sep b ≠ -4)) (w : WP h sub) : WP (h + 1) (pRow B n sep sub) := by
  intro b c l e
  unfold pRow at e
  split at e
  · cases e
  · rename_i hx
    exact WP_ch hs w _ _ _ _ _ (WE_up (w _ _ _ hx)) e
theorem WP_te {h : Nat} {sub : Nat → PR} (w : WP h sub) : WP (h + 1) (pTe B n sub) := by
  intro b c l e
  unfold pTe at e
  split at e
  · cases e
  · rename_i hx
    split at e
    · cases e; exact WE_up (w _ _ _ hx)
    · split at e
      · cases e
      · rename_i hx2
        cases e
        refine WE_c.2.2.2 _ _ _ _ (WE_up (w _ _ _ hx)) (w _ _ _ hx2) ?_ ?_ ?_ <;> (unfold teS at *; split <;> (try split) <;> first | omega | (exfalso; simp_all))
theorem WE_no {h : Nat} {l : List Int} (w : WE h l) : ∀ k, WE h (l ++ List.replicate k (-4))
  | 0 => by rw [List.replicate_zero, List.append_nil]; exact w
  | k + 1 => by
    rw [List.replicate_succ', ← List.append_assoc]
    exact WE_c.2.2.1 _ _ (WE_no w k)
theorem WP_no {h : Nat} {sub : Nat → PR} (w : WP h sub) : WP h (pNo B n sub) := by
  intro b c l e
  unfold pNo at e
  split at e
  · cases e
  · split at e
    · cases e
    · rename_i hx
      cases e
      exact WE_no (w _ _ _ hx) _
theorem WP_ex : ∀ k, WP (5 * k + 1) (pEx B n k)
  | 0 => by
    intro b c l e
    unfold pEx at e
    split at e <;> cases e
  | k + 1 => by
    have w := WP_pt (B := B) (n := n) (by omega) (WP_ex k)
    have w1 := WP_row (B := B) (n := n) (sep := mulS B n) (fun b => by unfold mulS; split <;> (try split) <;> omega) w
    have w2 := WP_row (B := B) (n := n) (sep := addS B n) (fun b => by unfold addS; split <;> (try split) <;> omega) w1
    have w3 := WP_no (B := B) (n := n) (WP_te (B := B) (n := n) w2)
    have w4 := WP_row (B := B) (n := n) (sep := anS B n) (fun b => by unfold anS; split <;> omega) w3
    have w5 := WP_row (B := B) (n := n) (sep := orS B n) (fun b => by unfold orS; split <;> omega) w4
    intro b c l e
    unfold pEx at e
    exact WE_mono (w5 b c l e) (by omega)
theorem WE_ex {b c : Nat} {l : List Int} (e : pEx B n 6 b = .inr (c, l)) : WE 31 l := WP_ex 6 b c l e
end

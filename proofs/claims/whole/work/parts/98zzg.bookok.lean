/-! What the reader of RULES makes is a book as it may stand (mathematics alone). -/
section
variable {B : Nat → Nat} {n b c f lo hi : Nat} {q q' : Bk} {P : List (Int × Int)} {T T' : List Int} {x v : Int}
theorem tnE_0 (h : tnE B n b lo hi = 0) : lo ≤ dv B b (tl B n b) ∧ dv B b (tl B n b) ≤ hi := by
  unfold tnE at h
  split at h
  · cases h
  · split at h
    · cases h
    · omega
def okB (q : Bk) : Prop := BkO q ∧ (bO q).length ≤ bC q ∧ bC q ≤ 20
theorem okB_0 : okB bk0 := by
  refine ⟨⟨⟨fun i x h => ?_, fun i l h => ?_⟩, ⟨by decide, fun j => ?_⟩, by decide, by decide, ⟨by decide, fun t h => ?_⟩, by decide, by decide, by decide⟩, by decide, by decide⟩
  · have h : ([] : List (Int × List Int))[i]? = some x := h
    rw [List.getElem?_nil] at h; cases h
  · have h : ([] : List (List Int))[i]? = some l := h
    rw [List.getElem?_nil] at h; cases h
  · have : vP bk0 j = 0 := by
      show (match ([] : List (Int × Int))[j]? with | some x => x.2 | none => 0) = 0
      rw [List.getElem?_nil]
    rw [this]; decide
  · cases h
theorem okB_P (h : okB q) (h8 : (bP q).length < 8) (v1 : 1 ≤ v) (v2 : v ≤ 99) : okB (bP q ++ [(x, v)], q.2) := by
  obtain ⟨⟨h1, ⟨h2, h3⟩, h4, h5, ⟨h6, h7⟩, h9⟩, h10⟩ := h
  have hl : (bP q ++ [(x, v)]).length = (bP q).length + 1 := by rw [List.length_append]; rfl
  refine ⟨⟨h1, ⟨by show (bP q ++ [(x, v)]).length ≤ 8; omega, fun j => ?_⟩, h4, h5, ⟨h6, fun t ht => ?_⟩, h9⟩, h10⟩
  · show 0 ≤ (match (bP q ++ [(x, v)])[j]? with | some x => x.2 | none => 0) ∧ (match (bP q ++ [(x, v)])[j]? with | some x => x.2 | none => 0) ≤ 99
    by_cases z : j < (bP q).length
    · rw [List.getElem?_append_left z]; exact h3 j
    · by_cases y : j = (bP q).length
      · subst y
        rw [List.getElem?_append_right (Nat.le_refl _), Nat.sub_self]
        exact ⟨by show 0 ≤ v; omega, v2⟩
      · rw [List.getElem?_eq_none (by omega)]; decide
  · have := h7 t ht
    show t = 8 ∨ 0 ≤ t ∧ t < ((bP q ++ [(x, v)]).length : Int)
    rw [hl]
    rcases this with z | z
    · exact Or.inl z
    · exact Or.inr (by omega)
theorem pSg_q (h : pSg B n c b q = .inr (f, q')) : q' = q := by
  unfold pSg at h
  split at h
  · cases h; rfl
  · cases h
theorem pPart_ok (h : okB q) (e : pPart B n q b = .inr (c, q')) : okB q' := by
  unfold pPart at e
  split at e
  · cases e
  · split at e
    · cases e
    · split at e
      · cases e
      · rename_i h8 _ ht
        have t0 := tnE_0 (Classical.not_not.mp ht)
        rw [pSg_q e]
        exact okB_P h (by omega) (by omega) (by omega)
def okT (P : List (Int × Int)) (T : List Int) : Prop := T.length ≤ 8 ∧ ∀ t, t ∈ T → t = 8 ∨ 0 ≤ t ∧ t < P.length
theorem pTie_ok (h : okT P T) (e : pTie B n P T b = .inr (c, T')) : okT P T' := by
  obtain ⟨key, hkey⟩ : ∃ key, key = (if twd B n b 19 then (8 : Int) else ixO (gN P) (nc B b (tl B n b)) P.length) := ⟨_, rfl⟩
  have e : (if ¬ twd B n b 19 ∧ ¬ nmP B n b then (Sum.inl (1, b) : TR) else if 8 ≤ T.length ∨ 8 < tl B n b then .inl (2, b) else if key = -1 then .inl (3, b) else if key ∈ T then .inl (4, b) else .inr (nxT B n b, T ++ [key])) = .inr (c, T') := by rw [hkey]; exact e
  by_cases c1 : ¬ twd B n b 19 ∧ ¬ nmP B n b
  · rw [if_pos c1] at e; cases e
  rw [if_neg c1] at e
  by_cases h8 : 8 ≤ T.length ∨ 8 < tl B n b
  · rw [if_pos h8] at e; cases e
  rw [if_neg h8] at e
  by_cases hk : key = -1
  · rw [if_pos hk] at e; cases e
  rw [if_neg hk] at e
  by_cases c4 : key ∈ T
  · rw [if_pos c4] at e; cases e
  rw [if_neg c4] at e
  cases e
  refine ⟨by rw [List.length_append]; show T.length + 1 ≤ 8; omega, fun t ht => ?_⟩
  rcases List.mem_append.mp ht with z | z
  · exact h.2 t z
  · have z := List.mem_singleton.mp z
    subst z
    by_cases w : twd B n b 19
    · rw [hkey, if_pos w]; exact Or.inl rfl
    · rw [if_neg w] at hkey
      have := ixO_b (P := gN P) (x := nc B b (tl B n b)) (c := P.length)
      exact Or.inr (by omega)
theorem pTieR_ok : ∀ f b T, okT P T → pTieR B n P f b T = .inr (c, T') → okT P T'
  | 0, b, T, h, e => by
    have e : (Sum.inr (b, T) : TR) = .inr (c, T') := e
    cases e; exact h
  | f + 1, b, T, h, e => by
    unfold pTieR at e
    split at e
    · split at e
      · cases e
      · rename_i e2
        exact pTieR_ok f _ _ (pTie_ok h e2) e
    · cases e; exact h
theorem pTies_ok (e : pTies B n P b = .inr (c, T')) : okT P T' := by
  unfold pTies at e
  split at e
  · cases e
  · rename_i e2
    exact pTieR_ok 8 _ _ (pTie_ok ⟨Nat.zero_le _, fun t h => by cases h⟩ e2) e
theorem pExS_ok {g : List Int → Bk} (e : pExS B n b g = .inr (c, q')) : ∃ l, WE 31 l ∧ q' = g l := by
  unfold pExS at e
  split at e
  · cases e
  · rename_i l e2
    exact ⟨l, WE_ex e2, pSg_q e⟩
theorem pCl_ok (h : okB q) (e : pCl B n q b = .inr (c, q')) : okB q' := by
  unfold pCl at e
  simp only [] at e
  obtain ⟨⟨⟨h1, h1'⟩, h2, h4, h5, h6, h7, h9, h9'⟩, h10, h11⟩ := h
  split at e
  · cases e
  · split at e
    · cases e
    · rename_i hc
      have c20 : bC q < 20 := by omega
      split at e
      · split at e
        · cases e
        · split at e
          · cases e
          · rename_i hw _ _
            obtain ⟨l, hl, rfl⟩ := pExS_ok e
            have f10 : (bF q).length < 10 := by
              apply Classical.byContradiction
              intro z; exact hc (Or.inr ⟨hw, by omega⟩)
            refine ⟨⟨⟨fun i y hy => ?_, h1'⟩, h2, by show (bF q ++ [_]).length ≤ 10; rw [List.length_append]; show (bF q).length + 1 ≤ 10; omega, h5, h6, h7, h9, h9'⟩, by show (bO q).length ≤ bC q + 1; omega, by show bC q + 1 ≤ 20; omega⟩
            by_cases z : i < (bF q).length
            · have hy : (bF q ++ [_])[i]? = some y := hy
              rw [List.getElem?_append_left z] at hy
              exact h1 i y hy
            · have hy : (bF q ++ [_])[i]? = some y := hy
              rw [List.getElem?_append_right (by omega)] at hy
              have : i - (bF q).length = 0 := by
                apply Classical.byContradiction
                intro w
                rw [List.getElem?_eq_none (by show 1 ≤ _; omega)] at hy
                cases hy
              rw [this] at hy
              cases hy
              exact hl
      · split at e
        · obtain ⟨l, hl, rfl⟩ := pExS_ok e
          refine ⟨⟨⟨h1, fun i y hy => ?_⟩, h2, h4, by show (bO q ++ [l]).length ≤ 20; rw [List.length_append]; show (bO q).length + 1 ≤ 20; omega, h6, h7, h9, h9'⟩, by show (bO q ++ [l]).length ≤ bC q + 1; rw [List.length_append]; show (bO q).length + 1 ≤ bC q + 1; omega, by show bC q + 1 ≤ 20; omega⟩
          have hy : (bO q ++ [l])[i]? = some y := hy
          by_cases z : i < (bO q).length
          · rw [List.getElem?_append_left z] at hy
            exact h1' i y hy
          · rw [List.getElem?_append_right (by omega)] at hy
            have : i - (bO q).length = 0 := by
              apply Classical.byContradiction
              intro w
              rw [List.getElem?_eq_none (by show 1 ≤ _; omega)] at hy
              cases hy
            rw [this] at hy
            cases hy
            exact hl
        · split at e
          · split at e
            · cases e
            · rename_i e2
              have ht := pTies_ok e2
              rw [pSg_q e]
              exact ⟨⟨⟨h1, h1'⟩, h2, h4, h5, ht, h7, h9, h9'⟩, by show (bO q).length ≤ bC q + 1; omega, by show bC q + 1 ≤ 20; omega⟩
          · split at e
            · split at e
              · cases e
              · rename_i ht
                have t0 := tnE_0 (Classical.not_not.mp ht)
                rw [pSg_q e]
                exact ⟨⟨⟨h1, h1'⟩, h2, h4, h5, h6, ⟨by show (1 : Int) ≤ (dv B _ _ : Nat); omega, by show ((dv B _ _ : Nat) : Int) ≤ 20; omega⟩, h9, h9'⟩, by show (bO q).length ≤ bC q + 1; omega, by show bC q + 1 ≤ 20; omega⟩
            · split at e
              · cases e
              · rename_i ht
                have t0 := tnE_0 (Classical.not_not.mp ht)
                rw [pSg_q e]
                exact ⟨⟨⟨h1, h1'⟩, h2, h4, h5, h6, h7, by show (-1 : Int) ≤ (dv B _ _ : Nat); omega, by show ((dv B _ _ : Nat) : Int) ≤ 9999; omega⟩, by show (bO q).length ≤ bC q + 1; omega, by show bC q + 1 ≤ 20; omega⟩
theorem pParts_ok : ∀ f q b, okB q → pParts B n f q b = .inr (c, q') → okB q'
  | 0, q, b, h, e => by
    have e : (Sum.inr (b, q) : BR) = .inr (c, q') := e
    cases e; exact h
  | f + 1, q, b, h, e => by
    unfold pParts at e
    split at e
    · split at e
      · cases e
      · rename_i e2
        exact pParts_ok f _ _ (pPart_ok h e2) e
    · cases e; exact h
theorem pCls_ok : ∀ f q b, okB q → pCls B n f q b = .inr (c, q') → okB q'
  | 0, q, b, h, e => by
    have e : (Sum.inr (b, q) : BR) = .inr (c, q') := e
    cases e; exact h
  | f + 1, q, b, h, e => by
    unfold pCls at e
    split at e
    · cases e; exact h
    · split at e
      · cases e
      · rename_i e2
        exact pCls_ok f _ _ (pCl_ok h e2) e
/-- what the reader makes may stand -/
theorem pRules_ok (e : pRules B n = .inr (c, q')) : BkO q' := by
  unfold pRules at e
  split at e
  · cases e
  · split at e
    · cases e
    · rename_i e2
      exact (pCls_ok 21 _ _ (pParts_ok 9 _ _ okB_0 e2) e).1
end

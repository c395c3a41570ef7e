/-! One card, one protest more: the reference's side, and what always holds. -/
section
variable {M M' : Mem} {s : Sn} {u i m : Nat} {D t : Int} {rows : Rw} {re : Bool}
theorem MCd_Hk {v : Nat} (h : Hk M M' m) (hi : i < m) (hC : MCd M i v D rows t re) : MCd M' i v D rows t re := by
  obtain ⟨_, _, _, _, _, _, b7, b8⟩ := h
  have e := fun c h1 h2 h3 h4 h5 => b7 c h1 h2 h3 h4 h5 i (by omega)
  obtain ⟨c1, c2, c3, ⟨f1, f2, f3⟩, c5, c6⟩ := hC
  refine ⟨by rw [e 186 (by decide) (by decide) (by decide) (by decide) (by decide)]; exact c1, by rw [e 187 (by decide) (by decide) (by decide) (by decide) (by decide)]; exact c2, by rw [e 188 (by decide) (by decide) (by decide) (by decide) (by decide)]; exact c3, ⟨by rw [e 189 (by decide) (by decide) (by decide) (by decide) (by decide)]; exact f1, f2, fun j y hy => ?_⟩, ?_, by rw [e 194 (by decide) (by decide) (by decide) (by decide) (by decide)]; exact c6⟩
  · have hj : j < (flt rows).length := by
      by_cases w : j < (flt rows).length
      · exact w
      · rw [List.getElem?_eq_none (by omega)] at hy; cases hy
    obtain ⟨g1, g2, g3⟩ := b8 (40 * i + j) (by omega)
    rw [g1, g2, g3]
    exact f3 j y hy
  · unfold MB at *
    rw [e 190 (by decide) (by decide) (by decide) (by decide) (by decide)]
    exact c5
theorem MSn_Hk (h : Hk M M' (nCd s)) (hn : mI M' 154 44 = iZ (nCd s)) (hM : MSn M s) : MSn M' s := by
  have b5 := h.2.2.2.2.1
  have b6 := h.2.2.2.2.2.1
  have e := fun c (a : 162 ≤ c) (b : c ≤ 185) => b5 c (by omega) (by omega)
  have f := fun c (a : 195 ≤ c) (b : c ≤ 198) => b5 c (by omega) (by omega)
  obtain ⟨m1, m2, m3, ⟨m4, m4'⟩, m5⟩ := hM
  refine ⟨?_, ?_, ?_, ⟨hn, fun i hi => MCd_Hk h hi (m4' i hi)⟩, ?_⟩
  · unfold MC ML NM at *
    rw [b6 24 (by decide) (by decide) (by decide) (by decide)]
    rw [e 162 (by decide) (by decide), e 163 (by decide) (by decide), e 164 (by decide) (by decide), e 165 (by decide) (by decide), e 166 (by decide) (by decide), e 167 (by decide) (by decide), e 168 (by decide) (by decide), e 169 (by decide) (by decide), e 170 (by decide) (by decide), e 171 (by decide) (by decide), e 172 (by decide) (by decide), e 173 (by decide) (by decide), e 174 (by decide) (by decide), e 175 (by decide) (by decide), e 176 (by decide) (by decide)]
    exact m1
  · rw [b6 42 (by decide) (by decide) (by decide) (by decide), e 179 (by decide) (by decide), e 180 (by decide) (by decide), e 181 (by decide) (by decide)]
    exact m2
  · rw [b6 43 (by decide) (by decide) (by decide) (by decide), e 182 (by decide) (by decide), e 183 (by decide) (by decide), e 184 (by decide) (by decide), e 185 (by decide) (by decide)]
    exact m3
  · rw [b6 45 (by decide) (by decide) (by decide) (by decide), f 195 (by decide) (by decide), f 196 (by decide) (by decide), f 197 (by decide) (by decide), f 198 (by decide) (by decide)]
    exact m5
theorem MSn_addC (h : Hk M M' (nCd s)) (hn : mI M' 154 44 = iZ ((nCd s + 1 : Nat) : Int)) (hc : MCd M' (nCd s) u D rows t re) (hM : MSn M s) : MSn M' (addC s u D rows t re) := by
  have b5 := h.2.2.2.2.1
  have b6 := h.2.2.2.2.2.1
  have e := fun c (a : 162 ≤ c) (b : c ≤ 185) => b5 c (by omega) (by omega)
  have f := fun c (a : 195 ≤ c) (b : c ≤ 198) => b5 c (by omega) (by omega)
  obtain ⟨m1, m2, m3, ⟨m4, m4'⟩, m5⟩ := hM
  refine ⟨?_, ?_, ?_, ⟨hn, fun i hi => ?_⟩, ?_⟩
  · unfold MC ML NM at *
    rw [b6 24 (by decide) (by decide) (by decide) (by decide)]
    rw [e 162 (by decide) (by decide), e 163 (by decide) (by decide), e 164 (by decide) (by decide), e 165 (by decide) (by decide), e 166 (by decide) (by decide), e 167 (by decide) (by decide), e 168 (by decide) (by decide), e 169 (by decide) (by decide), e 170 (by decide) (by decide), e 171 (by decide) (by decide), e 172 (by decide) (by decide), e 173 (by decide) (by decide), e 174 (by decide) (by decide), e 175 (by decide) (by decide), e 176 (by decide) (by decide)]
    exact m1
  · rw [b6 42 (by decide) (by decide) (by decide) (by decide), e 179 (by decide) (by decide), e 180 (by decide) (by decide), e 181 (by decide) (by decide)]
    exact m2
  · rw [b6 43 (by decide) (by decide) (by decide) (by decide), e 182 (by decide) (by decide), e 183 (by decide) (by decide), e 184 (by decide) (by decide), e 185 (by decide) (by decide)]
    exact m3
  · have hi : i < nCd s + 1 := hi
    by_cases w : i = nCd s
    · subst w
      have ea : eCd (addC s u D rows t re) (nCd s) = (u, D, rows, t, re) := addC_eq
      show MCd M' (nCd s) (eCd (addC s u D rows t re) (nCd s)).1 (eCd (addC s u D rows t re) (nCd s)).2.1 (eCd (addC s u D rows t re) (nCd s)).2.2.1 (eCd (addC s u D rows t re) (nCd s)).2.2.2.1 (eCd (addC s u D rows t re) (nCd s)).2.2.2.2
      rw [ea]
      exact hc
    · have ea : eCd (addC s u D rows t re) i = eCd s i := addC_lt (by omega)
      show MCd M' i (eCd (addC s u D rows t re) i).1 (eCd (addC s u D rows t re) i).2.1 (eCd (addC s u D rows t re) i).2.2.1 (eCd (addC s u D rows t re) i).2.2.2.1 (eCd (addC s u D rows t re) i).2.2.2.2
      rw [ea]
      exact MCd_Hk h (by omega) (m4' i (by omega))
  · rw [b6 45 (by decide) (by decide) (by decide) (by decide), f 195 (by decide) (by decide), f 196 (by decide) (by decide), f 197 (by decide) (by decide), f 198 (by decide) (by decide)]
    exact m5
theorem Sok_addC (hO : Sok s) (hn : nCd s < 200) (hu : u < nRn s) (D0 : 0 ≤ D) (D9 : D ≤ 999) {B : Nat → Nat} {n : Nat} (hk : kCard B n (uBk s u) = .inr (rows, t, re)) : Sok (addC s u D rows t re) := by
  obtain ⟨o1, o2, o3, ⟨o4, o4'⟩, o5⟩ := hO
  refine ⟨o1, o2, o3, ⟨show nCd s + 1 ≤ 200 by omega, fun i hi => ?_⟩, o5⟩
  have hi : i < nCd s + 1 := hi
  show (eCd (addC s u D rows t re) i).1 < nRn s ∧ (0 ≤ (eCd (addC s u D rows t re) i).2.1 ∧ (eCd (addC s u D rows t re) i).2.1 ≤ 999) ∧ rwK (uBk s (eCd (addC s u D rows t re) i).1) (eCd (addC s u D rows t re) i).2.2.1 ∧ rwO (-1) (eCd (addC s u D rows t re) i).2.2.1 ∧ nFa (eCd (addC s u D rows t re) i).2.2.1 ≤ 40 ∧ 0 ≤ (eCd (addC s u D rows t re) i).2.2.2.1 ∧ (eCd (addC s u D rows t re) i).2.2.2.1 ≤ 99999
  by_cases w : i = nCd s
  · subst w
    have ea : eCd (addC s u D rows t re) (nCd s) = (u, D, rows, t, re) := addC_eq
    rw [ea]
    have r := kCard_r hk
    exact ⟨hu, ⟨D0, D9⟩, r⟩
  · have ea : eCd (addC s u D rows t re) i = eCd s i := addC_lt (by omega)
    rw [ea]
    exact o4' i (by omega)
theorem MSn_addP (hM : MSn M s) (hM' : M' = rowI (rowI (rowI (rowI (rowI M 154 (fu (fu (mI M 154) 2 (iZ 0)) 45 (iZ ((nPt s : Int) + 1)))) 195 (fu (mI M 195) (nPt s) (iZ u))) 196 (fu (mI M 196) (nPt s) (iZ (-1)))) 197 (fu (mI M 197) (nPt s) (iZ 0))) 198 (fu (mI M 198) (nPt s) (iZ 0))) : MSn M' (addP s u) := by
  have b5 : ∀ c, 154 < c → c < 195 → mI M' c = mI M c := fun c h1 h2 => by rw [hM', mI_row_ne (by omega), mI_row_ne (by omega), mI_row_ne (by omega), mI_row_ne (by omega), mI_row_ne (by omega)]
  have v : mI M' 154 = fu (fu (mI M 154) 2 (iZ 0)) 45 (iZ ((nPt s : Int) + 1)) := by rw [hM', mI_row_ne (by decide), mI_row_ne (by decide), mI_row_ne (by decide), mI_row_ne (by decide), mI_row]
  have b6 : ∀ j, j ≠ 2 → j ≠ 45 → mI M' 154 j = mI M 154 j := fun j h1 h2 => by rw [v]; exact (if_neg h2).trans (if_neg h1)
  have v45 : mI M' 154 45 = iZ ((nPt s : Int) + 1) := by rw [v]; exact if_pos rfl
  have v195 : mI M' 195 = fu (mI M 195) (nPt s) (iZ u) := by rw [hM', mI_row_ne (by decide), mI_row_ne (by decide), mI_row_ne (by decide), mI_row]
  have v196 : mI M' 196 = fu (mI M 196) (nPt s) (iZ (-1)) := by rw [hM', mI_row_ne (by decide), mI_row_ne (by decide), mI_row]
  have v197 : mI M' 197 = fu (mI M 197) (nPt s) (iZ 0) := by rw [hM', mI_row_ne (by decide), mI_row]
  have v198 : mI M' 198 = fu (mI M 198) (nPt s) (iZ 0) := by rw [hM', mI_row]
  clear hM' v
  have e := fun c (a : 162 ≤ c) (b : c ≤ 194) => b5 c (by omega) (by omega)
  obtain ⟨m1, m2, m3, m4, m5, m5'⟩ := hM
  refine ⟨?_, ?_, ?_, ?_, v45, fun i hi => ?_⟩
  · unfold MC ML NM at *
    rw [b6 24 (by decide) (by decide)]
    rw [e 162 (by decide) (by decide), e 163 (by decide) (by decide), e 164 (by decide) (by decide), e 165 (by decide) (by decide), e 166 (by decide) (by decide), e 167 (by decide) (by decide), e 168 (by decide) (by decide), e 169 (by decide) (by decide), e 170 (by decide) (by decide), e 171 (by decide) (by decide), e 172 (by decide) (by decide), e 173 (by decide) (by decide), e 174 (by decide) (by decide), e 175 (by decide) (by decide), e 176 (by decide) (by decide)]
    exact m1
  · rw [b6 42 (by decide) (by decide), e 179 (by decide) (by decide), e 180 (by decide) (by decide), e 181 (by decide) (by decide)]
    exact m2
  · rw [b6 43 (by decide) (by decide), e 182 (by decide) (by decide), e 183 (by decide) (by decide), e 184 (by decide) (by decide), e 185 (by decide) (by decide)]
    exact m3
  · unfold MCd MF MB at *
    rw [b6 44 (by decide) (by decide), e 186 (by decide) (by decide), e 187 (by decide) (by decide), e 188 (by decide) (by decide), e 189 (by decide) (by decide), e 190 (by decide) (by decide), e 191 (by decide) (by decide), e 192 (by decide) (by decide), e 193 (by decide) (by decide), e 194 (by decide) (by decide)]
    exact m4
  · have hi : i < nPt s + 1 := hi
    rw [v195, v196, v197, v198]
    by_cases w : i = nPt s
    · subst w
      have ea : ePt (addP s u) (nPt s) = (u, -1, 0, 0) := if_pos rfl
      rw [ea]
      exact ⟨if_pos rfl, if_pos rfl, fun _ => ⟨if_pos rfl, if_pos rfl⟩⟩
    · have ea : ePt (addP s u) i = ePt s i := addP_lt (by omega)
      rw [ea]
      obtain ⟨g1, g2, g3⟩ := m5' i (by omega)
      exact ⟨(if_neg w).trans g1, (if_neg w).trans g2, fun h => ⟨(if_neg w).trans (g3 h).1, (if_neg w).trans (g3 h).2⟩⟩
theorem Sok_addP (hO : Sok s) (hn : nPt s < 40) (hu : u < nRn s) : Sok (addP s u) := by
  obtain ⟨o1, o2, o3, o4, o5, o5'⟩ := hO
  refine ⟨o1, o2, o3, o4, show nPt s + 1 ≤ 40 by omega, fun i hi => ?_⟩
  have hi : i < nPt s + 1 := hi
  show (ePt (addP s u) i).1 < nRn s ∧ (-1 ≤ (ePt (addP s u) i).2.1 ∧ (ePt (addP s u) i).2.1 ≤ 999) ∧ ((ePt (addP s u) i).2.1 ≠ -1 → (0 ≤ (ePt (addP s u) i).2.2.1 ∧ (ePt (addP s u) i).2.2.1 ≤ 3) ∧ -50 ≤ (ePt (addP s u) i).2.2.2 ∧ (ePt (addP s u) i).2.2.2 ≤ 50)
  by_cases w : i = nPt s
  · subst w
    have ea : ePt (addP s u) (nPt s) = (u, -1, 0, 0) := if_pos rfl
    rw [ea]
    exact ⟨hu, ⟨Int.le_refl (-1), show (-1 : Int) ≤ 999 by decide⟩, fun h => absurd rfl h⟩
  · have ea : ePt (addP s u) i = ePt s i := addP_lt (by omega)
    rw [ea]
    exact o5' i (by omega)
end

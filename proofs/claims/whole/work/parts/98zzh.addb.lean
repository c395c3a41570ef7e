/-! One book more. -/
section
variable {M M' : Mem} {s : Sn} {kb ra ca : Nat → Nat} {u i r m sz N : Nat} {q q1 : Bk}
def addB (s : Sn) (q : Bk) : Sn := ((nBk s + 1, fu (eBk s) (nBk s) q), s.2)
theorem addB_lt (hi : i < nBk s) : eBk (addB s q) i = eBk s i := if_neg (by omega)
theorem addB_eq : eBk (addB s q) (nBk s) = q := if_pos rfl
theorem addB_cA {w : Nat} {kk : Int} {n : Nat} : cA (addB s q) w kk n = cA s w kk n := cA_congr n (fun _ _ => rfl)
theorem addB_sU (hO : Sok s) (hu : u < nRn s) : sU s (addB s q) u := ⟨rfl, rfl, addB_lt (hO.2.1.2 _ (hO.2.2.1.2 u hu).1).1⟩
theorem Sok_addB (hO : Sok s) (hn : nBk s < 6) (hq : BkO q) : Sok (addB s q) := by
  have hO' := hO
  obtain ⟨⟨o1, o1'⟩, ⟨o2, o2'⟩, o3, ⟨o4, o4'⟩, o5⟩ := hO
  refine ⟨⟨show nBk s + 1 ≤ 6 by omega, fun i hi => ?_⟩, ⟨o2, fun i hi => ?_⟩, o3, ⟨o4, fun i hi => ?_⟩, o5⟩
  · have hi : i < nBk s + 1 := hi
    by_cases z : i = nBk s
    · subst z; rw [addB_eq]; exact hq
    · rw [addB_lt (by omega)]; exact o1' i (by omega)
  · obtain ⟨a1, a2⟩ := o2' i hi
    exact ⟨Nat.lt_succ_of_lt a1, a2⟩
  · have hi : i < nCd s := hi
    obtain ⟨a1, a2, a3, a4⟩ := o4' i hi
    obtain ⟨u1, _, _⟩ := sU_ (addB_sU (q := q) hO' a1)
    refine ⟨a1, a2, ?_, a4⟩
    show rwK (uBk (addB s q) (cRn s i)) (cRw s i)
    rw [u1]; exact a3
theorem MC_HB (h : MC M r sz q) (h9 : sz ≤ 900) (hB : HB M M' m) (hr : r < m) : MC M' r sz q := by
  have e := hB.2.2.2.2.2.2
  have e1 : ∀ c, 162 ≤ c → c ≤ 176 → bW c = 1 → mI M' c r = mI M c r := fun c h1 h2 h3 => e c h1 h2 r (Or.inl (by rw [h3]; omega))
  have eN : ∀ w x, w < 18 * m → NM M w x → NM M' w x := fun w x hw hN => NM_fr hN (e 162 (by decide) (by decide) w (Or.inl (by show w < 18 * m; omega))) (fun j hj => e 163 (by decide) (by decide) _ (Or.inl (by show 8 * w + j < 144 * m; omega)))
  have eL : ∀ st l, st + l.length ≤ sz → ML M (900 * r + st) l → ML M' (900 * r + st) l := fun st l hl hM j x hx => by
    have hj : j < l.length := by
      by_cases w : j < l.length
      · exact w
      · rw [List.getElem?_eq_none (by omega)] at hx; cases hx
    rw [e 176 (by decide) (by decide) _ (Or.inl (by show 900 * r + st + j < 900 * m; omega))]
    exact hM j x hx
  have ll : ∀ {α : Type} (l : List α) (i : Nat) (x : α), l[i]? = some x → i < l.length := fun l i x hx => by
    by_cases w : i < l.length
    · exact w
    · rw [List.getElem?_eq_none (by omega)] at hx; cases hx
  obtain ⟨⟨a1, a2, a3⟩, ⟨b1, b2, b3⟩, ⟨c1, c2, c3, c4⟩, ⟨d1, d2, d3⟩, f1, f2⟩ := h
  refine ⟨⟨(e1 164 (by decide) (by decide) rfl).trans a1, a2, fun i x hx => ?_⟩, ⟨(e1 166 (by decide) (by decide) rfl).trans b1, b2, fun i x hx => ?_⟩, ⟨(e1 169 (by decide) (by decide) rfl).trans c1, c2, c3, fun i l hx => ?_⟩, ⟨(e1 172 (by decide) (by decide) rfl).trans d1, d2, fun i t hx => ?_⟩, (e1 174 (by decide) (by decide) rfl).trans f1, (e1 175 (by decide) (by decide) rfl).trans f2⟩
  · have hi := ll _ i x hx
    obtain ⟨g1, g2, g3⟩ := a3 i x hx
    exact ⟨(e 165 (by decide) (by decide) _ (Or.inl (by show 8 * r + i < 8 * m; omega))).trans g1, eN _ _ (by omega) g2, g3⟩
  · have hi := ll _ i x hx
    obtain ⟨g1, st, g2, g3, g4, g5⟩ := b3 i x hx
    exact ⟨eN _ _ (by omega) g1, st, (e 167 (by decide) (by decide) _ (Or.inl (by show 10 * r + i < 10 * m; omega))).trans g2, (e 168 (by decide) (by decide) _ (Or.inl (by show 10 * r + i < 10 * m; omega))).trans g3, eL _ _ g5 g4, g5⟩
  · have hi := ll _ i l hx
    obtain ⟨st, g2, g3, g4, g5⟩ := c4 i l hx
    exact ⟨st, (e 170 (by decide) (by decide) _ (Or.inl (by show 20 * r + i < 20 * m; omega))).trans g2, (e 171 (by decide) (by decide) _ (Or.inl (by show 20 * r + i < 20 * m; omega))).trans g3, eL _ _ g5 g4, g5⟩
  · have hi := ll _ i t hx
    obtain ⟨g1, g2⟩ := d3 i t hx
    exact ⟨(e 173 (by decide) (by decide) _ (Or.inl (by show 8 * r + i < 8 * m; omega))).trans g1, g2⟩
theorem MSn_HBx (hB : HB M M' (nBk s)) (hM : MSn M s) : (∀ r, r < nBk s → ∃ sz, sz ≤ 900 ∧ MC M' r sz (eBk s r)) ∧ (mI M' 154 42 = iZ (nTl s) ∧ ∀ i, i < nTl s → mI M' 179 i = iZ (eTl s i).1 ∧ mI M' 180 i = iZ (eTl s i).2.1 ∧ mI M' 181 i = iZ (eTl s i).2.2) ∧ (mI M' 154 43 = iZ (nRn s) ∧ ∀ i, i < nRn s → mI M' 182 i = iZ (eRn s i).1 ∧ mI M' 183 i = iZ (eRn s i).2.1 ∧ mI M' 184 i = iZ (eRn s i).2.2.1 ∧ mI M' 185 i = iZ (eRn s i).2.2.2) ∧ (mI M' 154 44 = iZ (nCd s) ∧ ∀ i, i < nCd s → MCd M' i (cRn s i) (cDy s i) (cRw s i) (cTm s i) (cRe s i)) ∧ (mI M' 154 45 = iZ (nPt s) ∧ ∀ i, i < nPt s → mI M' 195 i = iZ (ePt s i).1 ∧ mI M' 196 i = iZ (ePt s i).2.1 ∧ ((ePt s i).2.1 ≠ -1 → mI M' 197 i = iZ (ePt s i).2.2.1 ∧ mI M' 198 i = iZ (ePt s i).2.2.2)) := by
  have f := fun c (a : 177 ≤ c) => hB.2.2.2.2.1 c (by omega) (by omega)
  have b6 := hB.2.2.2.2.2.1
  obtain ⟨⟨m1, m1'⟩, m2, m3, m4, m5⟩ := hM
  refine ⟨fun r hr => ?_, ?_, ?_, ?_, ?_⟩
  · obtain ⟨sz, z9, hmc⟩ := m1' r hr
    exact ⟨sz, z9, MC_HB hmc z9 hB hr⟩
  · rw [b6 42 (by omega), f 179 (by decide), f 180 (by decide), f 181 (by decide)]; exact m2
  · rw [b6 43 (by omega), f 182 (by decide), f 183 (by decide), f 184 (by decide), f 185 (by decide)]; exact m3
  · unfold MCd MF MB at *
    rw [b6 44 (by omega), f 186 (by decide), f 187 (by decide), f 188 (by decide), f 189 (by decide), f 190 (by decide), f 191 (by decide), f 192 (by decide), f 193 (by decide), f 194 (by decide)]
    exact m4
  · rw [b6 45 (by omega), f 195 (by decide), f 196 (by decide), f 197 (by decide), f 198 (by decide)]; exact m5
theorem MSn_HB (hB : HB M M' (nBk s)) (hn : mI M' 154 24 = iZ (nBk s)) (hM : MSn M s) : MSn M' s := by
  obtain ⟨a1, a2⟩ := MSn_HBx hB hM
  exact ⟨⟨hn, a1⟩, a2⟩
theorem MSn_addB (hB : HB M M' (nBk s)) (hn : mI M' 154 24 = iZ ((nBk s + 1 : Nat) : Int)) (hq : ∃ sz, sz ≤ 900 ∧ MC M' (nBk s) sz q) (hM : MSn M s) : MSn M' (addB s q) := by
  obtain ⟨a1, a2⟩ := MSn_HBx hB hM
  refine ⟨⟨hn, fun r hr => ?_⟩, a2⟩
  have hr : r < nBk s + 1 := hr
  by_cases z : r = nBk s
  · subst z; rw [addB_eq]; exact hq
  · rw [addB_lt (by omega)]; exact a1 r (by omega)
theorem Dj_addB (hD : Dj s kb) (hl : ∀ i, i < nBk s → kb i + 11 ≤ m) : Dj (addB s q) (fu kb (nBk s) m) := by
  intro i j hij hj
  have hj : j < nBk s + 1 := hj
  have old : ∀ i, i < nBk s → (fu kb (nBk s) m) i = kb i := fun i hi => if_neg (by omega)
  have new : (fu kb (nBk s) m) (nBk s) = m := if_pos rfl
  by_cases z : j = nBk s
  · subst z
    rw [new, old i (by omega)]
    exact hl i (by omega)
  · rw [old i (by omega), old j (by omega)]
    exact hD i j hij (by omega)
/-- what the reader of rules leaves as it was -/
def FR (M M' : Mem) : Prop := mN M ≤ mN M' ∧ ∀ c, c < mN M → mK M' c = mK M c ∧ (c ≠ 91 → mJ M' c = mJ M c) ∧ (c ≠ 91 → c ≠ 61 → mI M' c = mI M c) ∧ (c ≠ 94 → mP M' c = mP M c)
theorem CSn_FRx (hS : 222 ≤ mN M) (hF : FR M M') (hC : CSn M s kb ra ca) : (∀ i, i < nBk s → ∃ N sz, BK M' (kb i) N ∧ BC M' (kb i) sz (eBk s i) ∧ sz ≤ N ∧ N ≤ 600) ∧ (mI M' 97 0 = iZ (nTl s) ∧ ∀ i, i < nTl s → mP M' 98 i = some (kb (eTl s i).1) ∧ mI M' 99 i = iZ (eTl s i).2.1 ∧ mI M' 100 i = iZ (eTl s i).2.2) ∧ (mI M' 97 4 = iZ (nRn s) ∧ ∀ i, i < nRn s → mP M' 101 i = some (ra i) ∧ 222 ≤ ra i ∧ oB M' (ra i) 7 ∧ mI M' (ra i) 0 = iZ (eRn s i).1 ∧ mI M' (ra i) 1 = iZ (eRn s i).2.1 ∧ mI M' (ra i) 2 = iZ (eRn s i).2.2.1 ∧ mI M' (ra i) 3 = iZ (eRn s i).2.2.2 ∧ mP M' (ra i) 4 = oA ca (cA s i 999 (nCd s)) ∧ ∀ j, j < nRn s → ra i = ra j → i = j) ∧ (mI M' 97 6 = iZ (nCd s) ∧ ∀ i, i < nCd s → CO M' (ca i) (uBk s (cRn s i)) (uHr s (cRn s i)) (uWd s (cRn s i)) (cRw s i) (cTm s i) (cRe s i) ∧ mI M' (ca i) 0 = iZ (cDy s i) ∧ mP M' (ca i) 7 = oA ca (cA s (cRn s i) 999 i)) ∧ (mI M' 97 7 = iZ (nPt s) ∧ ∀ i, i < nPt s → mI M' 102 i = iZ (ePt s i).1 ∧ mI M' 103 i = iZ (ePt s i).2.1 ∧ ((ePt s i).2.1 ≠ -1 → mI M' 104 i = iZ (ePt s i).2.2.1 ∧ mI M' 105 i = iZ (ePt s i).2.2.2)) := by
  obtain ⟨f0, f⟩ := hF
  have I : ∀ y, y < mN M → y ≠ 91 → y ≠ 61 → mI M' y = mI M y := fun y h1 h2 h3 => (f y h1).2.2.1 h2 h3
  have P : ∀ y, y < mN M → y ≠ 94 → mP M' y = mP M y := fun y h1 h2 => (f y h1).2.2.2 h2
  have K : ∀ y, y < mN M → mK M' y = mK M y := fun y h => (f y h).1
  have J : ∀ y, y < mN M → y ≠ 91 → mJ M' y = mJ M y := fun y h h2 => (f y h).2.1 h2
  obtain ⟨⟨b1, b2⟩, t1, ⟨r1, r2⟩, ⟨c1, c2⟩, p1⟩ := hC
  refine ⟨fun i hi => ?_, ?_, ⟨by rw [I 97 (by omega) (by omega) (by omega)]; exact r1, fun i hi => ?_⟩, ⟨by rw [I 97 (by omega) (by omega) (by omega)]; exact c1, fun i hi => ?_⟩, ?_⟩
  · obtain ⟨e1, N, sz, e2, e3, e4⟩ := b2 i hi
    have k1 := e2.1
    have k2 := e2.2.1
    exact ⟨N, sz, BK_fr e2 (by omega) (fun y _ _ => ⟨K y (by omega), P y (by omega) (by omega)⟩), BC_fr e3 (fun y h1 h2 => ⟨I y (by omega) (by omega) (by omega), J y (by omega) (by omega)⟩), e4⟩
  · rw [I 97 (by omega) (by omega) (by omega), P 98 (by omega) (by omega), I 99 (by omega) (by omega) (by omega), I 100 (by omega) (by omega) (by omega)]; exact t1
  · obtain ⟨e1, e2, e3, e4⟩ := r2 i hi
    have l := e3.2.1
    rw [P 101 (by omega) (by omega), P (ra i) l (by omega), I (ra i) l (by omega) (by omega)]
    exact ⟨e1, e2, ⟨e3.1, by omega, by rw [K _ l]; exact e3.2.2⟩, e4⟩
  · obtain ⟨⟨e1, e2⟩, e3, e4⟩ := c2 i hi
    obtain ⟨f1, f2, f3, f4, f5, f6, f7⟩ := e1
    rw [P (ca i) (by omega) (by omega)]
    refine ⟨⟨⟨f1, by omega, by rw [K _ (by omega)]; exact f3, by rw [K _ (by omega)]; exact f4, by rw [K _ (by omega)]; exact f5, by rw [P _ (by omega) (by omega)]; exact f6, by rw [P _ (by omega) (by omega)]; exact f7⟩, ?_⟩, ?_, e4⟩
    · rw [I (ca i) (by omega) (by omega) (by omega), I (ca i + 1) (by omega) (by omega) (by omega), I (ca i + 2) (by omega) (by omega) (by omega)]; exact e2
    · rw [I (ca i) (by omega) (by omega) (by omega)]; exact e3
  · rw [I 97 (by omega) (by omega) (by omega), I 102 (by omega) (by omega) (by omega), I 103 (by omega) (by omega) (by omega), I 104 (by omega) (by omega) (by omega), I 105 (by omega) (by omega) (by omega)]; exact p1
theorem CSn_FR (hS : 222 ≤ mN M) (hF : FR M M') (h61 : mI M' 61 = mI M 61) (h94 : mP M' 94 = mP M 94) (hC : CSn M s kb ra ca) : CSn M' s kb ra ca := by
  obtain ⟨a1, a2⟩ := CSn_FRx hS hF hC
  refine ⟨⟨by rw [h61]; exact hC.1.1, fun i hi => ⟨by rw [h94]; exact (hC.1.2 i hi).1, a1 i hi⟩⟩, a2⟩
theorem CSn_addB (hS : 222 ≤ mN M) (hO : Sok s) (hF : FR M M') (h61 : mI M' 61 = fu (mI M 61) 6 (iZ ((nBk s + 1 : Nat) : Int))) (h94 : mP M' 94 = fu (mP M 94) (nBk s) (some (mN M))) (hb : ∃ N sz, BK M' (mN M) N ∧ BC M' (mN M) sz q ∧ sz ≤ N ∧ N ≤ 600) (hC : CSn M s kb ra ca) : CSn M' (addB s q) (fu kb (nBk s) (mN M)) ra ca := by
  obtain ⟨a1, ⟨t1, t2⟩, ⟨r1, r2⟩, ⟨c1, c2⟩, a5⟩ := CSn_FRx hS hF hC
  have old : ∀ i, i < nBk s → (fu kb (nBk s) (mN M)) i = kb i := fun i hi => if_neg (by omega)
  have new : (fu kb (nBk s) (mN M)) (nBk s) = mN M := if_pos rfl
  refine ⟨⟨by rw [h61]; exact if_pos rfl, fun i hi => ?_⟩, ⟨t1, fun i hi => ?_⟩, ⟨r1, fun i hi => ?_⟩, ⟨c1, fun i hi => ?_⟩, a5⟩
  · have hi : i < nBk s + 1 := hi
    rw [h94]
    by_cases z : i = nBk s
    · subst z
      rw [new, addB_eq]
      exact ⟨if_pos rfl, hb⟩
    · rw [old i (by omega), addB_lt (by omega)]
      exact ⟨(if_neg z).trans (hC.1.2 i (by omega)).1, a1 i (by omega)⟩
  · have hi : i < nTl s := hi
    obtain ⟨g1, g2⟩ := t2 i hi
    refine ⟨?_, g2⟩
    show mP M' 98 i = some ((fu kb (nBk s) (mN M)) (eTl s i).1)
    rw [old _ (hO.2.1.2 i hi).1]
    exact g1
  · rw [addB_cA]; exact r2 i hi
  · have hi : i < nCd s := hi
    obtain ⟨e1, e3, e4⟩ := c2 i hi
    obtain ⟨u1, u2, u3⟩ := sU_ (addB_sU (q := q) hO (hO.2.2.2.1.2 i hi).1)
    show CO M' (ca i) (uBk (addB s q) (cRn s i)) (uHr (addB s q) (cRn s i)) (uWd (addB s q) (cRn s i)) (cRw s i) (cTm s i) (cRe s i) ∧ mI M' (ca i) 0 = iZ (cDy s i) ∧ mP M' (ca i) 7 = oA ca (cA (addB s q) (cRn s i) 999 i)
    rw [u1, u2, u3, addB_cA]
    exact ⟨e1, e3, e4⟩
end

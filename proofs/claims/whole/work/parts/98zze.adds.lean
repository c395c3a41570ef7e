/-! One trial more; a protest decided. -/
section
variable {M M' : Mem} {s s' : Sn} {kb ra ca : Nat → Nat} {u i j r n p bk : Nat} {D y w : Int}
/-- what is told of a run stays -/
def sU (s s' : Sn) (u : Nat) : Prop := eRn s' u = eRn s u ∧ eTl s' (uTr s u) = eTl s (uTr s u) ∧ eBk s' (uRl s u) = eBk s (uRl s u)
theorem sU_ (h : sU s s' u) : uBk s' u = uBk s u ∧ uHr s' u = uHr s u ∧ uWd s' u = uWd s u := by
  obtain ⟨h1, h2, h3⟩ := h
  have e1 : uTr s' u = uTr s u := by show (eRn s' u).1 = (eRn s u).1; rw [h1]
  have e2 : uRl s' u = uRl s u := by show (eTl s' (uTr s' u)).1 = (eTl s (uTr s u)).1; rw [e1, h2]
  refine ⟨?_, ?_, ?_⟩
  · show eBk s' (uRl s' u) = eBk s (uRl s u); rw [e2, h3]
  · show (eRn s' u).2.2.1 = (eRn s u).2.2.1; rw [h1]
  · show (eRn s' u).2.2.2 = (eRn s u).2.2.2; rw [h1]
/-- one trial more -/
def addT (s : Sn) (r : Nat) (y : Int) (j : Nat) : Sn := (s.1, (nTl s + 1, fu (eTl s) (nTl s) (r, y, j)), s.2.2)
theorem addT_lt (hi : i < nTl s) : eTl (addT s r y j) i = eTl s i := if_neg (by omega)
theorem addT_eq : eTl (addT s r y j) (nTl s) = (r, y, j) := if_pos rfl
theorem addT_cA {w : Nat} {kk : Int} {n : Nat} : cA (addT s r y j) w kk n = cA s w kk n := cA_congr n (fun _ _ => rfl)
theorem addT_sU (hO : Sok s) (hu : u < nRn s) : sU s (addT s r y j) u := ⟨rfl, addT_lt (hO.2.2.1.2 u hu).1, rfl⟩
theorem CSn_addT (hO : Sok s) (hC : CSn M s kb ra ca) (hr : r < nBk s) (hM' : M' = rowI (rowI (rowI (rowP M 98 (fu (mP M 98) (nTl s) (some (kb r)))) 97 (fu (mI M 97) 0 (iZ ((nTl s : Int) + 1)))) 99 (fu (mI M 99) (nTl s) (iZ y))) 100 (fu (mI M 100) (nTl s) (iZ j))) : CSn M' (addT s r y j) kb ra ca := by
  obtain ⟨⟨b1, b2⟩, ⟨t1, t2⟩, ⟨r1, r2⟩, ⟨c1, c2⟩, p1, p2⟩ := hC
  have I : ∀ y, y ≠ 97 → y ≠ 99 → y ≠ 100 → mI M' y = mI M y := fun y h1 h2 h3 => by rw [hM', mI_row_ne h3, mI_row_ne h2, mI_row_ne h1]; rfl
  have I97 : ∀ j, j ≠ 0 → mI M' 97 j = mI M 97 j := fun j hj => by
    rw [hM', mI_row_ne (by decide), mI_row_ne (by decide), mI_row]; exact if_neg hj
  have I0 : mI M' 97 0 = iZ ((nTl s : Int) + 1) := by rw [hM', mI_row_ne (by decide), mI_row_ne (by decide), mI_row]; exact if_pos rfl
  have I99 : mI M' 99 = fu (mI M 99) (nTl s) (iZ y) := by rw [hM', mI_row_ne (by decide), mI_row]
  have I100 : mI M' 100 = fu (mI M 100) (nTl s) (iZ j) := by rw [hM', mI_row]
  have P : ∀ y, y ≠ 98 → mP M' y = mP M y := fun y h => by rw [hM']; exact mP_row_ne h
  have P98 : mP M' 98 = fu (mP M 98) (nTl s) (some (kb r)) := by rw [hM']; exact mP_row
  have hK : mK M' = mK M := by rw [hM']; rfl
  have hN : mN M' = mN M := by rw [hM']; rfl
  have hJ : mJ M' = mJ M := by rw [hM']; rfl
  refine ⟨⟨by rw [I 61 (by omega) (by omega) (by omega)]; exact b1, fun i hi => ?_⟩, ⟨I0, fun i hi => ?_⟩, ⟨by rw [I97 4 (by omega)]; exact r1, fun i hi => ?_⟩, ⟨by rw [I97 6 (by omega)]; exact c1, fun i hi => ?_⟩, by rw [I97 7 (by omega)]; exact p1, fun i hi => ?_⟩
  · have hi : i < nBk s := hi
    obtain ⟨e1, N, sz, e2, e3, e4⟩ := b2 i hi
    have k1 := e2.1
    have k2 := e2.2.1
    exact ⟨by rw [P 94 (by omega)]; exact e1, N, sz, BK_fr e2 (by omega) (fun y _ _ => ⟨by rw [hK], P y (by omega)⟩), BC_fr e3 (fun y h1 h2 => ⟨I y (by omega) (by omega) (by omega), by rw [hJ]⟩), e4⟩
  · have hi : i < nTl s + 1 := hi
    rw [P98, I99, I100]
    by_cases z : i = nTl s
    · subst z
      rw [addT_eq]
      exact ⟨if_pos rfl, if_pos rfl, if_pos rfl⟩
    · obtain ⟨g1, g2, g3⟩ := t2 i (by omega)
      rw [addT_lt (by omega)]
      exact ⟨(if_neg z).trans g1, (if_neg z).trans g2, (if_neg z).trans g3⟩
  · obtain ⟨e1, e2, e3, e4⟩ := r2 i hi
    rw [P 101 (by omega), P (ra i) (by omega), I (ra i) (by omega) (by omega) (by omega), addT_cA]
    exact ⟨e1, e2, ⟨e3.1, by rw [hN]; exact e3.2.1, by rw [hK]; exact e3.2.2⟩, e4⟩
  · have hi : i < nCd s := hi
    obtain ⟨⟨e1, e2⟩, e3, e4⟩ := c2 i hi
    obtain ⟨f1, f2, f3, f4, f5, f6, f7⟩ := e1
    obtain ⟨u1, u2, u3⟩ := sU_ (addT_sU (r := r) (y := y) (j := j) hO (hO.2.2.2.1.2 i hi).1)
    show CO M' (ca i) (uBk (addT s r y j) (cRn s i)) (uHr (addT s r y j) (cRn s i)) (uWd (addT s r y j) (cRn s i)) (cRw s i) (cTm s i) (cRe s i) ∧ mI M' (ca i) 0 = iZ (cDy s i) ∧ mP M' (ca i) 7 = oA ca (cA (addT s r y j) (cRn s i) 999 i)
    rw [u1, u2, u3, addT_cA, P (ca i) (by omega), I (ca i) (by omega) (by omega) (by omega)]
    refine ⟨⟨⟨f1, by rw [hN]; exact f2, by rw [hK]; exact f3, by rw [hK]; exact f4, by rw [hK]; exact f5, by rw [P _ (by omega)]; exact f6, by rw [P _ (by omega)]; exact f7⟩, ?_⟩, e3, e4⟩
    rw [I (ca i) (by omega) (by omega) (by omega), I (ca i + 1) (by omega) (by omega) (by omega), I (ca i + 2) (by omega) (by omega) (by omega)]; exact e2
  · rw [I 102 (by omega) (by omega) (by omega), I 103 (by omega) (by omega) (by omega), I 104 (by omega) (by omega) (by omega), I 105 (by omega) (by omega) (by omega)]; exact p2 i hi
theorem MSn_addT (hM : MSn M s) (hM' : M' = rowI (rowI (rowI (rowI M 154 (fu (fu (mI M 154) 2 (iZ 0)) 42 (iZ ((nTl s : Int) + 1)))) 179 (fu (mI M 179) (nTl s) (iZ r))) 180 (fu (mI M 180) (nTl s) (iZ y))) 181 (fu (mI M 181) (nTl s) (iZ j))) : MSn M' (addT s r y j) := by
  have b5 : ∀ c, c ≠ 154 → (c < 179 ∨ 181 < c) → mI M' c = mI M c := fun c h1 h2 => by rw [hM', mI_row_ne (by omega), mI_row_ne (by omega), mI_row_ne (by omega), mI_row_ne h1]
  have v : mI M' 154 = fu (fu (mI M 154) 2 (iZ 0)) 42 (iZ ((nTl s : Int) + 1)) := by rw [hM', mI_row_ne (by decide), mI_row_ne (by decide), mI_row_ne (by decide), mI_row]
  have b6 : ∀ j, j ≠ 2 → j ≠ 42 → mI M' 154 j = mI M 154 j := fun j h1 h2 => by rw [v]; exact (if_neg h2).trans (if_neg h1)
  have v42 : mI M' 154 42 = iZ ((nTl s : Int) + 1) := by rw [v]; exact if_pos rfl
  have v1 : mI M' 179 = fu (mI M 179) (nTl s) (iZ r) := by rw [hM', mI_row_ne (by decide), mI_row_ne (by decide), mI_row]
  have v2 : mI M' 180 = fu (mI M 180) (nTl s) (iZ y) := by rw [hM', mI_row_ne (by decide), mI_row]
  have v3 : mI M' 181 = fu (mI M 181) (nTl s) (iZ j) := by rw [hM', mI_row]
  clear hM' v
  have e := fun c (a : 162 ≤ c) (b : c ≤ 178) => b5 c (by omega) (by omega)
  have f := fun c (a : 182 ≤ c) (b : c ≤ 198) => b5 c (by omega) (by omega)
  obtain ⟨m1, ⟨m2, m2'⟩, m3, m4, m5⟩ := hM
  refine ⟨?_, ⟨v42, fun i hi => ?_⟩, ?_, ?_, ?_⟩
  · unfold MC ML NM at *
    rw [b6 24 (by decide) (by decide)]
    rw [e 162 (by decide) (by decide), e 163 (by decide) (by decide), e 164 (by decide) (by decide), e 165 (by decide) (by decide), e 166 (by decide) (by decide), e 167 (by decide) (by decide), e 168 (by decide) (by decide), e 169 (by decide) (by decide), e 170 (by decide) (by decide), e 171 (by decide) (by decide), e 172 (by decide) (by decide), e 173 (by decide) (by decide), e 174 (by decide) (by decide), e 175 (by decide) (by decide), e 176 (by decide) (by decide)]
    exact m1
  · have hi : i < nTl s + 1 := hi
    rw [v1, v2, v3]
    by_cases z : i = nTl s
    · subst z
      rw [addT_eq]
      exact ⟨if_pos rfl, if_pos rfl, if_pos rfl⟩
    · obtain ⟨g1, g2, g3⟩ := m2' i (by omega)
      rw [addT_lt (by omega)]
      exact ⟨(if_neg z).trans g1, (if_neg z).trans g2, (if_neg z).trans g3⟩
  · rw [b6 43 (by decide) (by decide), f 182 (by decide) (by decide), f 183 (by decide) (by decide), f 184 (by decide) (by decide), f 185 (by decide) (by decide)]
    exact m3
  · unfold MCd MF MB at *
    rw [b6 44 (by decide) (by decide), f 186 (by decide) (by decide), f 187 (by decide) (by decide), f 188 (by decide) (by decide), f 189 (by decide) (by decide), f 190 (by decide) (by decide), f 191 (by decide) (by decide), f 192 (by decide) (by decide), f 193 (by decide) (by decide), f 194 (by decide) (by decide)]
    exact m4
  · rw [b6 45 (by decide) (by decide), f 195 (by decide) (by decide), f 196 (by decide) (by decide), f 197 (by decide) (by decide), f 198 (by decide) (by decide)]
    exact m5
theorem Sok_addT (hO : Sok s) (hn : nTl s < 20) (hr : r < nBk s) (y0 : 0 ≤ y) (y9 : y ≤ 999) (hj : j < 6) : Sok (addT s r y j) := by
  obtain ⟨o1, ⟨o2, o2'⟩, ⟨o3, o3'⟩, ⟨o4, o4'⟩, o5⟩ := hO
  have hO : Sok s := ⟨o1, ⟨o2, o2'⟩, ⟨o3, o3'⟩, ⟨o4, o4'⟩, o5⟩
  refine ⟨o1, ⟨show nTl s + 1 ≤ 20 by omega, fun i hi => ?_⟩, ⟨o3, fun i hi => ?_⟩, ⟨o4, fun i hi => ?_⟩, o5⟩
  · have hi : i < nTl s + 1 := hi
    by_cases z : i = nTl s
    · subst z
      rw [addT_eq]
      exact ⟨hr, y0, y9, hj⟩
    · rw [addT_lt (by omega)]; exact o2' i (by omega)
  · obtain ⟨a1, a2⟩ := o3' i hi
    exact ⟨Nat.lt_succ_of_lt a1, a2⟩
  · have hi : i < nCd s := hi
    obtain ⟨a1, a2, a3, a4⟩ := o4' i hi
    obtain ⟨u1, _, _⟩ := sU_ (addT_sU (r := r) (y := y) (j := j) hO a1)
    refine ⟨a1, a2, ?_, a4⟩
    show rwK (uBk (addT s r y j) (cRn s i)) (cRw s i)
    rw [u1]; exact a3
/-- a protest decided -/
def decP (s : Sn) (p : Nat) (D w y : Int) : Sn := (s.1, s.2.1, s.2.2.1, s.2.2.2.1, (nPt s, fu (ePt s) p ((ePt s p).1, D, w, y)))
theorem decP_ne (h : i ≠ p) : ePt (decP s p D w y) i = ePt s i := if_neg h
theorem decP_eq : ePt (decP s p D w y) p = ((ePt s p).1, D, w, y) := if_pos rfl
theorem decP_cA {u : Nat} {kk : Int} {n : Nat} : cA (decP s p D w y) u kk n = cA s u kk n := cA_congr n (fun _ _ => rfl)
theorem CSn_decP (hC : CSn M s kb ra ca) (hp : p < nPt s) (hD : D ≠ -1) (hM' : M' = rowI (rowI (rowI M 103 (fu (mI M 103) p (iZ D))) 104 (fu (mI M 104) p (iZ w))) 105 (fu (mI M 105) p (iZ y))) : CSn M' (decP s p D w y) kb ra ca := by
  obtain ⟨⟨b1, b2⟩, ⟨t1, t2⟩, ⟨r1, r2⟩, ⟨c1, c2⟩, p1, p2⟩ := hC
  have I : ∀ y, y ≠ 103 → y ≠ 104 → y ≠ 105 → mI M' y = mI M y := fun y h1 h2 h3 => by rw [hM', mI_row_ne h3, mI_row_ne h2, mI_row_ne h1]
  have v1 : mI M' 103 = fu (mI M 103) p (iZ D) := by rw [hM', mI_row_ne (by decide), mI_row_ne (by decide), mI_row]
  have v2 : mI M' 104 = fu (mI M 104) p (iZ w) := by rw [hM', mI_row_ne (by decide), mI_row]
  have v3 : mI M' 105 = fu (mI M 105) p (iZ y) := by rw [hM', mI_row]
  have P : mP M' = mP M := by rw [hM']; rfl
  have hK : mK M' = mK M := by rw [hM']; rfl
  have hN : mN M' = mN M := by rw [hM']; rfl
  have hJ : mJ M' = mJ M := by rw [hM']; rfl
  refine ⟨⟨by rw [I 61 (by omega) (by omega) (by omega)]; exact b1, fun i hi => ?_⟩, ⟨by rw [I 97 (by omega) (by omega) (by omega)]; exact t1, fun i hi => ?_⟩, ⟨by rw [I 97 (by omega) (by omega) (by omega)]; exact r1, fun i hi => ?_⟩, ⟨by rw [I 97 (by omega) (by omega) (by omega)]; exact c1, fun i hi => ?_⟩, by rw [I 97 (by omega) (by omega) (by omega)]; exact p1, fun i hi => ?_⟩
  · have hi : i < nBk s := hi
    obtain ⟨e1, N, sz, e2, e3, e4⟩ := b2 i hi
    have k1 := e2.1
    have k2 := e2.2.1
    exact ⟨by rw [P]; exact e1, N, sz, BK_fr e2 (by omega) (fun y _ _ => ⟨by rw [hK], by rw [P]⟩), BC_fr e3 (fun y h1 h2 => ⟨I y (by omega) (by omega) (by omega), by rw [hJ]⟩), e4⟩
  · rw [P, I 99 (by omega) (by omega) (by omega), I 100 (by omega) (by omega) (by omega)]; exact t2 i hi
  · obtain ⟨e1, e2, e3, e4⟩ := r2 i hi
    rw [P, I (ra i) (by omega) (by omega) (by omega), decP_cA]
    exact ⟨e1, e2, ⟨e3.1, by rw [hN]; exact e3.2.1, by rw [hK]; exact e3.2.2⟩, e4⟩
  · obtain ⟨⟨e1, e2⟩, e3, e4⟩ := c2 i hi
    obtain ⟨f1, f2, f3, f4, f5, f6, f7⟩ := e1
    refine ⟨⟨⟨f1, by rw [hN]; exact f2, by rw [hK]; exact f3, by rw [hK]; exact f4, by rw [hK]; exact f5, by rw [P]; exact f6, by rw [P]; exact f7⟩, ?_⟩, ?_, by rw [P, decP_cA]; exact e4⟩
    · rw [I (ca i) (by omega) (by omega) (by omega), I (ca i + 1) (by omega) (by omega) (by omega), I (ca i + 2) (by omega) (by omega) (by omega)]; exact e2
    · rw [I (ca i) (by omega) (by omega) (by omega)]; exact e3
  · have hi : i < nPt s := hi
    obtain ⟨g1, g2, g3⟩ := p2 i hi
    rw [I 102 (by omega) (by omega) (by omega), v1, v2, v3]
    by_cases z : i = p
    · subst z
      rw [decP_eq]
      exact ⟨g1, if_pos rfl, fun _ => ⟨if_pos rfl, if_pos rfl⟩⟩
    · rw [decP_ne z]
      exact ⟨g1, (if_neg z).trans g2, fun h => ⟨(if_neg z).trans (g3 h).1, (if_neg z).trans (g3 h).2⟩⟩
theorem MSn_decP (hM : MSn M s) (hp : p < nPt s) (hM' : M' = rowI (rowI (rowI (rowI M 154 (fu (mI M 154) 2 (iZ 0))) 196 (fu (mI M 196) p (iZ D))) 197 (fu (mI M 197) p (iZ w))) 198 (fu (mI M 198) p (iZ y))) : MSn M' (decP s p D w y) := by
  have b5 : ∀ c, c ≠ 154 → c < 196 → mI M' c = mI M c := fun c h1 h2 => by rw [hM', mI_row_ne (by omega), mI_row_ne (by omega), mI_row_ne (by omega), mI_row_ne h1]
  have v : mI M' 154 = fu (mI M 154) 2 (iZ 0) := by rw [hM', mI_row_ne (by decide), mI_row_ne (by decide), mI_row_ne (by decide), mI_row]
  have b6 : ∀ j, j ≠ 2 → mI M' 154 j = mI M 154 j := fun j h1 => by rw [v]; exact if_neg h1
  have v1 : mI M' 196 = fu (mI M 196) p (iZ D) := by rw [hM', mI_row_ne (by decide), mI_row_ne (by decide), mI_row]
  have v2 : mI M' 197 = fu (mI M 197) p (iZ w) := by rw [hM', mI_row_ne (by decide), mI_row]
  have v3 : mI M' 198 = fu (mI M 198) p (iZ y) := by rw [hM', mI_row]
  clear hM' v
  have e := fun c (a : 162 ≤ c) (b : c ≤ 195) => b5 c (by omega) (by omega)
  obtain ⟨m1, m2, m3, m4, m5, m5'⟩ := hM
  refine ⟨?_, ?_, ?_, ?_, by rw [b6 45 (by decide)]; exact m5, fun i hi => ?_⟩
  · unfold MC ML NM at *
    rw [b6 24 (by decide)]
    rw [e 162 (by decide) (by decide), e 163 (by decide) (by decide), e 164 (by decide) (by decide), e 165 (by decide) (by decide), e 166 (by decide) (by decide), e 167 (by decide) (by decide), e 168 (by decide) (by decide), e 169 (by decide) (by decide), e 170 (by decide) (by decide), e 171 (by decide) (by decide), e 172 (by decide) (by decide), e 173 (by decide) (by decide), e 174 (by decide) (by decide), e 175 (by decide) (by decide), e 176 (by decide) (by decide)]
    exact m1
  · rw [b6 42 (by decide), e 179 (by decide) (by decide), e 180 (by decide) (by decide), e 181 (by decide) (by decide)]
    exact m2
  · rw [b6 43 (by decide), e 182 (by decide) (by decide), e 183 (by decide) (by decide), e 184 (by decide) (by decide), e 185 (by decide) (by decide)]
    exact m3
  · unfold MCd MF MB at *
    rw [b6 44 (by decide), e 186 (by decide) (by decide), e 187 (by decide) (by decide), e 188 (by decide) (by decide), e 189 (by decide) (by decide), e 190 (by decide) (by decide), e 191 (by decide) (by decide), e 192 (by decide) (by decide), e 193 (by decide) (by decide), e 194 (by decide) (by decide)]
    exact m4
  · have hi : i < nPt s := hi
    obtain ⟨g1, g2, g3⟩ := m5' i hi
    rw [e 195 (by decide) (by decide), v1, v2, v3]
    by_cases z : i = p
    · subst z
      rw [decP_eq]
      exact ⟨g1, if_pos rfl, fun _ => ⟨if_pos rfl, if_pos rfl⟩⟩
    · rw [decP_ne z]
      exact ⟨g1, (if_neg z).trans g2, fun h => ⟨(if_neg z).trans (g3 h).1, (if_neg z).trans (g3 h).2⟩⟩
theorem Sok_decP (hO : Sok s) (hp : p < nPt s) (D0 : 0 ≤ D) (D9 : D ≤ 999) (hw : 0 ≤ w ∧ w ≤ 3) (hy : -50 ≤ y ∧ y ≤ 50) : Sok (decP s p D w y) := by
  obtain ⟨o1, o2, o3, o4, o5, o5'⟩ := hO
  refine ⟨o1, o2, o3, o4, o5, fun i hi => ?_⟩
  have hi : i < nPt s := hi
  obtain ⟨g1, g2, g3⟩ := o5' i hi
  by_cases z : i = p
  · subst z
    rw [decP_eq]
    exact ⟨g1, ⟨by show -1 ≤ D; omega, D9⟩, fun _ => ⟨hw, hy.1, hy.2⟩⟩
  · rw [decP_ne z]; exact ⟨g1, g2, g3⟩
end

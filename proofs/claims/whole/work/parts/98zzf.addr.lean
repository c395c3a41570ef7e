/-! One run more. -/
section
variable {M M' : Mem} {s : Sn} {kb ra ca : Nat → Nat} {u i t g n : Nat} {o w : Int}
def addR (s : Sn) (t g : Nat) (o w : Int) : Sn := (s.1, s.2.1, (nRn s + 1, fu (eRn s) (nRn s) (t, g, o, w)), s.2.2.2)
theorem addR_lt (hi : i < nRn s) : eRn (addR s t g o w) i = eRn s i := if_neg (by omega)
theorem addR_eq : eRn (addR s t g o w) (nRn s) = (t, g, o, w) := if_pos rfl
theorem addR_cA {u : Nat} {kk : Int} {n : Nat} : cA (addR s t g o w) u kk n = cA s u kk n := cA_congr n (fun _ _ => rfl)
theorem addR_sU (hO : Sok s) (hu : u < nRn s) : sU s (addR s t g o w) u := ⟨addR_lt hu, rfl, rfl⟩
/-- no card of a run that is not there -/
theorem cA_new (hO : Sok s) : ∀ n, n ≤ nCd s → cA s (nRn s) 999 n = -1
  | 0, _ => rfl
  | n + 1, h => by
    have ih := cA_new hO n (by omega)
    show (if cRn s n = nRn s ∧ cDy s n ≤ 999 then (n : Int) else cA s (nRn s) 999 n) = -1
    rw [if_neg (fun z => by have := (hO.2.2.2.1.2 n (by omega)).1; omega), ih]
theorem CSn_addR (hS : 222 ≤ mN M) (hO : Sok s) (hC : CSn M s kb ra ca) (hM' : M' = rowI (rowI (rowP (newC M 7 5) 101 (fu (mP M 101) (nRn s) (some (mN M)))) 97 (fu (mI M 97) 4 (iZ ((nRn s : Int) + 1)))) (mN M) (fu (fu (fu (fu (fun _ => 0) 0 (iZ t)) 1 (iZ g)) 2 (iZ o)) 3 (iZ w))) : CSn M' (addR s t g o w) kb (fu ra (nRn s) (mN M)) ca := by
  obtain ⟨⟨b1, b2⟩, ⟨t1, t2⟩, ⟨r1, r2⟩, ⟨c1, c2⟩, p1, p2⟩ := hC
  have I : ∀ y, y < mN M → y ≠ 97 → mI M' y = mI M y := fun y h1 h2 => by rw [hM', mI_row_ne (by omega), mI_row_ne h2]; exact mI_new_ne (M := M) (k := 7) (sz := 5) (by omega)
  have I97 : ∀ j, j ≠ 4 → mI M' 97 j = mI M 97 j := fun j hj => by
    rw [hM', mI_row_ne (by omega), mI_row]; exact if_neg hj
  have I4 : mI M' 97 4 = iZ ((nRn s : Int) + 1) := by rw [hM', mI_row_ne (by omega), mI_row]; exact if_pos rfl
  have Ic : mI M' (mN M) = fu (fu (fu (fu (fun _ => 0) 0 (iZ t)) 1 (iZ g)) 2 (iZ o)) 3 (iZ w) := by rw [hM', mI_row]
  have P : ∀ y, y < mN M → y ≠ 101 → mP M' y = mP M y := fun y h1 h2 => by
    rw [hM']
    show mP (rowP (newC M 7 5) 101 _) y = _
    rw [mP_row_ne h2]; exact mP_new_ne (by omega)
  have P101 : mP M' 101 = fu (mP M 101) (nRn s) (some (mN M)) := by
    rw [hM']
    show mP (rowP (newC M 7 5) 101 _) 101 = _
    rw [mP_row]
  have Pc : mP M' (mN M) = fun _ => none := by
    rw [hM']
    show mP (rowP (newC M 7 5) 101 _) (mN M) = _
    rw [mP_row_ne (by omega)]; exact mP_newC ..
  have K : ∀ y, y < mN M → mK M' y = mK M y := fun y h => by
    rw [hM']; exact mK_new_ne (M := M) (k := 7) (sz := 5) (by omega)
  have Kc : mK M' (mN M) = (7, 5) := by rw [hM']; exact mK_newC ..
  have hN : mN M' = mN M + 1 := by rw [hM']; rfl
  have J : ∀ y, y < mN M → mJ M' y = mJ M y := fun y h => by rw [hM']; exact mJ_new_ne (M := M) (k := 7) (sz := 5) (by omega)
  clear hM'
  refine ⟨⟨by rw [I 61 (by omega) (by omega)]; exact b1, fun i hi => ?_⟩, ⟨by rw [I97 0 (by omega)]; exact t1, fun i hi => ?_⟩, ⟨I4, fun i hi => ?_⟩, ⟨by rw [I97 6 (by omega)]; exact c1, fun i hi => ?_⟩, by rw [I97 7 (by omega)]; exact p1, fun i hi => ?_⟩
  · have hi : i < nBk s := hi
    obtain ⟨e1, N, sz, e2, e3, e4⟩ := b2 i hi
    have k1 := e2.1
    have k2 := e2.2.1
    exact ⟨by rw [P 94 (by omega) (by omega)]; exact e1, N, sz, BK_fr e2 (by omega) (fun y _ _ => ⟨K y (by omega), P y (by omega) (by omega)⟩), BC_fr e3 (fun y h1 h2 => ⟨I y (by omega) (by omega), by rw [J y (by omega)]⟩), e4⟩
  · have hi : i < nTl s := hi
    rw [P 98 (by omega) (by omega), I 99 (by omega) (by omega), I 100 (by omega) (by omega)]; exact t2 i hi
  · have hi : i < nRn s + 1 := hi
    have old : ∀ i, i < nRn s → (fu ra (nRn s) (mN M)) i = ra i := fun i hi => if_neg (by omega)
    have new : (fu ra (nRn s) (mN M)) (nRn s) = mN M := if_pos rfl
    have lt : ∀ i, i < nRn s → ra i < mN M := fun i hi => (r2 i hi).2.2.1.2.1
    rw [P101, addR_cA]
    by_cases z : i = nRn s
    · subst z
      rw [new, addR_eq, Ic, Pc]
      refine ⟨if_pos rfl, hS, ⟨by omega, by omega, by rw [Kc]⟩, rfl, rfl, rfl, rfl, ?_, fun j hj e => ?_⟩
      · show none = oA ca (cA s (nRn s) 999 (nCd s))
        rw [oA_n (cA_new hO _ (Nat.le_refl _))]
      · have hj : j < nRn s + 1 := hj
        by_cases y : j = nRn s
        · exact y.symm
        · rw [old j (by omega)] at e
          have := lt j (by omega)
          omega
    · have hi2 : i < nRn s := by omega
      obtain ⟨e1, e2, e3, e4, e5, e6, e7, e8, e9⟩ := r2 i hi2
      have l := lt i hi2
      rw [old i hi2, addR_lt hi2, I (ra i) l (by omega), P (ra i) l (by omega)]
      refine ⟨(if_neg z).trans e1, e2, ⟨e3.1, by omega, by rw [K _ l]; exact e3.2.2⟩, e4, e5, e6, e7, e8, fun j hj e => ?_⟩
      have hj : j < nRn s + 1 := hj
      by_cases y : j = nRn s
      · subst y
        rw [new] at e
        omega
      · rw [old j (by omega)] at e
        exact e9 j (by omega) e
  · have hi : i < nCd s := hi
    obtain ⟨⟨e1, e2⟩, e3, e4⟩ := c2 i hi
    obtain ⟨f1, f2, f3, f4, f5, f6, f7⟩ := e1
    obtain ⟨u1, u2, u3⟩ := sU_ (addR_sU (t := t) (g := g) (o := o) (w := w) hO (hO.2.2.2.1.2 i hi).1)
    show CO M' (ca i) (uBk (addR s t g o w) (cRn s i)) (uHr (addR s t g o w) (cRn s i)) (uWd (addR s t g o w) (cRn s i)) (cRw s i) (cTm s i) (cRe s i) ∧ mI M' (ca i) 0 = iZ (cDy s i) ∧ mP M' (ca i) 7 = oA ca (cA (addR s t g o w) (cRn s i) 999 i)
    rw [u1, u2, u3, addR_cA, P (ca i) (by omega) (by omega), I (ca i) (by omega) (by omega)]
    refine ⟨⟨⟨f1, by omega, by rw [K _ (by omega)]; exact f3, by rw [K _ (by omega)]; exact f4, by rw [K _ (by omega)]; exact f5, by rw [P _ (by omega) (by omega)]; exact f6, by rw [P _ (by omega) (by omega)]; exact f7⟩, ?_⟩, e3, e4⟩
    rw [I (ca i) (by omega) (by omega), I (ca i + 1) (by omega) (by omega), I (ca i + 2) (by omega) (by omega)]; exact e2
  · rw [I 102 (by omega) (by omega), I 103 (by omega) (by omega), I 104 (by omega) (by omega), I 105 (by omega) (by omega)]; exact p2 i hi
theorem MSn_addR (hM : MSn M s) (hM' : M' = rowI (rowI (rowI (rowI (rowI M 154 (fu (fu (mI M 154) 2 (iZ 0)) 43 (iZ ((nRn s : Int) + 1)))) 182 (fu (mI M 182) (nRn s) (iZ t))) 183 (fu (mI M 183) (nRn s) (iZ g))) 184 (fu (mI M 184) (nRn s) (iZ o))) 185 (fu (mI M 185) (nRn s) (iZ w))) : MSn M' (addR s t g o w) := by
  have b5 : ∀ c, c ≠ 154 → (c < 182 ∨ 185 < c) → mI M' c = mI M c := fun c h1 h2 => by rw [hM', mI_row_ne (by omega), mI_row_ne (by omega), mI_row_ne (by omega), mI_row_ne (by omega), mI_row_ne h1]
  have v : mI M' 154 = fu (fu (mI M 154) 2 (iZ 0)) 43 (iZ ((nRn s : Int) + 1)) := by rw [hM', mI_row_ne (by decide), mI_row_ne (by decide), mI_row_ne (by decide), mI_row_ne (by decide), mI_row]
  have b6 : ∀ j, j ≠ 2 → j ≠ 43 → mI M' 154 j = mI M 154 j := fun j h1 h2 => by rw [v]; exact (if_neg h2).trans (if_neg h1)
  have v43 : mI M' 154 43 = iZ ((nRn s : Int) + 1) := by rw [v]; exact if_pos rfl
  have v1 : mI M' 182 = fu (mI M 182) (nRn s) (iZ t) := by rw [hM', mI_row_ne (by decide), mI_row_ne (by decide), mI_row_ne (by decide), mI_row]
  have v2 : mI M' 183 = fu (mI M 183) (nRn s) (iZ g) := by rw [hM', mI_row_ne (by decide), mI_row_ne (by decide), mI_row]
  have v3 : mI M' 184 = fu (mI M 184) (nRn s) (iZ o) := by rw [hM', mI_row_ne (by decide), mI_row]
  have v4 : mI M' 185 = fu (mI M 185) (nRn s) (iZ w) := by rw [hM', mI_row]
  clear hM' v
  have e := fun c (a : 162 ≤ c) (b : c ≤ 181) => b5 c (by omega) (by omega)
  have f := fun c (a : 186 ≤ c) (b : c ≤ 198) => b5 c (by omega) (by omega)
  obtain ⟨m1, m2, ⟨m3, m3'⟩, m4, m5⟩ := hM
  refine ⟨?_, ?_, ⟨v43, fun i hi => ?_⟩, ?_, ?_⟩
  · unfold MC ML NM at *
    rw [b6 24 (by decide) (by decide)]
    rw [e 162 (by decide) (by decide), e 163 (by decide) (by decide), e 164 (by decide) (by decide), e 165 (by decide) (by decide), e 166 (by decide) (by decide), e 167 (by decide) (by decide), e 168 (by decide) (by decide), e 169 (by decide) (by decide), e 170 (by decide) (by decide), e 171 (by decide) (by decide), e 172 (by decide) (by decide), e 173 (by decide) (by decide), e 174 (by decide) (by decide), e 175 (by decide) (by decide), e 176 (by decide) (by decide)]
    exact m1
  · rw [b6 42 (by decide) (by decide), e 179 (by decide) (by decide), e 180 (by decide) (by decide), e 181 (by decide) (by decide)]
    exact m2
  · have hi : i < nRn s + 1 := hi
    rw [v1, v2, v3, v4]
    by_cases z : i = nRn s
    · subst z
      rw [addR_eq]
      exact ⟨if_pos rfl, if_pos rfl, if_pos rfl, if_pos rfl⟩
    · obtain ⟨g1, g2, g3, g4⟩ := m3' i (by omega)
      rw [addR_lt (by omega)]
      exact ⟨(if_neg z).trans g1, (if_neg z).trans g2, (if_neg z).trans g3, (if_neg z).trans g4⟩
  · unfold MCd MF MB at *
    rw [b6 44 (by decide) (by decide), f 186 (by decide) (by decide), f 187 (by decide) (by decide), f 188 (by decide) (by decide), f 189 (by decide) (by decide), f 190 (by decide) (by decide), f 191 (by decide) (by decide), f 192 (by decide) (by decide), f 193 (by decide) (by decide), f 194 (by decide) (by decide)]
    exact m4
  · rw [b6 45 (by decide) (by decide), f 195 (by decide) (by decide), f 196 (by decide) (by decide), f 197 (by decide) (by decide), f 198 (by decide) (by decide)]
    exact m5
theorem Sok_addR (hO : Sok s) (hn : nRn s < 120) (ht : t < nTl s) (hg : g < 24) (ho : 0 ≤ o ∧ o < 24) (hw : 0 ≤ w ∧ w < 10) : Sok (addR s t g o w) := by
  have hO' := hO
  obtain ⟨o1, o2, ⟨o3, o3'⟩, ⟨o4, o4'⟩, o5, o5'⟩ := hO
  refine ⟨o1, o2, ⟨show nRn s + 1 ≤ 120 by omega, fun i hi => ?_⟩, ⟨o4, fun i hi => ?_⟩, o5, fun i hi => ?_⟩
  · have hi : i < nRn s + 1 := hi
    by_cases z : i = nRn s
    · subst z
      rw [addR_eq]
      exact ⟨ht, hg, ho.1, ho.2, hw.1, hw.2⟩
    · rw [addR_lt (by omega)]; exact o3' i (by omega)
  · have hi : i < nCd s := hi
    obtain ⟨a1, a2, a3, a4⟩ := o4' i hi
    obtain ⟨u1, _, _⟩ := sU_ (addR_sU (t := t) (g := g) (o := o) (w := w) hO' a1)
    refine ⟨Nat.lt_succ_of_lt a1, a2, ?_, a4⟩
    show rwK (uBk (addR s t g o w) (cRn s i)) (cRw s i)
    rw [u1]; exact a3
  · obtain ⟨a1, a2⟩ := o5' i hi
    exact ⟨Nat.lt_succ_of_lt a1, a2⟩
end

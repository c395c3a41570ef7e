/-! SCALE: the one answer (mathematics alone). -/
section
variable {g : Nat → Nat} {j n i l x a b k m : Nat} {T : Nat → Nat → Int} {W : Nat → Nat → Int} {r : Nat → Int}
theorem rg_cut (h : i < m) : List.range m = List.range i ++ i :: List.range' (i + 1) (m - 1 - i) := by
  have e : m = i + (m - 1 - i + 1) := by omega
  conv => lhs; rw [e]
  rw [List.range_eq_range', ← List.range'_append_1, List.range_eq_range', Nat.zero_add, List.range'_succ]
/-- the answer for the i-th of m, but for the determinant, when the last is 0 -/
def Zc (m : Nat) (W : Nat → Nat → Int) (r : Nat → Int) (i : Nat) : Int := if i < m then zi m i W r (List.range i) (List.range' (i + 1) (m - 1 - i)) else 0
theorem Zc_l : Zc m W r m = 0 := if_neg (by omega)
theorem Zc_s (h : i < m) : Zc m W r i = zi m i W r (List.range i) (List.range' (i + 1) (m - 1 - i)) := if_pos h
abbrev scN (g : Nat → Nat) (j : Nat) : Nat := (mLg g j 6).length
abbrev scB (g : Nat → Nat) (j : Nat) : Nat := (mLg g j j).length
noncomputable def scV (T : Nat → Nat → Int) (g : Nat → Nat) (j : Nat) : Int := (scN g j : Int) * Zc (scN g j - 1) (WG T g j) (rG T g j) (scB g j) - sl (List.range (scN g j)) (Zc (scN g j - 1) (WG T g j) (rG T g j))
noncomputable def scD (T : Nat → Nat → Int) (g : Nat → Nat) (j : Nat) : Int := dR (scN g j - 1) (WG T g j)
noncomputable def scA (T : Nat → Nat → Int) (g : Nat → Nat) (j : Nat) : Int := (1000 * scV T g j) / ((scN g j : Int) * scD T g j)
theorem scN_ (hj : j < 6) : 1 ≤ scN g j ∧ scN g j ≤ 6 ∧ scB g j < scN g j ∧ msG g j (scB g j) = j := by
  have h := mLg_at (g := g) hj
  have h1 := mLg_le (g := g) (j := j) 6
  have h2 : (mLg g j j).length < (mLg g j 6).length := by
    by_cases w : (mLg g j j).length < (mLg g j 6).length
    · exact w
    · rw [List.getElem?_eq_none (by omega)] at h; cases h
  refine ⟨by show 1 ≤ (mLg g j 6).length; omega, h1, h2, ?_⟩
  show (mLg g j 6).getD _ 0 = j
  rw [List.getD_eq_getElem?_getD, h]; rfl
theorem sc_main (hE : Gi (eS T 24) g) (tb : ∀ w x, -1 ≤ T w x ∧ T w x ≤ 2792) (hj : j < 6) : yb (scN g j) (scB g j) (WG T g j) (rG T g j) = (scN g j : Int) * scV T g j ∧ wD (scN g j) (WG T g j) = (scN g j : Int) * ((scN g j : Int) * scD T g j) ∧ (-1050000000000000 ≤ scV T g j ∧ scV T g j ≤ 1050000000000000) ∧ 0 < scD T g j ∧ scD T g j ≤ 24883200000 := by
  obtain ⟨n1, n6, hb, _⟩ := scN_ (g := g) hj
  have hW := Wf_G (T := T) (g := g) (j := j)
  have hC := Cf_G (j := j) hE
  have hr : ∀ i, i < scN g j → rG T g j i = sl (List.range (scN g j)) (RG T g j i) := fun i hi => rG_sum hE hi
  have hR : ∀ i l, i < scN g j → l < scN g j → RG T g j i l = - RG T g j l i ∧ RG T g j i l ≤ 2792 * WG T g j i l := fun i l _ _ => RG_b tb
  unfold scV scD
  have hW : Wf (scN g j) (WG T g j) := hW
  have hC : Cf (scN g j) (WG T g j) := hC
  generalize scB g j = b at *
  generalize scN g j = n at *
  generalize WG T g j = W at *
  generalize RG T g j = R at *
  generalize rG T g j = r at *
  obtain ⟨m, rfl⟩ : ∃ m, n = m + 1 := ⟨n - 1, by omega⟩
  rw [Nat.add_sub_cancel]
  obtain ⟨v, h1, h2, h3, h4⟩ := fin_ (Z := Zc m W r) hW hC (by omega) hr hR hb Zc_l (fun i hi => ⟨_, _, rg_cut hi, List.length_range, Zc_s hi⟩)
  rw [h1]
  exact ⟨h2, h3, h4, dR_le hW hC (by omega)⟩
theorem unF_0 : unF 0 0 n = List.range n := by
  unfold unF
  rw [List.filter_eq_self.mpr (fun x _ => by unfold frb; rw [Nat.zero_div]; rfl), List.range_eq_range']
theorem rwl_map {e : Nat → Nat → Int} : ∀ k, k ≤ n → rwl n e k = (List.range' (n - k) k).map e
  | 0, _ => rfl
  | k + 1, h => by
    have ih := rwl_map (e := e) k (by omega)
    show e (n - (k + 1)) :: rwl n e k = _
    rw [List.range'_succ, List.map_cons, ih, show n - (k + 1) + 1 = n - k from by omega]
theorem rwl_n {e : Nat → Nat → Int} : rwl n e n = (List.range n).map e := by
  rw [rwl_map n (Nat.le_refl _), Nat.sub_self, List.range_eq_range']
theorem coG_L (hE : Gi (eS T 24) g) (hi : i < scN g j) : coG (wS T 24) (msG g j) i l = 1 + Lf (scN g j) (WG T g j) i l := by
  show (if i = l then 1 + sN (wS T 24 (msG g j i)) 6 else 1 - wS T 24 (msG g j i) (msG g j l)) = 1 + (if i = l then 0 + sl (List.range (scN g j)) (WG T g j i) else - WG T g j i l)
  by_cases z : i = l
  · rw [if_pos z, if_pos z, WG_met hE hi]; omega
  · rw [if_neg z, if_neg z]; unfold WG; omega
/-- what the class works out -/
theorem Dt_class (hE : Gi (eS T 24) g) : Dt (unF 0 0 (scN g j)) (rwl (scN g j) (enG (wS T 24) (rS T 24) (msG g j) (-1)) (scN g j)) = wD (scN g j) (WG T g j) := by
  rw [unF_0, rwl_n]
  refine Dt_congr2 _ _ (fun i hi l hl => ?_)
  show (if (l : Int) = -1 then _ else coG (wS T 24) (msG g j) i l) = _
  rw [if_neg (by omega), coG_L hE (List.mem_range.mp hi)]
theorem Dt_class2 (hE : Gi (eS T 24) g) (b : Nat) : Dt (unF 0 0 (scN g j)) (rwl (scN g j) (enG (wS T 24) (rS T 24) (msG g j) b) (scN g j)) = yb (scN g j) b (WG T g j) (rG T g j) := by
  rw [unF_0, rwl_n]
  refine Dt_congr2 _ _ (fun i hi l hl => ?_)
  show (if (l : Int) = (b : Int) then rS T 24 (msG g j i) else coG (wS T 24) (msG g j) i l) = if l = b then rG T g j i else 1 + Lf (scN g j) (WG T g j) i l
  by_cases z : l = b
  · rw [if_pos (by omega), if_pos z]; rfl
  · rw [if_neg (by omega), if_neg z, coG_L hE (List.mem_range.mp hi)]
theorem sc_div (hE : Gi (eS T 24) g) (tb : ∀ w x, -1 ≤ T w x ∧ T w x ≤ 2792) (hj : j < 6) : (1000 * yb (scN g j) (scB g j) (WG T g j) (rG T g j)) / wD (scN g j) (WG T g j) = scA T g j ∧ (-9223372036854775808 ≤ 1000 * yb (scN g j) (scB g j) (WG T g j) (rG T g j) ∧ 1000 * yb (scN g j) (scB g j) (WG T g j) (rG T g j) < 9223372036854775808) ∧ 0 < wD (scN g j) (WG T g j) ∧ wD (scN g j) (WG T g j) < 9223372036854775808 ∧ (-9223372036854775808 ≤ 1000 * scV T g j ∧ 1000 * scV T g j < 9223372036854775808) ∧ 0 < (scN g j : Int) * scD T g j ∧ (scN g j : Int) * scD T g j < 9223372036854775808 := by
  obtain ⟨h1, h2, ⟨h3, h4⟩, h5, h6⟩ := sc_main hE tb hj
  obtain ⟨n1, n6, hb, _⟩ := scN_ (g := g) hj
  unfold scA
  rw [h1, h2]
  generalize scV T g j = v at *
  generalize scD T g j = D at *
  generalize scN g j = n at *
  have e : n = 1 ∨ n = 2 ∨ n = 3 ∨ n = 4 ∨ n = 5 ∨ n = 6 := by omega
  have n0 : (0 : Int) < n := by omega
  refine ⟨?_, ?_⟩
  · rw [show 1000 * ((n : Int) * v) = (n : Int) * (1000 * v) from by grind]
    exact Int.mul_ediv_mul_of_pos _ _ n0
  · rcases e with rfl | rfl | rfl | rfl | rfl | rfl <;> omega
end

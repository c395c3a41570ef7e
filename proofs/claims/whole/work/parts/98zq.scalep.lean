/-! SCALE: the members of a group, and the one answer (mathematics alone). -/
section
theorem sl_range {f : Nat → Int} : ∀ n, sl (List.range n) f = sN f n
  | 0 => rfl
  | n + 1 => by rw [sl_rs, sl_range n]; rfl
theorem sl_filter {p : Nat → Bool} {f : Nat → Int} : ∀ l : List Nat, sl (l.filter p) f = sl l (fun x => if p x then f x else 0)
  | [] => rfl
  | a :: l => by
    have ih := sl_filter (p := p) (f := f) l
    show sl (List.filter p (a :: l)) f = (if p a then f a else 0) + sl l (fun x => if p x then f x else 0)
    rw [List.filter_cons, ← ih]
    by_cases h : p a = true
    · rw [if_pos h, if_pos h]; rfl
    · rw [if_neg h, if_neg h]; omega
theorem getD_s {l : List Nat} {i : Nat} (h : i < l.length) : l[i]? = some (l.getD i 0) := by
  rw [List.getD_eq_getElem?_getD, List.getElem?_eq_getElem h]; rfl
theorem map_getD : ∀ l : List Nat, (List.range l.length).map (fun i => l.getD i 0) = l
  | [] => rfl
  | a :: l => by
    have ih := map_getD l
    show (List.range (l.length + 1)).map _ = _
    rw [List.range_succ_eq_map, List.map_cons, List.map_map]
    exact congrArg (a :: ·) ih
theorem sl_getD {f : Nat → Int} (l : List Nat) : sl (List.range l.length) (fun i => f (l.getD i 0)) = sl l f := by
  conv => rhs; rw [← map_getD l]
  rw [sl_map]
/-- those that stand with j -/
def mLg (g : Nat → Nat) (j n : Nat) : List Nat := (List.range n).filter (fun x => decide (g x = g j))
variable {g : Nat → Nat} {j n i l x a b k : Nat} {T : Nat → Nat → Int}
theorem mLg_s : mLg g j (n + 1) = if g n = g j then mLg g j n ++ [n] else mLg g j n := by
  unfold mLg
  rw [List.range_succ, List.filter_append]
  by_cases h : g n = g j
  · rw [if_pos h, List.filter_cons, if_pos (by exact decide_eq_true h)]; rfl
  · rw [if_neg h, List.filter_cons, if_neg (by rw [decide_eq_false h]; decide)]; exact List.append_nil _
theorem mLg_m : x ∈ mLg g j n ↔ x < n ∧ g x = g j := by
  unfold mLg
  rw [List.mem_filter, List.mem_range, decide_eq_true_iff]
theorem mLg_le : ∀ n, (mLg g j n).length ≤ n
  | 0 => Nat.le_refl _
  | n + 1 => by
    have := mLg_le n
    rw [mLg_s]
    split
    · rw [List.length_append]; show _ + 1 ≤ _; omega
    · omega
theorem mLg_nd : (mLg g j n).Nodup := List.Nodup.sublist List.filter_sublist List.nodup_range
theorem mLg_at (h : j < n) : (mLg g j n)[(mLg g j j).length]? = some j := by
  induction n with
  | zero => omega
  | succ n ih =>
    rw [mLg_s]
    by_cases z : j = n
    · subst z
      rw [if_pos rfl, List.getElem?_append_right (Nat.le_refl _), Nat.sub_self]; rfl
    · have := ih (by omega)
      split
      · rw [List.getElem?_append_left ?_]
        · exact this
        · by_cases w : (mLg g j j).length < (mLg g j n).length
          · exact w
          · rw [List.getElem?_eq_none (by omega)] at this; cases this
      · exact this
/-- the number of the member -/
abbrev msG (g : Nat → Nat) (j i : Nat) : Nat := (mLg g j 6).getD i 0
theorem ms_m (h : i < (mLg g j 6).length) : msG g j i < 6 ∧ g (msG g j i) = g j := mLg_m.mp (List.mem_of_getElem? (getD_s h))
theorem ms_inj (h : i < (mLg g j 6).length) (h' : l < (mLg g j 6).length) (e : msG g j i = msG g j l) : i = l := by
  have h1 := getD_s h
  have h2 := getD_s h'
  have e : (mLg g j 6).getD i 0 = (mLg g j 6).getD l 0 := e
  rw [e, ← h2] at h1
  exact (List.getElem?_inj h mLg_nd).mp h1
theorem ms_ex (h : x < 6) (hx : g x = g j) : ∃ i, i < (mLg g j 6).length ∧ msG g j i = x := by
  obtain ⟨i, hi, e⟩ := List.getElem_of_mem (mLg_m.mpr ⟨h, hx⟩ : x ∈ mLg g j 6)
  exact ⟨i, hi, by show (mLg g j 6).getD i 0 = x; rw [List.getD_eq_getElem?_getD, List.getElem?_eq_getElem hi]; exact e⟩
noncomputable def WG (T : Nat → Nat → Int) (g : Nat → Nat) (j i l : Nat) : Int := wS T 24 (msG g j i) (msG g j l)
noncomputable def RG (T : Nat → Nat → Int) (g : Nat → Nat) (j i l : Nat) : Int := sN (fun w => dT (T w) (msG g j i) (msG g j l)) 24
noncomputable def rG (T : Nat → Nat → Int) (g : Nat → Nat) (j i : Nat) : Int := rS T 24 (msG g j i)
theorem eT_sym {t : Nat → Int} : eT t a b ↔ eT t b a := ⟨fun ⟨h1, h2, h3⟩ => ⟨fun z => h1 z.symm, h3, h2⟩, fun ⟨h1, h2, h3⟩ => ⟨fun z => h1 z.symm, h3, h2⟩⟩
theorem wS_b (n : Nat) : 0 ≤ wS T n a b ∧ wS T n a b ≤ n := by
  have := sN_b (f := fun w => ind (eT (T w) a b)) (a := 0) (b := 1) n (fun i _ => ind_b)
  unfold wS
  omega
theorem wS_pos : ∀ n, (∃ w, w < n ∧ eT (T w) a b) → 0 < wS T n a b
  | 0, ⟨w, hw, _⟩ => absurd hw (by omega)
  | n + 1, ⟨w, hw, h⟩ => by
    show 0 < wS T n a b + ind (eT (T n) a b)
    have b1 := ind_b (p := eT (T n) a b)
    have b2 := wS_b (T := T) (a := a) (b := b) n
    by_cases z : w = n
    · subst z; rw [ind_t h]; omega
    · have := wS_pos n ⟨w, by omega, h⟩; omega
theorem wS_0 : ∀ n, (∀ w, w < n → ¬ eT (T w) a b) → wS T n a b = 0
  | 0, _ => rfl
  | n + 1, h => by
    show wS T n a b + ind (eT (T n) a b) = 0
    rw [wS_0 n (fun w hw => h w (by omega)), ind_f (h n (by omega))]; rfl
theorem sN_add {f h : Nat → Int} : ∀ n, sN (fun i => f i + h i) n = sN f n + sN h n
  | 0 => rfl
  | n + 1 => by
    show sN (fun i => f i + h i) n + (f n + h n) = sN f n + f n + (sN h n + h n)
    rw [sN_add n]; omega
theorem sN_0 {f : Nat → Int} : ∀ n, (∀ i, i < n → f i = 0) → sN f n = 0
  | 0, _ => rfl
  | n + 1, h => by show sN f n + f n = 0; rw [sN_0 n (fun i hi => h i (by omega)), h n (by omega)]; rfl
theorem sN_comm {f : Nat → Nat → Int} (m : Nat) : ∀ n, sN (fun i => sN (f i) m) n = sN (fun l => sN (fun i => f i l) n) m
  | 0 => (sN_0 m (fun _ _ => rfl)).symm
  | n + 1 => by
    show sN (fun i => sN (f i) m) n + sN (f n) m = sN (fun l => sN (fun i => f i l) n + f n l) m
    rw [sN_comm m n, sN_add]
theorem dT_neg {t : Nat → Int} : dT t a b = - dT t b a := by
  unfold dT
  rw [ind_iff eT_sym]
  generalize ind (eT t b a) = z
  have : z * (t a - t b) = z * (-(t b - t a)) := by congr 1; omega
  rw [this, Int.mul_neg]
theorem sN_neg {f : Nat → Int} : ∀ n, sN (fun i => - f i) n = - sN f n
  | 0 => rfl
  | n + 1 => by show sN (fun i => - f i) n + - f n = - (sN f n + f n); rw [sN_neg n]; omega
theorem dT_le {t : Nat → Int} (tb : ∀ x, -1 ≤ t x ∧ t x ≤ 2792) : dT t a b ≤ 2792 * ind (eT t a b) := by
  unfold dT
  by_cases h : eT t a b
  · rw [ind_t h]
    have := tb a
    have := tb b
    have := h.2.2
    omega
  · rw [ind_f h]; omega
theorem dS_le (tb : ∀ w x, -1 ≤ T w x ∧ T w x ≤ 2792) : ∀ n, sN (fun w => dT (T w) a b) n ≤ 2792 * wS T n a b
  | 0 => by show (0 : Int) ≤ 2792 * 0; decide
  | n + 1 => by
    have ih := dS_le tb n
    have := dT_le (t := T n) (a := a) (b := b) (tb n)
    show sN (fun w => dT (T w) a b) n + dT (T n) a b ≤ 2792 * (wS T n a b + ind (eT (T n) a b))
    omega
theorem Wf_G : Wf (mLg g j 6).length (WG T g j) := by
  refine ⟨fun i l hi hl => ⟨?_, wS_b 24⟩, fun i hi => wS_0 24 (fun w _ h => h.1 rfl)⟩
  unfold WG wS
  exact sN_congr 24 (fun w _ => ind_iff eT_sym)
theorem Cf_G (hE : Gi (eS T 24) g) : Cf (mLg g j 6).length (WG T g j) := by
  intro S ⟨i0, hi0, s0⟩ ⟨l0, hl0, s1⟩
  apply Classical.byContradiction
  intro hno
  have hS : ∀ i l, i < (mLg g j 6).length → l < (mLg g j 6).length → 0 < WG T g j i l → S i = true → S l = true := fun i l hi hl hw hs => by
    cases h : S l with
    | true => rfl
    | false => exact absurd ⟨i, l, hi, hl, hs, h, hw⟩ hno
  obtain ⟨P, hP⟩ : ∃ P : Nat → Prop, P = fun x => ∃ i, i < (mLg g j 6).length ∧ msG g j i = x ∧ S i = true := ⟨_, rfl⟩
  have hPi : ∀ i, i < (mLg g j 6).length → (P (msG g j i) ↔ S i = true) := fun i hi => by
    rw [hP]
    constructor
    · rintro ⟨i', h1, h2, h3⟩
      rw [← ms_inj h1 hi h2]; exact h3
    · intro h; exact ⟨i, hi, rfl, h⟩
  have key := hE.2.2 (fun x => if g x = g j then (@ite Nat (P x) (Classical.propDecidable _) 1 2) else 0) (fun a b hab => by
    have gab := hE.1 a b hab
    obtain ⟨w, hw, ⟨ha6, hb6⟩, he⟩ := hab
    show (if g a = g j then (@ite Nat (P a) (Classical.propDecidable _) 1 2) else 0) = (if g b = g j then (@ite Nat (P b) (Classical.propDecidable _) 1 2) else 0)
    rw [gab]
    by_cases z : g b = g j
    · rw [if_pos z, if_pos z]
      obtain ⟨i, hi, rfl⟩ := ms_ex ha6 (gab.trans z)
      obtain ⟨l, hl, rfl⟩ := ms_ex hb6 z
      have e1 : S i = true ↔ S l = true := ⟨hS i l hi hl (wS_pos 24 ⟨w, hw, he⟩), hS l i hl hi (wS_pos 24 ⟨w, hw, eT_sym.mp he⟩)⟩
      have e2 : P (msG g j i) ↔ P (msG g j l) := (hPi i hi).trans (e1.trans (hPi l hl).symm)
      rw [propext e2]
    · rw [if_neg z, if_neg z])
  have k1 := key (msG g j i0)
  have k2 := key (msG g j l0)
  obtain ⟨_, m1⟩ := ms_m hi0
  obtain ⟨_, m2⟩ := ms_m hl0
  have gg := (hE.2.1 j).2
  rw [m1] at k1
  rw [m2] at k2
  simp only [m1, m2, gg, if_true] at k1 k2
  have p1 := (hPi i0 hi0).mpr s0
  have p2 : ¬ P (msG g j l0) := fun z => by rw [(hPi l0 hl0).mp z] at s1; cases s1
  rw [if_pos p1] at k1
  rw [if_neg p2] at k2
  exact absurd (k1.symm.trans k2) (by decide)
theorem out_0 (hE : Gi (eS T 24) g) (hi : i < (mLg g j 6).length) (hx : x < 6) (hn : g x ≠ g j) (w : Nat) (hw : w < 24) : ¬ eT (T w) (msG g j i) x := fun h => by
  obtain ⟨m1, m2⟩ := ms_m hi
  have := hE.1 _ _ ⟨w, hw, ⟨m1, hx⟩, h⟩
  exact hn (this.symm.trans m2)
theorem in_all {f : Nat → Int} (h : ∀ x, x < 6 → g x ≠ g j → f x = 0) : sl (List.range (mLg g j 6).length) (fun i => f (msG g j i)) = sN f 6 := by
  rw [sl_getD, ← sl_range 6]
  unfold mLg
  rw [sl_filter]
  refine sl_congr (fun x hx => ?_)
  by_cases z : g x = g j
  · rw [if_pos (by exact decide_eq_true z)]
  · rw [if_neg (by rw [decide_eq_false z]; decide), h x (List.mem_range.mp hx) z]
theorem WG_met (hE : Gi (eS T 24) g) (hi : i < (mLg g j 6).length) : sl (List.range (mLg g j 6).length) (WG T g j i) = sN (wS T 24 (msG g j i)) 6 :=
  in_all (f := wS T 24 (msG g j i)) (fun x hx hn => wS_0 24 (fun w hw => out_0 hE hi hx hn w hw))
theorem rG_sum (hE : Gi (eS T 24) g) (hi : i < (mLg g j 6).length) : rG T g j i = sl (List.range (mLg g j 6).length) (RG T g j i) := by
  rw [show RG T g j i = fun l => (fun x => sN (fun w => dT (T w) (msG g j i) x) 24) (msG g j l) from rfl]
  rw [in_all (f := fun x => sN (fun w => dT (T w) (msG g j i) x) 24) (fun x hx hn => sN_0 24 (fun w hw => by unfold dT; rw [ind_f (out_0 hE hi hx hn w hw)]; omega))]
  show sN (fun w => sN (dT (T w) (msG g j i)) 6) 24 = _
  exact sN_comm 6 24
theorem RG_b (tb : ∀ w x, -1 ≤ T w x ∧ T w x ≤ 2792) : RG T g j i l = - RG T g j l i ∧ RG T g j i l ≤ 2792 * WG T g j i l := by
  refine ⟨?_, dS_le tb 24⟩
  unfold RG
  rw [← sN_neg]
  exact sN_congr 24 (fun w _ => dT_neg)
end

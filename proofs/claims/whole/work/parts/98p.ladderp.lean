/-! LADDERS (mathematics alone). -/
section
variable {x y : Int} {l l1 l2 : List Int} {K i : Nat}
/-- put in its place, behind those that are as great -/
def ins (x : Int) : List Int → List Int
  | [] => [x]
  | y :: l => if y < x then x :: y :: l else y :: ins x l
/-- the greatest first -/
def dsc : List Int → Prop
  | [] => True
  | y :: l => (∀ z, z ∈ l → z ≤ y) ∧ dsc l
def lsum : List Int → Int
  | [] => 0
  | y :: l => y + lsum l
theorem ins_mem {z : Int} : ∀ l, z ∈ ins x l → z = x ∨ z ∈ l
  | [], h => Or.inl (List.mem_singleton.mp h)
  | y :: l, h => by
    unfold ins at h
    split at h
    · rcases List.mem_cons.mp h with e | e
      · exact Or.inl e
      · exact Or.inr e
    · rcases List.mem_cons.mp h with e | e
      · exact Or.inr (e ▸ List.mem_cons_self)
      · rcases ins_mem l e with e | e
        · exact Or.inl e
        · exact Or.inr (List.mem_cons_of_mem _ e)
theorem ins_dsc : ∀ l, dsc l → dsc (ins x l)
  | [], _ => ⟨fun z h => (by cases h), trivial⟩
  | y :: l, h => by
    unfold ins
    split
    · next hy =>
      refine ⟨fun z hz => ?_, h⟩
      rcases List.mem_cons.mp hz with e | e
      · omega
      · have := h.1 z e; omega
    · next hy =>
      refine ⟨fun z hz => ?_, ins_dsc l h.2⟩
      rcases ins_mem l hz with e | e
      · omega
      · exact h.1 z e
theorem ins_len : ∀ l, (ins x l).length = l.length + 1
  | [] => rfl
  | y :: l => by
    unfold ins
    split
    · rfl
    · show (ins x l).length + 1 = l.length + 1 + 1; rw [ins_len l]
theorem ins_split : ∀ (l1 l2 : List Int), (∀ y, y ∈ l1 → x ≤ y) → (∀ y, y ∈ l2 → y < x) → ins x (l1 ++ l2) = l1 ++ x :: l2
  | [], [], _, _ => rfl
  | [], y :: l2, _, h => if_pos (h y List.mem_cons_self)
  | y :: l1, l2, h1, h2 => by
    have := h1 y List.mem_cons_self
    show (if y < x then _ else y :: ins x (l1 ++ l2)) = _
    rw [if_neg (by omega), ins_split l1 l2 (fun z hz => h1 z (List.mem_cons_of_mem _ hz)) h2]
    rfl
theorem ins_keep : ∀ (l : List Int) (K : Nat), K ≤ l.length → (∀ y, y ∈ l.take K → x ≤ y) → (ins x l).take K = l.take K
  | _, 0, _, _ => by rw [List.take_zero, List.take_zero]
  | [], K + 1, h, _ => by simp at h
  | y :: l, K + 1, h, h2 => by
    have := h2 y List.mem_cons_self
    show List.take (K + 1) (if y < x then _ else _) = _
    rw [if_neg (by omega), List.take_succ_cons, List.take_succ_cons, ins_keep l K (by simp at h; exact h) (fun z hz => h2 z (List.mem_cons_of_mem _ hz))]
theorem ins_drop : ∀ (l : List Int) (K : Nat), (∀ y, l[K]? = some y → y < x) → K < l.length → dsc l → (ins x l).take (K + 1) = ins x (l.take K)
  | [], K, _, h, _ => by simp at h
  | y :: l, 0, h, _, _ => by
    have := h y rfl
    show List.take 1 (if y < x then _ else _) = [x]
    rw [if_pos this]; rfl
  | y :: l, K + 1, h, hl, hd => by
    have hl : K < l.length := by simp at hl; exact hl
    have ih := ins_drop l K (fun z hz => h z hz) hl hd.2
    show List.take (K + 2) (if y < x then _ else _) = (if y < x then _ else _)
    by_cases z : y < x
    · rw [if_pos z, if_pos z]; rfl
    · rw [if_neg z, if_neg z, List.take_succ_cons, ih]
theorem dsc_at : ∀ (l : List Int) (i j : Nat) (a b : Int), dsc l → i ≤ j → l[i]? = some a → l[j]? = some b → b ≤ a
  | [], i, j, a, b, _, _, h, _ => by simp at h
  | y :: l, 0, 0, a, b, _, _, h1, h2 => by cases h1; cases h2; exact Int.le_refl _
  | y :: l, 0, j + 1, a, b, hd, _, h1, h2 => by
    cases h1
    exact hd.1 b (List.mem_of_getElem? h2)
  | y :: l, i + 1, 0, a, b, _, h, _, _ => by omega
  | y :: l, i + 1, j + 1, a, b, hd, h, h1, h2 => dsc_at l i j a b hd.2 (by omega) h1 h2
/-- while it is put in its place: behind number i all are shifted -/
def SH (f : Nat → Int32) (T : List Int) (i : Nat) (x : Int) : Prop := i ≤ T.length ∧ (∀ j y, j < i → T[j]? = some y → f j = iZ y) ∧ ∀ j y, i ≤ j → T[j]? = some y → f (j + 1) = iZ y ∧ y < x
/-- the row stands in these cells -/
def LSt (f : Nat → Int32) (T : List Int) : Prop := ∀ j y, T[j]? = some y → f j = iZ y
theorem SH_0 {f : Nat → Int32} {T : List Int} (h : LSt f T) : SH f T T.length x :=
  ⟨Nat.le_refl _, fun j y _ hy => h j y hy, fun j y hj hy => by rw [List.getElem?_eq_none hj] at hy; cases hy⟩
theorem SH_s {f : Nat → Int32} {T : List Int} (h : SH f T (i + 1) x) (hy : T[i]? = some y) (hlt : y < x) : SH (fu f (i + 1) (f i)) T i x := by
  obtain ⟨h1, h2, h3⟩ := h
  refine ⟨by omega, fun j z hj hz => ?_, fun j z hj hz => ?_⟩
  · show (if j = i + 1 then _ else f j) = _
    rw [if_neg (by omega)]; exact h2 j z (by omega) hz
  · show (if j + 1 = i + 1 then f i else f (j + 1)) = _ ∧ _
    by_cases e : j = i
    · subst e
      rw [hy] at hz
      cases hz
      rw [if_pos rfl]
      exact ⟨h2 j y (by omega) hy, hlt⟩
    · rw [if_neg (by omega)]; exact h3 j z (by omega) hz
theorem SH_e {f : Nat → Int32} {T : List Int} (h : SH f T i x) (hd : dsc T) (he : ∀ y, 0 < i → T[i - 1]? = some y → x ≤ y) : LSt (fu f i (iZ x)) (ins x T) := by
  obtain ⟨h1, h2, h3⟩ := h
  have e : ins x T = T.take i ++ x :: T.drop i := by
    conv => lhs; rw [← List.take_append_drop i T]
    refine ins_split _ _ (fun y hy => ?_) (fun y hy => ?_)
    · obtain ⟨j, hj, hy⟩ := List.mem_iff_getElem.mp hy
      have hji : j < i := by rw [List.length_take] at hj; omega
      have hy2 : T[j]? = some y := by
        rw [← hy, List.getElem_take, List.getElem?_eq_getElem]
      obtain ⟨z, hz⟩ := ls_get (l := T) (i := i - 1) (by omega)
      have a1 := he z (by omega) hz
      have a2 := dsc_at T j (i - 1) y z hd (by omega) hy2 hz
      omega
    · obtain ⟨j, hj, hy⟩ := List.mem_iff_getElem.mp hy
      have hy2 : T[i + j]? = some y := by
        rw [← hy, List.getElem_drop, List.getElem?_eq_getElem]
      exact (h3 (i + j) y (by omega) hy2).2
  rw [e]
  intro j y hy
  show (if j = i then iZ x else f j) = iZ y
  have lt : (T.take i).length = i := by rw [List.length_take]; omega
  by_cases e1 : j < i
  · rw [if_neg (by omega)]
    rw [List.getElem?_append_left (by omega), List.getElem?_take_of_lt e1] at hy
    exact h2 j y e1 hy
  · rw [List.getElem?_append_right (by omega), lt] at hy
    by_cases e2 : j = i
    · subst e2
      rw [Nat.sub_self] at hy
      rw [if_pos rfl]
      cases hy; rfl
    · rw [if_neg e2]
      obtain ⟨m, rfl⟩ : ∃ m, j = i + (m + 1) := ⟨j - i - 1, by omega⟩
      rw [Nat.add_sub_cancel_left] at hy
      have hy : (T.drop i)[m]? = some y := hy
      rw [List.getElem?_drop] at hy
      exact (h3 (i + m) y (by omega) hy).1
section
variable (s : Sn) (dg : Nat) (a b k : Int)
def selL (i : Nat) : Prop := uDg s i = dg ∧ (a ≤ uDy s i ∧ uDy s i ≤ b) ∧ isC s i k
/-- the TOTALS of a dog, of the first n runs, the greatest first -/
noncomputable def srt : Nat → List Int
  | 0 => []
  | n + 1 => @ite _ (selL s dg a b k n) (Classical.propDecidable _) (ins (tot s n k) (srt n)) (srt n)
noncomputable abbrev srtA : List Int := srt s dg a b k (nRn s)
noncomputable def sumL (K : Nat) : Int := if srtA s dg a b k = [] then -1 else lsum ((srtA s dg a b k).take K)
noncomputable def grL : Int := ((srtA s dg a b k).head?).getD (-1)
end
theorem srt_t {s : Sn} {dg n : Nat} {a b k : Int} (h : selL s dg a b k n) : srt s dg a b k (n + 1) = ins (tot s n k) (srt s dg a b k n) := if_pos h
theorem srt_f {s : Sn} {dg n : Nat} {a b k : Int} (h : ¬ selL s dg a b k n) : srt s dg a b k (n + 1) = srt s dg a b k n := if_neg h
theorem srt_ok {s : Sn} {dg : Nat} {a b k : Int} (hO : Sok s) : ∀ n, dsc (srt s dg a b k n) ∧ (srt s dg a b k n).length ≤ n ∧ ∀ y, y ∈ srt s dg a b k n → 0 ≤ y ∧ y ≤ 2792
  | 0 => ⟨trivial, Nat.le_refl _, fun y h => by cases h⟩
  | n + 1 => by
    obtain ⟨i1, i2, i3⟩ := srt_ok hO n
    by_cases h : selL s dg a b k n
    · rw [srt_t h]
      refine ⟨ins_dsc _ i1, by rw [ins_len]; omega, fun y hy => ?_⟩
      rcases ins_mem _ hy with e | e
      · rw [e]; exact tot_b hO h.2.2.1
      · exact i3 y e
    · rw [srt_f h]
      exact ⟨i1, by omega, i3⟩
theorem lsum_b : ∀ (l : List Int), (∀ y, y ∈ l → 0 ≤ y ∧ y ≤ 2792) → 0 ≤ lsum l ∧ lsum l ≤ 2792 * l.length
  | [], _ => ⟨Int.le_refl _, Int.le_refl _⟩
  | y :: l, h => by
    have ih := lsum_b l (fun z hz => h z (List.mem_cons_of_mem _ hz))
    have hy := h y List.mem_cons_self
    show 0 ≤ y + lsum l ∧ y + lsum l ≤ 2792 * ((l.length + 1 : Nat) : Int)
    omega
theorem lsum_app : ∀ (l : List Int) (y : Int), lsum (l ++ [y]) = lsum l + y
  | [], y => by show y + 0 = 0 + y; omega
  | z :: l, y => by show z + lsum (l ++ [y]) = z + lsum l + y; rw [lsum_app l y]; omega
end

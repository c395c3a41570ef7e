/-! Points worked out part by part, from the faults one behind the other (mathematics alone). -/
section
variable {q : Bk} {hr wd : Int} {p i : Nat}
/-- those of this part -/
def pick (p : Nat) : List (Nat × Nat × Int) → List (Nat × Int)
  | [] => []
  | y :: F => if y.1 = p then (y.2.1, y.2.2) :: pick p F else pick p F
theorem pick_app : ∀ (F H : List (Nat × Nat × Int)), pick p (F ++ H) = pick p F ++ pick p H
  | [], H => rfl
  | y :: F, H => by
    show (if y.1 = p then (y.2.1, y.2.2) :: pick p (F ++ H) else pick p (F ++ H)) = (if y.1 = p then (y.2.1, y.2.2) :: pick p F else pick p F) ++ pick p H
    rw [pick_app F H]
    split <;> rfl
theorem pick_same : ∀ (l : List (Nat × Int)), pick p (l.map (fun y => (p, y.1, y.2))) = l
  | [] => rfl
  | y :: l => by
    show (if p = p then (y.1, y.2) :: pick p (l.map _) else _) = y :: l
    rw [if_pos rfl, pick_same l]
theorem pick_diff {p' : Nat} (h : p' ≠ p) : ∀ (l : List (Nat × Int)), pick p (l.map (fun y => (p', y.1, y.2))) = []
  | [] => rfl
  | y :: l => by
    show (if p' = p then _ else pick p (l.map _)) = []
    rw [if_neg h, pick_diff h l]
theorem pick_len : ∀ (F : List (Nat × Nat × Int)), (pick p F).length ≤ F.length
  | [] => Nat.le_refl _
  | y :: F => by
    have := pick_len F
    show (if y.1 = p then _ else pick p F).length ≤ F.length + 1
    split
    · show (pick p F).length + 1 ≤ _; omega
    · omega
theorem pick_lo : ∀ (rows : Rw) (last : Int), rwO last rows → (p : Int) ≤ last → pick p (flt rows) = []
  | [], _, _, _ => rfl
  | (p', l) :: rows, last, h, hp => by
    have h1 := h.1
    show pick p (l.map _ ++ flt rows) = []
    rw [pick_app, pick_diff (by omega), pick_lo rows p' h.2 (by omega)]
    rfl
theorem acR_lo : ∀ (rows : Rw) (last : Int), rwO last rows → (p : Int) ≤ last → (acR q hr wd rows).1 p = 0
  | [], _, _, _ => rfl
  | (p', l) :: rows, last, h, hp => by
    have h1 := h.1
    show (if p = p' then _ else (acR q hr wd rows).1 p) = 0
    rw [if_neg (by omega)]
    exact acR_lo rows p' h.2 (by omega)
/-- the points of a part -/
theorem acR_p : ∀ (rows : Rw) (last : Int), rwO last rows → (hasP rows p → (acR q hr wd rows).1 p = (acF q hr wd (vP q p) (fun _ => 0) (pick p (flt rows))).1) ∧ (¬ hasP rows p → (acR q hr wd rows).1 p = 0 ∧ pick p (flt rows) = [])
  | [], _, _ => ⟨fun ⟨l, h⟩ => absurd h (by simp), fun _ => ⟨rfl, rfl⟩⟩
  | (p', l) :: rows, last, h => by
    have ih := acR_p rows p' h.2
    have e : pick p (flt ((p', l) :: rows)) = pick p (l.map (fun y => (p', y.1, y.2))) ++ pick p (flt rows) := pick_app _ _
    have e2 : (acR q hr wd ((p', l) :: rows)).1 p = if p = p' then (acF q hr wd (vP q p') (fun _ => 0) l).1 else (acR q hr wd rows).1 p := rfl
    rw [e, e2]
    by_cases z : p = p'
    · subst z
      rw [if_pos rfl, pick_same, pick_lo rows p h.2 (Int.le_refl _), List.append_nil]
      exact ⟨fun _ => rfl, fun hn => absurd ⟨l, List.mem_cons_self⟩ hn⟩
    · rw [if_neg z, pick_diff (fun y => z y.symm), List.nil_append]
      have hh : hasP ((p', l) :: rows) p ↔ hasP rows p := by
        constructor
        · rintro ⟨l', h'⟩
          rcases List.mem_cons.mp h' with y | y
          · cases y; exact absurd rfl z
          · exact ⟨l', y⟩
        · rintro ⟨l', h'⟩; exact ⟨l', List.mem_cons_of_mem _ h'⟩
      rw [hh]
      exact ih
/-- their sum -/
theorem acR_sum : ∀ (rows : Rw) (last : Int) (P : Nat), rwO last rows → -1 ≤ last → (∀ y, y ∈ rows → y.1 < P) → sN (fun j => (acR q hr wd rows).1 j) P = (acR q hr wd rows).2.1
  | [], _, P, _, _, _ => by
    show sN (fun _ => 0) P = 0
    have := sN_b (f := fun _ => 0) (a := 0) (b := 0) P (fun _ _ => ⟨Int.le_refl _, Int.le_refl _⟩)
    omega
  | (p', l) :: rows, last, P, h, hl, hP => by
    have h1 := h.1
    have ih := acR_sum rows p' P h.2 (by omega) (fun y hy => hP y (List.mem_cons_of_mem _ hy))
    have hp : p' < P := hP (p', l) List.mem_cons_self
    have h0 : (acR q hr wd rows).1 p' = 0 := acR_lo rows p' h.2 (Int.le_refl _)
    have key : ∀ (f : Nat → Int) (v : Int) (n : Nat), f p' = 0 → sN (fun j => if j = p' then v else f j) n = sN f n + if p' < n then v else 0 := by
      intro f v n hf
      induction n with
      | zero => rfl
      | succ n ihn =>
        show sN _ n + (if n = p' then v else f n) = sN f n + f n + _
        rw [ihn]
        by_cases z : n = p'
        · subst z; rw [if_pos rfl, if_neg (by omega), if_pos (by omega), hf]; all_goals omega
        · rw [if_neg z]
          by_cases y : p' < n
          · rw [if_pos y, if_pos (by omega)]; omega
          · rw [if_neg y, if_neg (by omega)]; omega
    show sN (fun j => if j = p' then (acF q hr wd (vP q p') (fun _ => 0) l).1 else (acR q hr wd rows).1 j) P = (acF q hr wd (vP q p') (fun _ => 0) l).1 + (acR q hr wd rows).2.1
    rw [key _ _ _ h0, ih, if_pos hp]
    omega
/-- what the i-th fault takes off, by those of its part ahead of it -/
def offI (q : Bk) (hr wd : Int) (F : List (Nat × Nat × Int)) (i : Nat) (y : Nat × Nat × Int) : Int :=
  offN (vF hr wd y.2.2 (tI (tmA (fun _ => 0) (pick y.1 (F.take i))) y.2.1 y.2.1) (acF q hr wd (vP q y.1) (fun _ => 0) (pick y.1 (F.take i))).1 0 0) (cF q y.2.1) (acF q hr wd (vP q y.1) (fun _ => 0) (pick y.1 (F.take i))).1
theorem acF_at : ∀ (l : List (Nat × Int)) (lf : Int) (tm : Nat → Nat) (i : Nat) (y : Nat × Int), l[i]? = some y → (acF q hr wd lf tm l).2[i]? = some (offN (vF hr wd y.2 (tI (tmA tm (l.take i)) y.1 y.1) (acF q hr wd lf tm (l.take i)).1 0 0) (cF q y.1) (acF q hr wd lf tm (l.take i)).1)
  | [], _, _, i, y, h => by simp at h
  | (w, x) :: l, lf, tm, 0, y, h => by cases h; rfl
  | (w, x) :: l, lf, tm, i + 1, y, h => acF_at l _ (tI tm w) i y h
theorem acR_off : ∀ (rows : Rw) (last : Int) (pre : List (Nat × Nat × Int)), rwO last rows → (∀ p : Nat, last < p → pick p pre = []) → ∀ (i : Nat) y, (flt rows)[i]? = some y → (acR q hr wd rows).2.2[i]? = some (offI q hr wd (pre ++ flt rows) (pre.length + i) y)
  | [], _, pre, _, _, i, y, h => by
    have h : ([] : List (Nat × Nat × Int))[i]? = some y := h
    simp at h
  | (p', l) :: rows, last, pre, ho, hpre, i, y, h => by
    have h1 := ho.1
    have h : (l.map (fun y => (p', y.1, y.2)) ++ flt rows)[i]? = some y := h
    show ((acF q hr wd (vP q p') (fun _ => 0) l).2 ++ (acR q hr wd rows).2.2)[i]? = some (offI q hr wd (pre ++ (l.map (fun y => (p', y.1, y.2)) ++ flt rows)) (pre.length + i) y)
    have la := acF_len (q := q) (hr := hr) (wd := wd) l (vP q p') (fun _ => 0)
    rcases app_get' h with ⟨z, h⟩ | ⟨z, h⟩
    · rw [List.length_map] at z
      obtain ⟨y0, hy0⟩ := ls_get z
      rw [List.getElem?_map, hy0] at h
      cases h
      rw [List.getElem?_append_left (by omega), acF_at l _ _ i y0 hy0]
      unfold offI
      have e : pick p' ((pre ++ (l.map (fun y => (p', y.1, y.2)) ++ flt rows)).take (pre.length + i)) = l.take i := by
        rw [List.take_length_add_append, List.take_append_of_le_length (by rw [List.length_map]; omega), pick_app, hpre p' h1, ← List.map_take, pick_same]
        rfl
      rw [e]
    · rw [List.length_map] at z h
      rw [List.getElem?_append_right (by omega), la]
      have := acR_off rows p' (pre ++ l.map (fun y => (p', y.1, y.2))) ho.2 (fun p hp => by rw [pick_app, hpre p (by omega), pick_diff (by omega)]; rfl) (i - l.length) y h
      rw [this]
      rw [List.append_assoc, List.length_append, List.length_map, show pre.length + l.length + (i - l.length) = pre.length + i by omega]
end

/-! CARDS: what a text that is read makes (mathematics alone). -/
section
variable {B : Nat → Nat} {n b cnt w : Nat} {q : Bk} {hr wd lf x last : Int} {tm : Nat → Nat} {l : List (Nat × Int)}
theorem kPt_r {c p : Nat} (h : kPt B n q last b = .inr (c, p)) (h1 : -1 ≤ last) : last < p ∧ p < (bP q).length ∧ c = nxT B n b := by
  unfold kPt at h
  have xb := ixO_b (P := gN (bP q)) (x := nc B b (tl B n b)) (c := (bP q).length)
  split at h
  · cases h
  · split at h
    · cases h
    · split at h
      · cases h
      · cases h
        refine ⟨by omega, by omega, rfl⟩
/-- faults as they may stand -/
def flO (q : Bk) (l : List (Nat × Int)) : Prop := ∀ y, y ∈ l → y.1 < (bF q).length ∧ 0 ≤ y.2 ∧ y.2 ≤ 99999
theorem kFs_r : ∀ (f cnt b : Nat) (acc l : List (Nat × Int)) (c : Nat), kFs B n q f cnt b acc = .inr (c, l) → flO q acc → cnt ≤ 40 → flO q l ∧ cnt + l.length ≤ 40 + acc.length ∧ acc.length ≤ l.length
  | 0, cnt, b, acc, l, c, h, ha, hc => by cases h; exact ⟨ha, by omega, Nat.le_refl _⟩
  | f + 1, cnt, b, acc, l, c, h, ha, hc => by
    unfold kFs at h
    split at h
    · split at h
      · cases h
      · next c' y hy =>
        obtain ⟨w, x⟩ := y
        have k := kFa_r hy
        obtain ⟨i1, i2, i3⟩ := kFs_r f (cnt + 1) c' (acc ++ [(w, x)]) l c h (fun y hy => by
          rcases List.mem_append.mp hy with z | z
          · exact ha y z
          · rw [List.mem_singleton.mp z]; exact ⟨k.2.2.1, k.2.2.2⟩) (by omega)
        rw [List.length_append] at i2 i3
        simp only [List.length_cons, List.length_nil] at i2 i3
        exact ⟨i1, by omega, by omega⟩
    · cases h; exact ⟨ha, by omega, Nat.le_refl _⟩
theorem kFr_r {c : Nat} (h : kFr B n q cnt b = .inr (c, l)) (hc : cnt ≤ 40) : flO q l ∧ cnt + l.length ≤ 40 := by
  unfold kFr at h
  split at h
  · cases h
  · next c' l' hl =>
    split at h
    · cases h
      have := kFs_r 41 cnt b [] l c' hl (fun y hy => by cases hy) hc
      exact ⟨this.1, this.2.1⟩
    · cases h
/-- rows as they may stand -/
def rwK (q : Bk) (rows : Rw) : Prop := ∀ y, y ∈ rows → y.1 < (bP q).length ∧ flO q y.2
theorem rwK_app {p : Nat} {rows : Rw} (h : rwK q rows) (h1 : p < (bP q).length) (h2 : flO q l) : rwK q (rows ++ [(p, l)]) := by
  intro y hy
  rcases List.mem_append.mp hy with z | z
  · exact h y z
  · rw [List.mem_singleton.mp z]; exact ⟨h1, h2⟩
theorem kRows_r : ∀ (f cnt b : Nat) (last : Int) (acc rows : Rw) (c : Nat), kRows B n q f last cnt b acc = .inr (c, rows) → rwK q acc → rwO (-1) acc → rwL (-1) acc = last → nFa acc = cnt → cnt ≤ 40 → rwK q rows ∧ rwO (-1) rows ∧ nFa rows ≤ 40
  | 0, cnt, b, last, acc, rows, c, h, a1, a2, a3, a4, a5 => by cases h; exact ⟨a1, a2, by omega⟩
  | f + 1, cnt, b, last, acc, rows, c, h, a1, a2, a3, a4, a5 => by
    unfold kRows at h
    split at h
    · split at h
      · cases h
      · next c' p l hl =>
        unfold kRow at hl
        split at hl
        · cases hl
        · next c2 p2 hp =>
          split at hl
          · cases hl
          · next c3 l2 hf =>
            cases hl
            have k1 := kPt_r hp (by rw [← a3]; exact rwL_le acc (-1) a2)
            have k2 := kFr_r hf a5
            exact kRows_r f _ _ _ _ rows c h (rwK_app a1 k1.2.1 k2.1) (rwO_app acc (-1) a2 (by rw [a3]; exact k1.1)) (rwL_app acc (-1)) (by rw [nFa_app, a4]) (by omega)
    · cases h; exact ⟨a1, a2, by omega⟩
theorem rwL_len : ∀ (rows : Rw) (last : Int), rwO last rows → last + rows.length ≤ rwL last rows
  | [], last, _ => by show last + 0 ≤ last; omega
  | (p, l) :: rows, last, h => by
    have := rwL_len rows p h.2
    have h1 := h.1
    show last + ((rows.length + 1 : Nat) : Int) ≤ rwL p rows
    omega
theorem kTm_r {c : Nat} {t : Int} (h : kTm B n b = .inr (c, t)) : 0 ≤ t ∧ t ≤ 99999 := by
  unfold kTm at h
  split at h
  · split at h
    · cases h
    · next h2 =>
      split at h
      · cases h
        have h3 : tnE B n (nxT B n b) 0 99999 = 0 := by omega
        have := tn_0 h3
        omega
      · cases h
  · cases h; decide
theorem kCard_r {rows : Rw} {t : Int} {re : Bool} (h : kCard B n q = .inr (rows, t, re)) : rwK q rows ∧ rwO (-1) rows ∧ nFa rows ≤ 40 ∧ 0 ≤ t ∧ t ≤ 99999 := by
  unfold kCard at h
  split at h
  · cases h
  · next b' rows' hr =>
    split at h
    · cases h
    · next c t' ht =>
      split at h
      · cases h
      · split at h
        · cases h
          have k1 := kRows_r 9 0 _ (-1) [] rows b' hr (fun y hy => by cases hy) trivial rfl rfl (by omega)
          have k2 := kTm_r ht
          exact ⟨k1.1, k1.2.1, k1.2.2, k2⟩
        · cases h
theorem acR_b (hv : ∀ p, 0 ≤ vP q p ∧ vP q p ≤ 99) : ∀ rows : Rw, (0 ≤ (acR q hr wd rows).2.1 ∧ (acR q hr wd rows).2.1 ≤ 99 * rows.length) ∧ ∀ j, 0 ≤ (acR q hr wd rows).1 j ∧ (acR q hr wd rows).1 j ≤ 99
  | [] => ⟨⟨Int.le_refl _, Int.le_refl _⟩, fun j => ⟨Int.le_refl _, by show (0 : Int) ≤ 99; decide⟩⟩
  | (p, l) :: rows => by
    obtain ⟨⟨i1, i2⟩, i3⟩ := acR_b hv rows
    have v := hv p
    have a := acF_b (q := q) (hr := hr) (wd := wd) l (vP q p) (fun _ => 0) v.1
    refine ⟨⟨?_, ?_⟩, fun j => ?_⟩
    · show 0 ≤ (acF q hr wd (vP q p) (fun _ => 0) l).1 + (acR q hr wd rows).2.1
      omega
    · show (acF q hr wd (vP q p) (fun _ => 0) l).1 + (acR q hr wd rows).2.1 ≤ 99 * ((rows.length + 1 : Nat) : Int)
      omega
    · show 0 ≤ (if j = p then (acF q hr wd (vP q p) (fun _ => 0) l).1 else (acR q hr wd rows).1 j) ∧ (if j = p then (acF q hr wd (vP q p) (fun _ => 0) l).1 else (acR q hr wd rows).1 j) ≤ 99
      split
      · omega
      · exact i3 j
end

/-! SCALE: what the reference's pairs make (mathematics and cells). -/
section
variable {M M' : Mem} {T : Nat → Nat → Int} {g g' : Nat → Nat} {E E' : Nat → Nat → Prop} {w j l j' l' a b n m x y Dg Jn : Nat}
theorem Gi_r (h : Gi E g) (e : ∀ f : Nat → Nat, (∀ a b, E a b → f a = f b) ↔ (∀ a b, E' a b → f a = f b)) : Gi E' g := ⟨(e g).mp h.1, h.2.1, fun f hf => h.2.2 f ((e f).mpr hf)⟩
theorem sN_tail {f : Nat → Int} (h : m ≤ n) (h0 : ∀ i, m ≤ i → i < n → f i = 0) : sN f n = sN f m := by
  induction n with
  | zero => rw [show m = 0 from by omega]
  | succ n ih =>
    by_cases z : m = n + 1
    · rw [z]
    · show sN f n + f n = _
      rw [ih (by omega) (fun i h1 h2 => h0 i h1 (by omega)), h0 n (by omega) (by omega)]; omega
theorem sN_up {f h : Nat → Int} {b : Nat} {z : Int} : ∀ n, b < n → (∀ i, i < n → i ≠ b → h i = f i) → h b = f b + z → sN h n = sN f n + z
  | 0, hb, _, _ => absurd hb (by omega)
  | n + 1, hb, h1, h2 => by
    show sN h n + h n = sN f n + f n + z
    by_cases q : b = n
    · subst q
      rw [sN_congr b (fun i hi => h1 i (by omega) (by omega)), h2]; omega
    · rw [sN_up n (by omega) (fun i hi => h1 i (by omega)) h2, h1 n (by omega) (by omega)]; omega
/-- pairs that are told -/
def qP (T : Nat → Nat → Int) (w j l x y : Nat) : Prop := (min x y < j ∨ (min x y = j ∧ max x y < l)) ∧ eT (T w) x y
noncomputable def qW (T : Nat → Nat → Int) (w j l x y : Nat) : Int := wS T w x y + ind (qP T w j l x y)
noncomputable def qR (T : Nat → Nat → Int) (w j l x : Nat) : Int := rS T w x + sN (fun y => ind (qP T w j l x y) * (T w x - T w y)) 6
def qE (T : Nat → Nat → Int) (w j l x y : Nat) : Prop := eS T w x y ∨ ((x < 6 ∧ y < 6) ∧ qP T w j l x y)
def XS (M : Mem) (T : Nat → Nat → Int) (w j l : Nat) : Prop := XW M (qW T w j l) ∧ XR M (qR T w j l) ∧ XH M (fun x => sN (qW T w j l x) 6) ∧ ∃ g, XG M g ∧ Gi (qE T w j l) g
theorem XS_congr (h : ∀ x y, x < 6 → y < 6 → (qP T w j l x y ↔ qP T w j' l' x y)) (hX : XS M T w j l) : XS M T w j' l' := by
  obtain ⟨h1, h2, h3, g, h4, h5⟩ := hX
  have e : ∀ x y, x < 6 → y < 6 → qW T w j l x y = qW T w j' l' x y := fun x y hx hy => congrArg (wS T w x y + ·) (ind_iff (h x y hx hy))
  refine ⟨fun x y hx hy => by rw [h1 x y hx hy, e x y hx hy], fun x hx => ?_, fun x hx => ?_, g, h4, Gi_iff h5 (fun x y => ?_)⟩
  · rw [h2 x hx]; congr 1
    unfold qR
    congr 1
    exact sN_congr 6 (fun y hy => by rw [ind_iff (h x y hx hy)])
  · rw [h3 x hx]; congr 1
    exact sN_congr 6 (fun y hy => e x y hx hy)
  · constructor
    · rintro (z | ⟨z, z2⟩)
      · exact Or.inl z
      · exact Or.inr ⟨z, (h x y z.1 z.2).mp z2⟩
    · rintro (z | ⟨z, z2⟩)
      · exact Or.inl z
      · exact Or.inr ⟨z, (h x y z.1 z.2).mpr z2⟩
theorem XS_ne (hn : ¬ eT (T w) j l) (hl : j < l) (hX : XS M T w j l) : XS M T w j (l + 1) := XS_congr (fun x y _ _ => by
  unfold qP
  constructor
  · rintro ⟨z, z2⟩; exact ⟨by omega, z2⟩
  · rintro ⟨z, z2⟩
    refine ⟨?_, z2⟩
    by_cases q : (x = j ∧ y = l) ∨ (x = l ∧ y = j)
    · rcases q with ⟨rfl, rfl⟩ | ⟨rfl, rfl⟩
      · exact absurd z2 hn
      · exact absurd (eT_sym.mp z2) hn
    · omega) hX
theorem XS_j (hJ : ∀ w x, Jn ≤ x → T w x = -1) (hX : XS M T w j Jn) : XS M T w (j + 1) (j + 2) := XS_congr (fun x y _ _ => by
  unfold qP
  constructor
  · rintro ⟨z, z2⟩; exact ⟨by omega, z2⟩
  · rintro ⟨z, z2⟩
    refine ⟨?_, z2⟩
    have hx : ¬ Jn ≤ x := fun q => z2.2.1 (hJ w x q)
    have hy : ¬ Jn ≤ y := fun q => z2.2.2 (hJ w y q)
    have := z2.1
    omega) hX
theorem XS_w (hJ : ∀ w x, Jn ≤ x → T w x = -1) (hX : XS M T w Jn l) : XS M T (w + 1) 0 1 := by
  have hp : ∀ x y, qP T w Jn l x y ↔ eT (T w) x y := fun x y => ⟨fun z => z.2, fun z => ⟨by
    have hx : ¬ Jn ≤ x := fun q => z.2.1 (hJ w x q)
    omega, z⟩⟩
  have h0 : ∀ w x y, ¬ qP T w 0 1 x y := fun w x y z => by
    have := z.2.1
    have := z.1
    omega
  obtain ⟨h1, h2, h3, g, h4, h5⟩ := hX
  have e : ∀ x y, qW T w Jn l x y = qW T (w + 1) 0 1 x y := fun x y => by
    unfold qW
    rw [ind_iff (hp x y), ind_f (h0 (w + 1) x y)]
    show wS T w x y + ind (eT (T w) x y) = wS T w x y + ind (eT (T w) x y) + 0
    omega
  refine ⟨fun x y hx hy => by rw [h1 x y hx hy, e x y], fun x hx => ?_, fun x hx => ?_, g, h4, Gi_iff h5 (fun x y => ?_)⟩
  · rw [h2 x hx]; congr 1
    unfold qR
    rw [sN_congr (f := fun y => ind (qP T (w + 1) 0 1 x y) * (T (w + 1) x - T (w + 1) y)) (g := fun _ => 0) 6 (fun y _ => by rw [ind_f (h0 (w + 1) x y)]; omega), sN_0 6 (fun _ _ => rfl)]
    show rS T w x + _ = rS T w x + sN (dT (T w) x) 6 + 0
    rw [Int.add_zero]
    congr 1
    exact sN_congr 6 (fun y hy => by rw [ind_iff (hp x y)]; rfl)
  · rw [h3 x hx]; congr 1
    exact sN_congr 6 (fun y hy => e x y)
  · constructor
    · rintro (⟨w2, z1, z2⟩ | ⟨z, z2⟩)
      · exact Or.inl ⟨w2, by omega, z2⟩
      · exact Or.inl ⟨w, by omega, z, (hp x y).mp z2⟩
    · rintro (⟨w2, z1, z2, z3⟩ | ⟨z, z2⟩)
      · by_cases q : w2 = w
        · subst q; exact Or.inr ⟨z2, (hp x y).mpr z3⟩
        · exact Or.inl ⟨w2, by omega, z2, z3⟩
      · exact absurd z2 (h0 _ _ _)
theorem XS_eT (he : eT (T w) j l) (hl : j < l) (l6 : l < 6) (hW : XW M' (up2 (qW T w j l) j l)) (hR : XR M' (up1 (qR T w j l) j l (T w j - T w l) (-(T w j - T w l)))) (hG : XG M' (mgG g j l)) (hE : Gi (qE T w j l) g) (hH : XH M' (up1 (fun x => sN (qW T w j l x) 6) j l 1 1)) : XS M' T w j (l + 1) := by
  have hp : ∀ x y, ¬ ((x = j ∧ y = l) ∨ (x = l ∧ y = j)) → (qP T w j (l + 1) x y ↔ qP T w j l x y) := fun x y q => by
    unfold qP
    exact ⟨fun ⟨z, z2⟩ => ⟨by omega, z2⟩, fun ⟨z, z2⟩ => ⟨by omega, z2⟩⟩
  have p1 : qP T w j (l + 1) j l := ⟨by omega, he⟩
  have p2 : qP T w j (l + 1) l j := ⟨by omega, eT_sym.mp he⟩
  have n1 : ¬ qP T w j l j l := fun z => by have := z.1; omega
  have n2 : ¬ qP T w j l l j := fun z => by have := z.1; omega
  have e : ∀ x y, up2 (qW T w j l) j l x y = qW T w j (l + 1) x y := fun x y => by
    unfold up2
    by_cases q : (x = j ∧ y = l) ∨ (x = l ∧ y = j)
    · rw [if_pos q]
      unfold qW
      rcases q with ⟨rfl, rfl⟩ | ⟨rfl, rfl⟩
      · rw [ind_t p1, ind_f n1]; omega
      · rw [ind_t p2, ind_f n2]; omega
    · rw [if_neg q]
      unfold qW
      rw [ind_iff (hp x y q)]; omega
  refine ⟨fun x y hx hy => by rw [hW x y hx hy, e x y], fun x hx => ?_, fun x hx => ?_, _, hG, Gi_r (Gi_s hE j l) (fun f => ?_)⟩
  · rw [hR x hx]; congr 1
    unfold up1 qR
    by_cases q : x = j
    · subst q
      rw [if_pos rfl, if_neg (by omega), sN_up (f := fun y => ind (qP T w x l x y) * (T w x - T w y)) (h := fun y => ind (qP T w x (l + 1) x y) * (T w x - T w y)) (b := l) (z := T w x - T w l) 6 l6 (fun i _ hi => by rw [ind_iff (hp x i (by omega))]) (by rw [ind_t p1, ind_f n1]; omega)]
      omega
    · by_cases q2 : x = l
      · subst q2
        rw [if_neg q, if_pos rfl, sN_up (f := fun y => ind (qP T w j x x y) * (T w x - T w y)) (h := fun y => ind (qP T w j (x + 1) x y) * (T w x - T w y)) (b := j) (z := T w x - T w j) 6 (by omega) (fun i _ hi => by rw [ind_iff (hp x i (by omega))]) (by rw [ind_t p2, ind_f n2]; omega)]
        omega
      · rw [if_neg q, if_neg q2, Int.add_zero, Int.add_zero]
        congr 1
        exact sN_congr 6 (fun y _ => by rw [ind_iff (hp x y (by omega))])
  · rw [hH x hx]; congr 1
    show sN (qW T w j l x) 6 + (if x = j then (1 : Int) else 0) + (if x = l then (1 : Int) else 0) = sN (qW T w j (l + 1) x) 6
    by_cases q : x = j
    · subst q
      rw [if_pos rfl, if_neg (by omega), sN_up (f := qW T w x l x) (h := qW T w x (l + 1) x) (b := l) (z := 1) 6 l6 (fun i _ hi => by rw [← e]; unfold up2; rw [if_neg (by omega)]; omega) (by rw [← e]; unfold up2; rw [if_pos (Or.inl ⟨rfl, rfl⟩)])]
      omega
    · by_cases q2 : x = l
      · subst q2
        rw [if_neg q, if_pos rfl, sN_up (f := qW T w j x x) (h := qW T w j (x + 1) x) (b := j) (z := 1) 6 (by omega) (fun i _ hi => by rw [← e]; unfold up2; rw [if_neg (by omega)]; omega) (by rw [← e]; unfold up2; rw [if_pos (Or.inr ⟨rfl, rfl⟩)])]
        omega
      · rw [if_neg q, if_neg q2, Int.add_zero, Int.add_zero]
        exact sN_congr 6 (fun y _ => by rw [← e]; unfold up2; rw [if_neg (by omega)]; omega)
  · constructor
    · intro hf x y hxy
      rcases hxy with z | ⟨z, z2⟩
      · exact hf x y (Or.inl (Or.inl z))
      · by_cases q : (x = j ∧ y = l) ∨ (x = l ∧ y = j)
        · rcases q with q | ⟨rfl, rfl⟩
          · exact hf x y (Or.inr q)
          · exact (hf y x (Or.inr ⟨rfl, rfl⟩)).symm
        · exact hf x y (Or.inl (Or.inr ⟨z, (hp x y q).mp z2⟩))
    · intro hf x y hxy
      rcases hxy with (z | ⟨z, z2⟩) | ⟨rfl, rfl⟩
      · exact hf x y (Or.inl z)
      · refine hf x y (Or.inr ⟨z, ⟨?_, z2.2⟩⟩)
        have := z2.1
        omega
      · exact hf x y (Or.inr ⟨⟨by omega, by omega⟩, p1⟩)
theorem XS_end (hD : ∀ w x, Dg ≤ w → T w x = -1) (h24 : Dg ≤ 24) (hX : XS M T Dg 0 1) : XW M (wS T 24) ∧ XR M (rS T 24) ∧ XH M (fun x => sN (wS T 24 x) 6) ∧ ∃ g, XG M g ∧ Gi (eS T 24) g := by
  have h0 : ∀ w x y, ¬ qP T w 0 1 x y := fun w x y z => by
    have := z.2.1
    have := z.1
    omega
  have ne : ∀ w x y, Dg ≤ w → ¬ eT (T w) x y := fun w x y hw z => z.2.1 (hD w x hw)
  obtain ⟨h1, h2, h3, g, h4, h5⟩ := hX
  have e : ∀ x y, qW T Dg 0 1 x y = wS T 24 x y := fun x y => by
    unfold qW wS
    rw [ind_f (h0 Dg x y), sN_tail h24 (fun i hi _ => ind_f (ne i x y hi))]; omega
  refine ⟨fun x y hx hy => by rw [h1 x y hx hy, e x y], fun x hx => ?_, fun x hx => ?_, g, h4, Gi_iff h5 (fun x y => ?_)⟩
  · rw [h2 x hx]; congr 1
    unfold qR rS
    rw [sN_0 6 (fun y _ => by rw [ind_f (h0 Dg x y)]; omega), sN_tail h24 (fun i hi _ => sN_0 6 (fun y _ => by unfold dT; rw [ind_f (ne i x y hi)]; omega))]; omega
  · rw [h3 x hx]; congr 1
    exact sN_congr 6 (fun y hy => e x y)
  · constructor
    · rintro (⟨w2, z1, z2⟩ | ⟨z, z2⟩)
      · exact ⟨w2, by omega, z2⟩
      · exact absurd z2 (h0 _ _ _)
    · rintro ⟨w2, z1, z2, z3⟩
      by_cases q : w2 < Dg
      · exact Or.inl ⟨w2, q, z2, z3⟩
      · exact absurd z3 (ne w2 x y (by omega))
end

/-! EXPRS: the reference's side. -/
section
variable {G : GE} {d : Nat} {M M' M'' : Mem} {B : Nat → Nat} {n b r s : Nat}
/-- what the reference puts for a number of the code -/
def cm (c : Int) : List Int := if 0 ≤ c then [0, c] else if c ≤ -11 then [9 - c] else if c = -2 then [8] else if c = -3 then [7] else if c = -4 then [9] else if c = -5 then [5] else if c = -6 then [6] else if c = -7 then [1] else if c = -8 then [2] else if c = -9 then [3] else [4]
def mc : List Int → List Int
  | [] => []
  | c :: l => cm c ++ mc l
theorem mc_app : ∀ l l' : List Int, mc (l ++ l') = mc l ++ mc l'
  | [], l' => rfl
  | c :: l, l' => by show cm c ++ mc (l ++ l') = (cm c ++ mc l) ++ mc l'; rw [mc_app l l', List.append_assoc]
theorem mc_one {c : Int} : mc [c] = cm c := by show cm c ++ [] = cm c; rw [List.append_nil]
theorem cm_1 {c : Int} (h : c < 0) : (cm c).length = 1 := by
  unfold cm
  rw [if_neg (by omega)]
  repeat' (first | rfl | split)
def LCn (rd : Nat → PR) : Prop := ∀ b c l, b ≤ n → rd b = .inr (c, l) → 2 * (mc l).length ≤ 3 * (c - b) + 1
theorem LC_pt {inn : Nat → PR} (h : LPn n inn) (h' : LCn (n := n) inn) : LCn (n := n) (pPt B n inn) := by
  intro b c l hb e
  have nb := nxT_b (B := B) (n := n) (b := b)
  unfold pPt at e
  split at e
  · next h2 =>
    have := tk_lt (B := B) (n := n) (b := b) (by omega)
    split at e
    · cases e
      rw [mc_one]
      have : (cm ((dv B b (tl B n b) : Nat) : Int)).length = 2 := by unfold cm; rw [if_pos (by omega)]; rfl
      omega
    · cases e
  · split at e
    · next h1 =>
      have := tk_lt (B := B) (n := n) (b := b) (by omega)
      split at e
      · cases e
      · cases e
        rw [mc_one]
        have vb := vw_b (B := B) (n := n) (b := b)
        rw [cm_1 (by omega)]
        omega
    · split at e
      · next hs =>
        have := tk_lt (B := B) (n := n) (b := b) (by have := hs.1; omega)
        split at e
        · cases e
        · next c1 l1 hi =>
          have h1 := h _ _ _ (nb.2.1 hb) hi
          have h2 := h' _ _ _ (nb.2.1 hb) hi
          split at e
          · cases e
            have nc := nxT_b (B := B) (n := n) (b := c1)
            omega
          · cases e
      · cases e
theorem LC_ch {sep : Nat → Int} {sub : Nat → PR} (hs : SPn B n sep) (hm : ∀ b, sep b < 0 ∨ sep b = 0) (h : LPn n sub) (h' : LCn (n := n) sub) : ∀ (f b : Nat) (acc : List Int) (c : Nat) (l : List Int), b ≤ n → pCh B n sep sub f b acc = .inr (c, l) → 2 * (mc l).length + 3 * b ≤ 3 * c + 2 * (mc acc).length ∧ b ≤ c
  | 0, b, acc, c, l, hb, e => by simp [pCh] at e; obtain ⟨rfl, rfl⟩ := e; omega
  | f + 1, b, acc, c, l, hb, e => by
    unfold pCh at e
    split at e
    · cases e; omega
    · next hn =>
      have hbn := hs b hn
      have nb := nxT_b (B := B) (n := n) (b := b)
      split at e
      · cases e
      · next c1 l1 hi =>
        have h1 := h _ _ _ (nb.2.1 hb) hi
        have h3 := h' _ _ _ (nb.2.1 hb) hi
        have h2 := LC_ch hs hm h h' f c1 _ c l h1.2.1 e
        rw [mc_app, mc_app, mc_one] at h2
        have := cm_1 (c := sep b) (by have := hm b; omega)
        simp at h2
        omega
theorem LC_row {sep : Nat → Int} {sub : Nat → PR} (hs : SPn B n sep) (hm : ∀ b, sep b < 0 ∨ sep b = 0) (h : LPn n sub) (h' : LCn (n := n) sub) : LCn (n := n) (pRow B n sep sub) := by
  intro b c l hb e
  unfold pRow at e
  split at e
  · cases e
  · next c1 l1 hi =>
    have h1 := h _ _ _ hb hi
    have h3 := h' _ _ _ hb hi
    have h2 := LC_ch hs hm h h' 600 c1 l1 c l h1.2.1 e
    omega
theorem LC_te {sub : Nat → PR} (h : LPn n sub) (h' : LCn (n := n) sub) : LCn (n := n) (pTe B n sub) := by
  intro b c l hb e
  unfold pTe at e
  split at e
  · cases e
  · next c1 l1 hi =>
    have h1 := h _ _ _ hb hi
    have h3 := h' _ _ _ hb hi
    split at e
    · cases e; omega
    · next hn =>
      have := SP_te (B := B) c1 hn
      have nb := nxT_b (B := B) (n := n) (b := c1)
      split at e
      · cases e
      · next c2 l2 hi2 =>
        cases e
        have h2 := h _ _ _ (nb.2.1 h1.2.1) hi2
        have h4 := h' _ _ _ (nb.2.1 h1.2.1) hi2
        have hneg : teS B n c1 < 0 := by
          unfold teS at hn ⊢
          split
          · decide
          · split
            · decide
            · next a b => rw [if_neg a, if_neg b] at hn; exact absurd rfl hn
        rw [mc_app, mc_app, mc_one]
        have := cm_1 hneg
        simp
        omega
theorem mc_rep : ∀ k, (mc (List.replicate k (-4))).length = k
  | 0 => rfl
  | k + 1 => by
    show (cm (-4) ++ mc (List.replicate k (-4))).length = k + 1
    rw [List.length_append, mc_rep k, cm_1 (by decide)]
    omega
theorem nts_3 : ∀ (f b : Nat), b ≤ n → b + (nts B n f b).1 ≤ (nts B n f b).2 := fun f b hb => (nts_b f b hb).1
theorem LC_no {sub : Nat → PR} (h' : LCn (n := n) sub) (h : LPn n sub) : LCn (n := n) (pNo B n sub) := by
  intro b c l hb e
  have hn := nts_b (B := B) (n := n) 6 b hb
  unfold pNo at e
  split at e
  · cases e
  · split at e
    · cases e
    · next c1 l1 hi =>
      have h1 := h _ _ _ hn.2.1 hi
      have h3 := h' _ _ _ hn.2.1 hi
      cases e
      rw [mc_app, List.length_append, mc_rep]
      omega
theorem sep_neg {b : Nat} : (mulS B n b < 0 ∨ mulS B n b = 0) ∧ (addS B n b < 0 ∨ addS B n b = 0) ∧ (anS B n b < 0 ∨ anS B n b = 0) ∧ (orS B n b < 0 ∨ orS B n b = 0) := by
  refine ⟨?_, ?_, ?_, ?_⟩
  · unfold mulS; split
    · exact Or.inl (by decide)
    · split
      · exact Or.inl (by decide)
      · exact Or.inr rfl
  · unfold addS; split
    · exact Or.inl (by decide)
    · split
      · exact Or.inl (by decide)
      · exact Or.inr rfl
  · unfold anS; split
    · exact Or.inl (by decide)
    · exact Or.inr rfl
  · unfold orS; split
    · exact Or.inl (by decide)
    · exact Or.inr rfl
theorem LC_ex : ∀ k, LCn (n := n) (pEx B n k)
  | 0 => by
    intro b c l hb e
    unfold pEx at e
    split at e <;> cases e
  | k + 1 => by
    have L := LE_ex (B := B) (n := n) k
    have a1 := LP_pt (B := B) L.1
    have a2 := LC_pt (B := B) L.1 (LC_ex k)
    have b1 := LP_row (SP_mul (B := B)) a1
    have b2 := LC_row (SP_mul (B := B)) (fun b => sep_neg.1) a1 a2
    have c1 := LP_row (SP_add (B := B)) b1
    have c2 := LC_row (SP_add (B := B)) (fun b => sep_neg.2.1) b1 b2
    have d1 := LP_te (B := B) c1
    have d2 := LC_te (B := B) c1 c2
    have e1 := LP_no (B := B) d1
    have e2 := LC_no (B := B) d2 d1
    have f1 := LP_row (SP_an (B := B)) e1
    have f2 := LC_row (SP_an (B := B)) (fun b => sep_neg.2.2.1) e1 e2
    exact LC_row (SP_or (B := B)) (fun b => sep_neg.2.2.2) f1 f2
end

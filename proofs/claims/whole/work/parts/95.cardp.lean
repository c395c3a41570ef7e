/-! CARDS read from a text, and what they make (mathematics alone). -/
section
abbrev Rw := List (Nat × List (Nat × Int))
abbrev KR (α : Type) := (Nat × Nat) ⊕ (Nat × α)
variable (B : Nat → Nat) (n : Nat) (q : Bk)
/-- a fault and its number, so many on the card already -/
def kFa (cnt b : Nat) : KR (Nat × Int) :=
  if 40 ≤ cnt ∨ 8 < tl B n b then .inl (2, b)
  else if ixO (gN (bF q)) (nc B b (tl B n b)) (bF q).length = -1 then .inl (3, b)
  else if tkd B n (nxT B n b) = 2 then (if tnE B n (nxT B n b) 0 99999 ≠ 0 then .inl (tnE B n (nxT B n b) 0 99999, nxT B n b) else .inr (nxT B n (nxT B n b), (ixO (gN (bF q)) (nc B b (tl B n b)) (bF q).length).toNat, (dv B (nxT B n b) (tl B n (nxT B n b)) : Int)))
  else .inr (nxT B n b, (ixO (gN (bF q)) (nc B b (tl B n b)) (bF q).length).toNat, 1)
def kFs : Nat → Nat → Nat → List (Nat × Int) → KR (List (Nat × Int))
  | 0, _, b, acc => .inr (b, acc)
  | f + 1, cnt, b, acc => if nmP B n b then (match kFa B n q cnt b with
    | .inl e => .inl e
    | .inr (c, x) => kFs f (cnt + 1) c (acc ++ [x])) else .inr (b, acc)
/-- which part stands here -/
def kPt (last : Int) (b : Nat) : KR Nat :=
  if 8 < tl B n b then .inl (2, b)
  else if ixO (gN (bP q)) (nc B b (tl B n b)) (bP q).length = -1 then .inl (3, b)
  else if ixO (gN (bP q)) (nc B b (tl B n b)) (bP q).length ≤ last then .inl (4, b)
  else .inr (nxT B n b, (ixO (gN (bP q)) (nc B b (tl B n b)) (bP q).length).toNat)
/-- a row's faults and its sign -/
def kFr (cnt b : Nat) : KR (List (Nat × Int)) := match kFs B n q 41 cnt b [] with
  | .inl e => .inl e
  | .inr (c, l) => if sgP B n c 59 then .inr (nxT B n c, l) else .inl (1, c)
def kRow (last : Int) (cnt b : Nat) : KR (Nat × List (Nat × Int)) := match kPt B n q last b with
  | .inl e => .inl e
  | .inr (c, p) => match kFr B n q cnt c with
    | .inl e => .inl e
    | .inr (c', l) => .inr (c', p, l)
def kRows : Nat → Int → Nat → Nat → Rw → KR Rw
  | 0, _, _, b, acc => .inr (b, acc)
  | f + 1, last, cnt, b, acc => if nmP B n b then (match kRow B n q last cnt b with
    | .inl e => .inl e
    | .inr (c, p, l) => kRows f p (cnt + l.length) c (acc ++ [(p, l)])) else .inr (b, acc)
/-- the time, if it is told -/
def kTm (b : Nat) : KR Int :=
  if twd B n b 19 then (if tnE B n (nxT B n b) 0 99999 ≠ 0 then .inl (tnE B n (nxT B n b) 0 99999, nxT B n b) else if sgP B n (nxT B n (nxT B n b)) 59 then .inr (nxT B n (nxT B n (nxT B n b)), (dv B (nxT B n b) (tl B n (nxT B n b)) : Int)) else .inl (1, nxT B n (nxT B n b))) else .inr (b, 0)
def kRe (b : Nat) : KR Bool :=
  if twd B n b 20 then (if sgP B n (nxT B n b) 59 then .inr (nxT B n (nxT B n b), true) else .inl (1, nxT B n b)) else .inr (b, false)
/-- the whole text -/
def kCard : (Nat × Nat) ⊕ (Rw × Int × Bool) := match kRows B n q 9 (-1) 0 (bl B n 0) [] with
  | .inl e => .inl e
  | .inr (b, rows) => match kTm B n b with
    | .inl e => .inl e
    | .inr (c, t) => match kRe B n c with
      | .inl e => .inl e
      | .inr (c', x) => if tkd B n c' = 0 then .inr (rows, t, x) else .inl (1, c')
variable {B n q}
/-- the values while a fault is worked out: n, nth, hour, wind, left, total, time -/
def vF (hr wd x nth lf tot tim : Int) : Nat → Int32 := fun j => if j = 0 then iZ x else if j = 1 then iZ nth else if j = 2 then iZ hr else if j = 3 then iZ wd else if j = 4 then iZ lf else if j = 5 then iZ tot else iZ tim
def cF (q : Bk) (w : Nat) : List Int := match (bF q)[w]? with
  | some x => x.2
  | none => []
def offN (V : Nat → Int32) (l : List Int) (lf : Int) : Int := min lf (max 0 (vl V l).toInt)
/-- a row's faults, from so many points on: what is left, and what each takes off -/
def acF (q : Bk) (hr wd : Int) : Int → (Nat → Nat) → List (Nat × Int) → Int × List Int
  | lf, _, [] => (lf, [])
  | lf, tm, (w, x) :: l =>
    let t' : Nat → Nat := fun j => if j = w then tm j + 1 else tm j
    let off := offN (vF hr wd x (t' w) lf 0 0) (cF q w) lf
    ((acF q hr wd (lf - off) t' l).1, off :: (acF q hr wd (lf - off) t' l).2)
def vP (q : Bk) (p : Nat) : Int := match (bP q)[p]? with
  | some x => x.2
  | none => 0
/-- the points of the rows, their sum, and what each fault takes off -/
def acR (q : Bk) (hr wd : Int) : Rw → (Nat → Int) × Int × List Int
  | [] => (fun _ => 0, 0, [])
  | (p, l) :: rows =>
    let a := acF q hr wd (vP q p) (fun _ => 0) l
    let r := acR q hr wd rows
    (fun j => if j = p then a.1 else r.1 j, a.1 + r.2.1, a.2 ++ r.2.2)
def outN (q : Bk) (hr wd tot tim : Int) (re : Bool) : Prop := re = true ∨ (bL q ≠ -1 ∧ bL q < tim) ∨ ∃ l, l ∈ bO q ∧ vl (vF hr wd 0 0 0 tot tim) l ≠ iZ 0
theorem stq_cong {V V' : Nat → Int32} (h : ∀ j, j < 7 → V j = V' j) {s : (Nat → Int32) × Nat} {c : Int} (hc : -18 < c) : stq V s c = stq V' s c := by
  unfold stq
  by_cases a : 0 ≤ c
  · rw [if_pos a, if_pos a]
  · rw [if_neg a, if_neg a]
    by_cases b : c ≤ -11
    · rw [if_pos b, if_pos b, h _ (by omega)]
    · rw [if_neg b, if_neg b]
theorem rnn_cong {V V' : Nat → Int32} (h : ∀ j, j < 7 → V j = V' j) : ∀ (l : List Int) (d : Nat) (s : (Nat → Int32) × Nat), sf l d → rnn V l s = rnn V' l s
  | [], _, _, _ => rfl
  | c :: l, d, s, hs => by
    show rnn V l (stq V s c) = rnn V' l (stq V' s c)
    unfold sf at hs
    have hc : -18 < c := by
      split at hs
      · omega
      · split at hs
        · exact hs.1
        · omega
    rw [stq_cong h hc]
    split at hs
    · exact rnn_cong h l _ _ hs.2.2
    · split at hs
      · exact rnn_cong h l _ _ hs.2.2
      · split at hs
        · exact rnn_cong h l _ _ hs.2
        · exact rnn_cong h l _ _ hs.2.2
theorem vl_cong {V V' : Nat → Int32} (h : ∀ j, j < 7 → V j = V' j) {l : List Int} (w : WE 31 l) : vl V l = vl V' l := by
  have hs : sf l 0 := by
    have := WE_sf w [] 0 (by omega) (by unfold sf; trivial)
    rw [List.append_nil] at this
    exact this
  unfold vl
  rw [rnn_cong h l 0 _ hs]
end

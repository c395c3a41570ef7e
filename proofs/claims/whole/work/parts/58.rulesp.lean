/-! RULES read from a text (mathematics alone). -/
section
/-- parts (name, points), faults (name, EXPR), outs, ties, best, limit, how many clauses -/
abbrev Bk := List (Int × Int) × List (Int × List Int) × List (List Int) × List Int × Int × Int × Nat
abbrev bP (q : Bk) : List (Int × Int) := q.1
abbrev bF (q : Bk) : List (Int × List Int) := q.2.1
abbrev bO (q : Bk) : List (List Int) := q.2.2.1
abbrev bT (q : Bk) : List Int := q.2.2.2.1
abbrev bB (q : Bk) : Int := q.2.2.2.2.1
abbrev bL (q : Bk) : Int := q.2.2.2.2.2.1
abbrev bC (q : Bk) : Nat := q.2.2.2.2.2.2
abbrev BR := (Nat × Nat) ⊕ (Nat × Bk)
abbrev TR := (Nat × Nat) ⊕ (Nat × List Int)
def gN {α : Type} (l : List (Int × α)) (i : Nat) : Int := match l[i]? with
  | some x => x.1
  | none => 0
variable (B : Nat → Nat) (n : Nat)
/-- a sign must stand here -/
def pSg (c b : Nat) (q : Bk) : BR := if sgP B n b c then .inr (nxT B n b, q) else .inl (1, b)
def pPart (q : Bk) (b : Nat) : BR :=
  if 8 ≤ (bP q).length then .inl (2, b)
  else if nnE B n (nxT B n b) (gN (bP q)) (bP q).length ≠ 0 then .inl (nnE B n (nxT B n b) (gN (bP q)) (bP q).length, nxT B n b)
  else if tnE B n (nxT B n (nxT B n b)) 1 99 ≠ 0 then .inl (tnE B n (nxT B n (nxT B n b)) 1 99, nxT B n (nxT B n b))
  else pSg B n 59 (nxT B n (nxT B n (nxT B n b))) (bP q ++ [((nc B (nxT B n b) (tl B n (nxT B n b)) : Int), (dv B (nxT B n (nxT B n b)) (tl B n (nxT B n (nxT B n b))) : Int))], q.2)
def pTie (P : List (Int × Int)) (T : List Int) (b : Nat) : TR :=
  let key : Int := if twd B n b 19 then 8 else ixO (gN P) (nc B b (tl B n b)) P.length
  if ¬ twd B n b 19 ∧ ¬ nmP B n b then .inl (1, b)
  else if 8 ≤ T.length ∨ 8 < tl B n b then .inl (2, b)
  else if key = -1 then .inl (3, b)
  else if key ∈ T then .inl (4, b)
  else .inr (nxT B n b, T ++ [key])
def pTieR (P : List (Int × Int)) : Nat → Nat → List Int → TR
  | 0, b, T => .inr (b, T)
  | f + 1, b, T => if sgP B n b 44 then (match pTie B n P T (nxT B n b) with
    | .inl e => .inl e
    | .inr (c, T') => pTieR P f c T') else .inr (b, T)
def pTies (P : List (Int × Int)) (b : Nat) : TR := match pTie B n P [] b with
  | .inl e => .inl e
  | .inr (c, T) => pTieR B n P 8 c T
/-- an EXPR and a sign behind it -/
def pExS (b : Nat) (g : List Int → Bk) : BR := match pEx B n 6 b with
  | .inl e => .inl e
  | .inr (c, l) => pSg B n 59 c (g l)
def pCl (q : Bk) (b : Nat) : BR :=
  let w := wix B n b cwL
  let b1 := nxT B n b
  let C := bC q + 1
  if w = -1 then .inl (1, b)
  else if 20 ≤ bC q ∨ (w = 0 ∧ 10 ≤ (bF q).length) then .inl (2, b)
  else if w = 0 then
    (if nnE B n b1 (gN (bF q)) (bF q).length ≠ 0 then .inl (nnE B n b1 (gN (bF q)) (bF q).length, b1)
     else if ¬ twd B n (nxT B n b1) 14 then .inl (1, nxT B n b1)
     else pExS B n (nxT B n (nxT B n b1)) (fun l => (bP q, bF q ++ [((nc B b1 (tl B n b1) : Int), l)], bO q, bT q, bB q, bL q, C)))
  else if w = 1 then pExS B n b1 (fun l => (bP q, bF q, bO q ++ [l], bT q, bB q, bL q, C))
  else if w = 2 then (match pTies B n (bP q) b1 with
    | .inl e => .inl e
    | .inr (c, T) => pSg B n 59 c (bP q, bF q, bO q, T, bB q, bL q, C))
  else if w = 3 then (if tnE B n b1 1 20 ≠ 0 then .inl (tnE B n b1 1 20, b1) else pSg B n 59 (nxT B n b1) (bP q, bF q, bO q, bT q, (dv B b1 (tl B n b1) : Int), bL q, C))
  else (if tnE B n b1 1 9999 ≠ 0 then .inl (tnE B n b1 1 9999, b1) else pSg B n 59 (nxT B n b1) (bP q, bF q, bO q, bT q, bB q, (dv B b1 (tl B n b1) : Int), C))
def pParts : Nat → Bk → Nat → BR
  | 0, q, b => .inr (b, q)
  | f + 1, q, b => if twd B n b 12 then (match pPart B n q b with
    | .inl e => .inl e
    | .inr (c, q') => pParts f q' c) else .inr (b, q)
def pCls : Nat → Bk → Nat → BR
  | 0, q, b => .inr (b, q)
  | f + 1, q, b => if tkd B n b = 0 then .inr (b, q) else match pCl B n q b with
    | .inl e => .inl e
    | .inr (c, q') => pCls f q' c
def bk0 : Bk := ([], [], [], [], 5, -1, 0)
/-- the whole text -/
def pRules : BR := if ¬ twd B n (bl B n 0) 12 then .inl (1, bl B n 0) else match pParts B n 9 bk0 (bl B n 0) with
  | .inl e => .inl e
  | .inr (c, q) => pCls B n 21 q c
end

/-! The abstract machine: values, memory, one step, and the weakest precondition of a stretch of bytecode. -/
abbrev iZ (z : Int) : Int32 := Int32.ofInt z
abbrev jZ (z : Int) : Int64 := Int64.ofInt z
/-- values: an int, a long, a reference to a cell of the memory (none: null), a raw address (none: not set) -/
abbrev AV : Type := Int32 ⊕ (Int64 ⊕ (Option Nat ⊕ Option Nat))
abbrev aI (x : Int32) : AV := .inl x
abbrev aL (x : Int64) : AV := .inr (.inl x)
abbrev aR (r : Option Nat) : AV := .inr (.inr (.inl r))
abbrev aX (q : Nat) : AV := .inr (.inr (.inr (some q)))
abbrev aU : AV := .inr (.inr (.inr none))
/-- memory: ints, longs, references by cell and place; kind and length of each cell; how many cells -/
abbrev Mem : Type := (Nat → Nat → Int32) × (Nat → Nat → Int64) × (Nat → Nat → Option Nat) × (Nat → Nat × Nat) × Nat
def mI (M : Mem) : Nat → Nat → Int32 := M.1
def mJ (M : Mem) : Nat → Nat → Int64 := M.2.1
def mP (M : Mem) : Nat → Nat → Option Nat := M.2.2.1
def mK (M : Mem) : Nat → Nat × Nat := M.2.2.2.1
def mN (M : Mem) : Nat := M.2.2.2.2
def fu {α : Type} (f : Nat → α) (k : Nat) (v : α) : Nat → α := fun j => if j = k then v else f j
def rowI (M : Mem) (a : Nat) (g : Nat → Int32) : Mem := (fu M.1 a g, M.2)
def rowJ (M : Mem) (a : Nat) (g : Nat → Int64) : Mem := (M.1, fu M.2.1 a g, M.2.2)
def rowP (M : Mem) (a : Nat) (g : Nat → Option Nat) : Mem := (M.1, M.2.1, fu M.2.2.1 a g, M.2.2.2)
def setI (M : Mem) (a i : Nat) (v : Int32) : Mem := rowI M a (fu (mI M a) i v)
def setJ (M : Mem) (a i : Nat) (v : Int64) : Mem := rowJ M a (fu (mJ M a) i v)
def setP (M : Mem) (a i : Nat) (v : Option Nat) : Mem := rowP M a (fu (mP M a) i v)
/-- a new cell, all of it zero or null -/
def newC (M : Mem) (k sz : Nat) : Mem := (fu M.1 (mN M) (fun _ => 0), fu M.2.1 (mN M) (fun _ => 0), fu M.2.2.1 (mN M) (fun _ => none), fu M.2.2.2.1 (mN M) (k, sz), mN M + 1)
/-- n rows of a two-dimensional array, then nothing else: cells mN M .. -/
def newRows (M : Mem) (k sz : Nat) : Nat → Mem
  | 0 => M
  | n + 1 => newC (newRows M k sz n) k sz
/-- new T[n][m]: the outer cell first, its rows behind it -/
def newG (M : Mem) (ko k n sz : Nat) : Mem := newRows (rowP (newC M ko n) (mN M) (fun j => if j < n then some (mN M + 1 + j) else none)) k sz n
def iN (i : Int32) : Nat := i.toNatClampNeg
/-- an index is in its row -/
def inb (i : Int32) (n : Nat) : Prop := 0 ≤ i.toInt ∧ i.toInt < n
/-- a is a cell of this kind -/
def oB (M : Mem) (a k : Nat) : Prop := 61 ≤ a ∧ a < mN M ∧ (mK M a).1 = k
/-- a is an array of this kind, i in it -/
def iA (M : Mem) (a k : Nat) (i : Int32) : Prop := oB M a k ∧ inb i (mK M a).2
/-- strings: lengths and bytes of the constants -/
def sTxt (i : Nat) : List Nat := ((sTx[i]?).getD (0, 0, "", 0)).2.2.1.toList.map (fun c => c.toNat)
def sLen (i : Nat) : Nat := (sTxt i).length
def sByt (i j : Nat) : Int32 := iZ (((sTxt i)[j]?).getD 0 : Nat)
/-- what all methods share: the launch, the classes' numbers, the fields' slots, the array classes, the first writable cell's address, the constants' addresses, the script's address, length, cells -/
abbrev GE : Type := Launch × (Nat → ClassId) × (Nat → Nat → Nat) × (Nat → ClassId) × Nat × (Nat → Nat) × (Nat → Nat) × Nat × Nat × (Nat → Int32)
def gl (G : GE) : Launch := G.1
def gC (G : GE) : Nat → ClassId := G.2.1
def gI (G : GE) : Nat → Nat → Nat := G.2.2.1
def gA (G : GE) : Nat → ClassId := G.2.2.2.1
def gh (G : GE) : Nat := G.2.2.2.2.1
def gS (G : GE) : Nat → Nat := G.2.2.2.2.2.1
def gV (G : GE) : Nat → Nat := G.2.2.2.2.2.2.1
def gb (G : GE) : Nat := G.2.2.2.2.2.2.2.1
def gLn (G : GE) : Nat := G.2.2.2.2.2.2.2.2.1
def gx (G : GE) : Nat → Int32 := G.2.2.2.2.2.2.2.2.2
/-- how many words a stack takes -/
def stW : List AV → Nat
  | [] => 0
  | .inr (.inl _) :: t => stW t + 2
  | _ :: t => stW t + 1
/-- locals: a variable is set; the one ahead of it is lost if it was a long that reached into it -/
def ck : AV → AV
  | .inr (.inl _) => aU
  | v => v
def ls1 : List AV → Nat → AV → List AV
  | [], _, _ => []
  | _ :: t, 0, v => v :: t
  | w :: t, n + 1, v => (if n = 0 then ck w else w) :: ls1 t n v
def lu : List AV → List AV
  | [] => []
  | _ :: t => aU :: t
def ls2 : List AV → Nat → AV → List AV
  | [], _, _ => []
  | _ :: t, 0, v => v :: lu t
  | w :: t, n + 1, v => (if n = 0 then ck w else w) :: ls2 t n v
def lg (ls : List AV) (i : Nat) : AV := (ls[i]?).getD aU
def fTy (k f : Nat) : Nat := (((fT[k]?).getD [])[f]?).getD 9
/-- what a field holds -/
def fV (M : Mem) (a k f : Nat) : AV := if fTy k f = 1 then aL (mJ M a f) else if fTy k f = 2 then aR (mP M a f) else aI (mI M a f)
def isB (x : Int32) : Prop := x = 0 ∨ x = 1
abbrev QR : Type := Option AV → Mem → Prop
abbrev QX : Type := Nat → Mem → Prop
/-- the context of a walk: what callees do; what must hold at a return, at a throw; what must hold at a loop's head -/
abbrev WC : Type := (Nat → List AV → Mem → Nat → QR → QX → Prop) × QR × QX × (Nat → List AV → List AV → Mem → Nat → Prop) × Nat × (Nat → Int32)
def cE (C : WC) : Nat → List AV → Mem → Nat → QR → QX → Prop := C.1
def cQ (C : WC) : QR := C.2.1
def cX (C : WC) : QX := C.2.2.1
def cG (C : WC) : Nat → List AV → List AV → Mem → Nat → Prop := C.2.2.2.1
def cL (C : WC) : Nat := C.2.2.2.2.1
def cS (C : WC) : Nat → Int32 := C.2.2.2.2.2
/-- a call: some contract of the callee, and what follows from it -/
def CALL (C : WC) (j : Nat) (as : List AV) (M : Mem) (b : Nat) (K : Option AV → Mem → Nat → Prop) (X : Nat → Mem → Prop) : Prop :=
  ∃ (u : Nat) (qr : QR) (qx : QX), u ≤ b ∧ cE C j as M u qr qx ∧ (∀ r M', qr r M' → K r M' (b - u)) ∧ ∀ x M', qx x M' → X x M'
def icond (c : ClassFile.Cond) (x y : Int32) : Prop := match c with
  | .eq => x = y | .ne => x ≠ y | .lt => x < y | .ge => y ≤ x | .gt => y < x | .le => x ≤ y
def swt (x : Int32) (nx : Nat → Prop) (pc : Nat) : Int → List Int → Prop
  | _, [] => True
  | lo, o :: t => (x.toInt = lo → nx ((pc : Int) + o).toNat) ∧ swt x nx pc (lo + 1) t
def tk (n : Nat) (st : List AV) : List AV := (st.take n).reverse
/-- handlers: where an exception of kind x thrown at pc is caught -/
def exTy (h : Nat × Nat × Nat × Nat) : Nat := if h.2.2.2 = 13 then 0 else 1
def hdl (k pc x : Nat) : Option Nat := ((mH k).find? (fun h => decide (h.1 ≤ pc ∧ pc < h.2.1) && decide (exTy h = x))).map (fun h => h.2.2.1)
-- shapes of a stack
def eI (v : AV) (f : Int32 → Prop) : Prop := match v with | .inl x => f x | _ => False
def eJ (v : AV) (f : Int64 → Prop) : Prop := match v with | .inr (.inl x) => f x | _ => False
def eA (v : AV) (f : AV → Prop) : Prop := match v with | .inr (.inr (.inl r)) => f (aR r) | .inr (.inr (.inr (some q))) => f (aX q) | _ => False
def pI (st : List AV) (f : Int32 → List AV → Prop) : Prop := match st with | .inl x :: t => f x t | _ => False
def pII (st : List AV) (f : Int32 → Int32 → List AV → Prop) : Prop := match st with | .inl y :: .inl x :: t => f x y t | _ => False
def pJ (st : List AV) (f : Int64 → List AV → Prop) : Prop := match st with | .inr (.inl x) :: t => f x t | _ => False
def pJJ (st : List AV) (f : Int64 → Int64 → List AV → Prop) : Prop := match st with | .inr (.inl y) :: .inr (.inl x) :: t => f x y t | _ => False
def pJI (st : List AV) (f : Int64 → Int32 → List AV → Prop) : Prop := match st with | .inl y :: .inr (.inl x) :: t => f x y t | _ => False
def pR (st : List AV) (f : Option Nat → List AV → Prop) : Prop := match st with | .inr (.inr (.inl r)) :: t => f r t | _ => False
def pA (st : List AV) (f : AV → List AV → Prop) : Prop := match st with | .inr (.inr (.inl r)) :: t => f (aR r) t | .inr (.inr (.inr (some q))) :: t => f (aX q) t | _ => False
def pO (st : List AV) (f : Nat → List AV → Prop) : Prop := match st with | .inr (.inr (.inl (some a))) :: t => f a t | _ => False
def pIO (st : List AV) (f : Nat → Int32 → List AV → Prop) : Prop := match st with | .inl i :: .inr (.inr (.inl (some a))) :: t => f a i t | _ => False
def pVIO (st : List AV) (f : Nat → Int32 → AV → List AV → Prop) : Prop := match st with | v :: .inl i :: .inr (.inr (.inl (some a))) :: t => f a i v t | _ => False
def pVO (st : List AV) (f : Nat → AV → List AV → Prop) : Prop := match st with | v :: .inr (.inr (.inl (some a))) :: t => f a v t | _ => False
def c1 (v : AV) : Prop := match v with | .inr (.inl _) => False | .inr (.inr (.inr none)) => False | _ => True
def pV (st : List AV) (f : AV → List AV → Prop) : Prop := match st with | v :: t => c1 v ∧ f v t | _ => False
def pVV (st : List AV) (f : AV → AV → List AV → Prop) : Prop := match st with | v :: w :: t => c1 v ∧ c1 w ∧ f v w t | _ => False
/-- what a method may return as an int -/
def retI (k : Nat) (x : Int32) : Prop := ∃ ty, mR k = some ty ∧ narrow ty (.int x) = .int x
def retA (k : Nat) : Prop := ∃ ty, mR k = some ty ∧ ((∃ n, ty = .object n) ∨ ∃ t, ty = .array t)
/-- the value put into a field fits it -/
def putV (M : Mem) (a k f : Nat) (v : AV) (nx : Mem → Prop) : Prop :=
  if fTy k f = 1 then eJ v (fun x => nx (setJ M a f x)) else if fTy k f = 2 then (match v with | .inr (.inr (.inl r)) => nx (setP M a f r) | _ => False) else if fTy k f = 3 then eI v (fun x => isB x ∧ nx (setI M a f x)) else if fTy k f = 0 then eI v (fun x => nx (setI M a f x)) else False
def gt (pc : Nat) (off : Int) : Nat := ((pc : Int) + off).toNat
def stp (C : WC) (k : Nat) (nx : Nat → List AV → List AV → Mem → Nat → Prop) (pc : Nat) (x : XI) (ls st : List AV) (M : Mem) (b : Nat) : Prop :=
  match x.1 with
  | .aconst_null => nx (pc + 1) ls (aR none :: st) M b
  | .iconst _ => nx (pc + 1) ls (aI (iZ (x2 x)) :: st) M b
  | .bipush _ => nx (pc + 2) ls (aI (iZ (x2 x)) :: st) M b
  | .sipush _ => nx (pc + 3) ls (aI (iZ (x2 x)) :: st) M b
  | .ldc _ => if x1 x = 0 then nx (pc + 2) ls (aI (iZ (x2 x)) :: st) M b else nx (pc + 2) ls (aR (some (x1 x - 1)) :: st) M b
  | .ldc_w _ => nx (pc + 3) ls (aI (iZ (x2 x)) :: st) M b
  | .lconst _ => nx (pc + 1) ls (aL (jZ (x2 x)) :: st) M b
  | .ldc2_w _ => nx (pc + 3) ls (aL (jZ (x2 x)) :: st) M b
  | .iload _ => eI (lg ls (x1 x)) fun v => nx (pc + 2) ls (aI v :: st) M b
  | .iload_n _ => eI (lg ls (x1 x)) fun v => nx (pc + 1) ls (aI v :: st) M b
  | .lload _ => eJ (lg ls (x1 x)) fun v => nx (pc + 2) ls (aL v :: st) M b
  | .lload_n _ => eJ (lg ls (x1 x)) fun v => nx (pc + 1) ls (aL v :: st) M b
  | .aload _ => eA (lg ls (x1 x)) fun v => nx (pc + 2) ls (v :: st) M b
  | .aload_n _ => eA (lg ls (x1 x)) fun v => nx (pc + 1) ls (v :: st) M b
  | .istore _ => pI st fun v t => nx (pc + 2) (ls1 ls (x1 x) (aI v)) t M b
  | .istore_n _ => pI st fun v t => nx (pc + 1) (ls1 ls (x1 x) (aI v)) t M b
  | .lstore _ => pJ st fun v t => nx (pc + 2) (ls2 ls (x1 x) (aL v)) t M b
  | .lstore_n _ => pJ st fun v t => nx (pc + 1) (ls2 ls (x1 x) (aL v)) t M b
  | .astore _ => pA st fun v t => nx (pc + 2) (ls1 ls (x1 x) v) t M b
  | .astore_n _ => pA st fun v t => nx (pc + 1) (ls1 ls (x1 x) v) t M b
  | .iinc _ _ => eI (lg ls (x1 x)) fun v => nx (pc + 3) (ls1 ls (x1 x) (aI (v + iZ (x2 x)))) st M b
  | .iaload => pIO st fun a i t => if x1 x = 32 then (a = 60 ∧ inb i (cL C)) ∧ nx (pc + 1) ls (aI (cS C (iN i)) :: t) M b else iA M a 20 i ∧ nx (pc + 1) ls (aI (mI M a (iN i)) :: t) M b
  | .laload => pIO st fun a i t => iA M a 21 i ∧ nx (pc + 1) ls (aL (mJ M a (iN i)) :: t) M b
  | .baload => pIO st fun a i t => if x1 x = 22 then iA M a 22 i ∧ nx (pc + 1) ls (aI (mI M a (iN i)) :: t) M b else 30 ≤ a ∧ a < 60 ∧ inb i (sLen (a - 30)) ∧ nx (pc + 1) ls (aI (sByt (a - 30) (iN i)) :: t) M b
  | .aaload => pIO st fun a i t => (iA M a 23 i ∨ iA M a 24 i ∨ iA M a 25 i ∨ iA M a 26 i ∨ iA M a 27 i) ∧ nx (pc + 1) ls (aR (mP M a (iN i)) :: t) M b
  | .iastore => pVIO st fun a i v t => iA M a 20 i ∧ eI v fun w => nx (pc + 1) ls t (setI M a (iN i) w) b
  | .lastore => pVIO st fun a i v t => iA M a 21 i ∧ eJ v fun w => nx (pc + 1) ls t (setJ M a (iN i) w) b
  | .bastore => pVIO st fun a i v t => iA M a 22 i ∧ eI v fun w => isB w ∧ nx (pc + 1) ls t (setI M a (iN i) w) b
  | .aastore => pVIO st fun a i v t => match v with
    | .inr (.inr (.inl (some r))) => ((iA M a 23 i ∧ oB M r 6) ∨ (iA M a 24 i ∧ oB M r 7) ∨ (iA M a 27 i ∧ r < 30)) ∧ nx (pc + 1) ls t (setP M a (iN i) (some r)) b
    | _ => False
  | .arraylength => pO st fun a t => if x1 x = 32 then a = 60 ∧ nx (pc + 1) ls (aI (iZ (cL C : Nat)) :: t) M b else if x1 x = 31 then 30 ≤ a ∧ a < 60 ∧ nx (pc + 1) ls (aI (iZ (sLen (a - 30) : Nat)) :: t) M b else (61 ≤ a ∧ a < mN M ∧ 20 ≤ (mK M a).1 ∧ (mK M a).1 ≤ 27 ∧ x1 x = 1) ∧ nx (pc + 1) ls (aI (iZ ((mK M a).2 : Nat)) :: t) M b
  | .pop => pV st fun _ t => nx (pc + 1) ls t M b
  | .dup => pV st fun v t => nx (pc + 1) ls (v :: v :: t) M b
  | .dup_x1 => pVV st fun v w t => nx (pc + 1) ls (v :: w :: v :: t) M b
  | .dup2 => match st with
    | .inr (.inl v) :: t => nx (pc + 1) ls (aL v :: aL v :: t) M b
    | _ => pVV st fun v w t => nx (pc + 1) ls (v :: w :: v :: w :: t) M b
  | .iadd => pII st fun x y t => nx (pc + 1) ls (aI (x + y) :: t) M b
  | .isub => pII st fun x y t => nx (pc + 1) ls (aI (x - y) :: t) M b
  | .imul => pII st fun x y t => nx (pc + 1) ls (aI (x * y) :: t) M b
  | .idiv => pII st fun x y t => ¬ y = 0 ∧ nx (pc + 1) ls (aI (x / y) :: t) M b
  | .irem => pII st fun x y t => ¬ y = 0 ∧ nx (pc + 1) ls (aI (x - x / y * y) :: t) M b
  | .ineg => pI st fun x t => nx (pc + 1) ls (aI (-x) :: t) M b
  | .ishl => pII st fun x y t => nx (pc + 1) ls (aI (x <<< (y &&& 31)) :: t) M b
  | .ishr => pII st fun x y t => nx (pc + 1) ls (aI (x >>> (y &&& 31)) :: t) M b
  | .iushr => pII st fun x y t => nx (pc + 1) ls (aI (x.toUInt32 >>> (y.toUInt32 &&& Int32.toUInt32 31)).toInt32 :: t) M b
  | .iand => pII st fun x y t => nx (pc + 1) ls (aI (x &&& y) :: t) M b
  | .ior => pII st fun x y t => nx (pc + 1) ls (aI (x ||| y) :: t) M b
  | .ixor => pII st fun x y t => nx (pc + 1) ls (aI (x ^^^ y) :: t) M b
  | .ladd => pJJ st fun x y t => nx (pc + 1) ls (aL (x + y) :: t) M b
  | .lsub => pJJ st fun x y t => nx (pc + 1) ls (aL (x - y) :: t) M b
  | .lmul => pJJ st fun x y t => nx (pc + 1) ls (aL (x * y) :: t) M b
  | .ldiv => pJJ st fun x y t => ¬ y = 0 ∧ nx (pc + 1) ls (aL (x / y) :: t) M b
  | .lrem => pJJ st fun x y t => ¬ y = 0 ∧ nx (pc + 1) ls (aL (x - x / y * y) :: t) M b
  | .lneg => pJ st fun x t => nx (pc + 1) ls (aL (-x) :: t) M b
  | .land => pJJ st fun x y t => nx (pc + 1) ls (aL (x &&& y) :: t) M b
  | .lor => pJJ st fun x y t => nx (pc + 1) ls (aL (x ||| y) :: t) M b
  | .lxor => pJJ st fun x y t => nx (pc + 1) ls (aL (x ^^^ y) :: t) M b
  | .lshl => pJI st fun x y t => nx (pc + 1) ls (aL (x <<< (y.toInt64 &&& 63)) :: t) M b
  | .lshr => pJI st fun x y t => nx (pc + 1) ls (aL (x >>> (y.toInt64 &&& 63)) :: t) M b
  | .lushr => pJI st fun x y t => nx (pc + 1) ls (aL (x.toUInt64 >>> (y.toInt64.toUInt64 &&& Int64.toUInt64 63)).toInt64 :: t) M b
  | .i2l => pI st fun x t => nx (pc + 1) ls (aL x.toInt64 :: t) M b
  | .l2i => pJ st fun x t => nx (pc + 1) ls (aI x.toInt32 :: t) M b
  | .i2c => pI st fun x t => nx (pc + 1) ls (aI (x.toUInt32 % 65536).toInt32 :: t) M b
  | .i2b => pI st fun x t => nx (pc + 1) ls (aI x.toInt8.toInt32 :: t) M b
  | .lcmp => pJJ st fun x y t => nx (pc + 1) ls (aI (lg_cmp x y) :: t) M b
  | .ifCond c _ => pI st fun v t => (icond c v 0 → nx (x1 x) ls t M b) ∧ (¬ icond c v 0 → nx (pc + 3) ls t M b)
  | .if_icmp c _ => pII st fun v w t => (icond c v w → nx (x1 x) ls t M b) ∧ (¬ icond c v w → nx (pc + 3) ls t M b)
  | .ifnull _ => pR st fun r t => (r = none → nx (x1 x) ls t M b) ∧ (∀ a, r = some a → nx (pc + 3) ls t M b)
  | .ifnonnull _ => pR st fun r t => (∀ a, r = some a → nx (x1 x) ls t M b) ∧ (r = none → nx (pc + 3) ls t M b)
  | .goto _ => nx (x1 x) ls st M b
  | .tableswitch d lo hi offs => pI st fun v t => (v.toInt < lo ∨ hi < v.toInt → nx (gt pc d) ls t M b) ∧ (hi - lo + 1 = offs.size ∧ swt v (fun p => nx p ls t M b) pc lo offs.toList)
  | .getfield _ => pO st fun a t => if x1 x = 30 then a < 30 ∧ nx (pc + 3) ls ((if x2 x = 0 then aR (some (a + 30)) else aI 0) :: t) M b else x1 x < 13 ∧ oB M a (x1 x) ∧ nx (pc + 3) ls (fV M a (x1 x) (x2 x).toNat :: t) M b
  | .putfield _ => pVO st fun a v t => x1 x < 13 ∧ oB M a (x1 x) ∧ putV M a (x1 x) (x2 x).toNat v fun M' => nx (pc + 3) ls t M' b
  | .getstatic _ => if x1 x = 0 then nx (pc + 3) ls (aI 1 :: st) M b else x1 x = 1 ∧ nx (pc + 3) ls (aR none :: st) M b ∧ ∀ q, nx (pc + 3) ls (aX q :: st) M b
  | .new _ => if x1 x < 13 then ((fN[x1 x]?).getD 0 + 1 ≤ b ∧ nx (pc + 3) ls (aR (some (mN M)) :: st) (newC M (x1 x) ((fN[x1 x]?).getD 0)) (b - ((fN[x1 x]?).getD 0 + 1))) else (100 ≤ x1 x ∧ x1 x < 102) ∧ 6 ≤ b ∧ stW st ≤ 8 ∧ cX C (x1 x - 100) M
  | .newarray _ => pI st fun n t => (0 ≤ n.toInt ∧ n.toInt ≤ 100000 ∧ x1 x < 23 ∧ iN n + 1 ≤ b) ∧ nx (pc + 2) ls (aR (some (mN M)) :: t) (newC M (x1 x) (iN n)) (b - (iN n + 1))
  | .anewarray _ => pI st fun n t => (0 ≤ n.toInt ∧ n.toInt ≤ 100000 ∧ x1 x < 28 ∧ iN n + 1 ≤ b) ∧ nx (pc + 3) ls (aR (some (mN M)) :: t) (newC M (x1 x) (iN n)) (b - (iN n + 1))
  | .multianewarray _ _ => pII st fun n m t => (0 ≤ n.toInt ∧ n.toInt ≤ 1000 ∧ 0 ≤ m.toInt ∧ m.toInt ≤ 1000 ∧ x1 x < 27 ∧ iN n * (iN m + 1) + iN n + 1 ≤ b) ∧ nx (pc + 4) ls (aR (some (mN M)) :: t) (newG M (x1 x) (x1 x - 5) (iN n) (iN m)) (b - (iN n * (iN m + 1) + iN n + 1))
  | .invokestatic _ => if x1 x = 1001 then (match st with
      | .inl n :: .inl dp :: .inr (.inr (.inl (some a))) :: .inl sp :: .inr (.inr (.inl (some a0))) :: t => (stW t ≤ 8 ∧ oB M a0 20 ∧ oB M a 20 ∧ 0 ≤ sp.toInt ∧ 0 ≤ dp.toInt ∧ 0 ≤ n.toInt ∧ sp.toInt + n.toInt ≤ (mK M a0).2 ∧ dp.toInt + n.toInt ≤ (mK M a).2) ∧ nx (pc + 3) ls t (rowI M a (fun j => if iN dp ≤ j ∧ j < iN dp + iN n then mI M a0 (iN sp + (j - iN dp)) else mI M a j)) b
      | _ => False) else
    x1 x < 1000 ∧ (x2 x).toNat ≤ st.length ∧ stW (st.drop (x2 x).toNat) ≤ 8 ∧ CALL C (x1 x) (tk (x2 x).toNat st) M b (fun r M' b' => match r with
      | none => nx (pc + 3) ls (st.drop (x2 x).toNat) M' b'
      | some v => nx (pc + 3) ls (v :: st.drop (x2 x).toNat) M' b') (fun e M' => cX C e M')
  | .invokespecial _ => if x1 x = 1000 then pO st fun _ t => stW t ≤ 8 ∧ nx (pc + 3) ls t M b else
    x1 x < 1000 ∧ (x2 x).toNat + 1 ≤ st.length ∧ stW (st.drop ((x2 x).toNat + 1)) ≤ 8 ∧ (∃ a, st[(x2 x).toNat]? = some (aR (some a))) ∧ CALL C (x1 x) (tk ((x2 x).toNat + 1) st) M b (fun r M' b' => match r with
      | none => nx (pc + 3) ls (st.drop ((x2 x).toNat + 1)) M' b'
      | some v => nx (pc + 3) ls (v :: st.drop ((x2 x).toNat + 1)) M' b') (fun e M' => cX C e M')
  | .invokevirtual _ => x1 x < 1000 ∧ (x2 x).toNat + 1 ≤ st.length ∧ stW (st.drop ((x2 x).toNat + 1)) ≤ 8 ∧ (∃ a, st[(x2 x).toNat]? = some (aR (some a)) ∧ (if mO (x1 x) < 13 then oB M a (mO (x1 x)) else mO (x1 x) = 14 ∧ a < 30)) ∧ CALL C (x1 x) (tk ((x2 x).toNat + 1) st) M b (fun r M' b' => match r with
      | none => nx (pc + 3) ls (st.drop ((x2 x).toNat + 1)) M' b'
      | some v => nx (pc + 3) ls (v :: st.drop ((x2 x).toNat + 1)) M' b') (fun e M' => match hdl k pc e with
      | none => cX C e M'
      | some h => ∀ q : Nat, nx h ls [aX q] M' 0)
  | .ireturn => match st with | [.inl v] => retI k v ∧ cQ C (some (aI v)) M | _ => False
  | .lreturn => match st with | [.inr (.inl v)] => mR k = some .long ∧ cQ C (some (aL v)) M | _ => False
  | .areturn => match st with | [.inr (.inr (.inl r))] => retA k ∧ cQ C (some (aR r)) M | _ => False
  | .return_ => match st with | [] => mR k = none ∧ cQ C none M | _ => False
  | _ => False
/-- the weakest precondition of at most n instructions; at a loop's head it stops -/
def wp (C : WC) (k : Nat) : Nat → Nat → List AV → List AV → Mem → Nat → Prop
  | 0, pc, ls, st, M, b => cG C pc ls st M b
  | n + 1, pc, ls, st, M, b => if isHd k pc = true then cG C pc ls st M b else match xc k pc with
    | none => False
    | some x => stp C k (wp C k n) pc x ls st M b
/-- the same, with a first step even from a loop's head -/
def wp1 (C : WC) (k n pc : Nat) (ls st : List AV) (M : Mem) (b : Nat) : Prop := match xc k pc with
  | none => False
  | some x => stp C k (wp C k n) pc x ls st M b
theorem wp_s {C : WC} {k n pc : Nat} {ls st : List AV} {M : Mem} {b : Nat} {x : XI} (h : isHd k pc = false) (hx : xc k pc = some x) : wp C k (n + 1) pc ls st M b = stp C k (wp C k n) pc x ls st M b := by
  show (if isHd k pc = true then _ else _) = _
  rw [if_neg (by rw [h]; exact Bool.false_ne_true)]
  rw [hx]
theorem wp_h {C : WC} {k n pc : Nat} {ls st : List AV} {M : Mem} {b : Nat} (h : isHd k pc = true) : wp C k (n + 1) pc ls st M b = cG C pc ls st M b := if_pos h
theorem wp1_s {C : WC} {k n pc : Nat} {ls st : List AV} {M : Mem} {b : Nat} {x : XI} (hx : xc k pc = some x) : wp1 C k n pc ls st M b = stp C k (wp C k n) pc x ls st M b := by
  unfold wp1; rw [hx]

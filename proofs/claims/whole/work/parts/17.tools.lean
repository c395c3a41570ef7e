/-! Tools for walks: numbers, frames, results. -/
theorem i32 (x : Int32) : ∃ z : Int, -2147483648 ≤ z ∧ z < 2147483648 ∧ x = iZ z := ⟨x.toInt, Int32.le_toInt x, Int32.toInt_lt x, (Int32.ofInt_toInt x).symm⟩
theorem i64 (x : Int64) : ∃ z : Int, -9223372036854775808 ≤ z ∧ z < 9223372036854775808 ∧ x = jZ z := ⟨x.toInt, Int64.le_toInt x, Int64.toInt_lt x, (Int64.ofInt_toInt x).symm⟩
theorem toI {z : Int} (h1 : -2147483648 ≤ z) (h2 : z < 2147483648) : (iZ z).toInt = z := Int32.toInt_ofInt_of_le (by omega) (by omega)
theorem toJ {z : Int} (h1 : -9223372036854775808 ≤ z) (h2 : z < 9223372036854775808) : (jZ z).toInt = z := Int64.toInt_ofInt_of_le (by omega) (by omega)
theorem iZ_add {x y : Int} : iZ x + iZ y = iZ (x + y) := (Int32.ofInt_add ..).symm
theorem iZ_sub {x y : Int} : iZ x - iZ y = iZ (x - y) := (Int32.ofInt_sub ..).symm
theorem iZ_mul {x y : Int} : iZ x * iZ y = iZ (x * y) := (Int32.ofInt_mul ..).symm
theorem iZ_neg {x : Int} : - iZ x = iZ (-x) := (Int32.ofInt_neg ..).symm
theorem jZ_add {x y : Int} : jZ x + jZ y = jZ (x + y) := (Int64.ofInt_add ..).symm
theorem jZ_sub {x y : Int} : jZ x - jZ y = jZ (x - y) := (Int64.ofInt_sub ..).symm
theorem jZ_mul {x y : Int} : jZ x * jZ y = jZ (x * y) := (Int64.ofInt_mul ..).symm
theorem jZ_neg {x : Int} : - jZ x = jZ (-x) := (Int64.ofInt_neg ..).symm
theorem iN_iZ {z : Int} (h1 : 0 ≤ z) (h2 : z < 2147483648) : iN (iZ z) = z.toNat := by
  show (iZ z).toInt.toNat = z.toNat
  rw [toI (by omega) h2]
theorem inb_iZ {z : Int} {n : Nat} (h1 : -2147483648 ≤ z) (h2 : z < 2147483648) : inb (iZ z) n = (0 ≤ z ∧ z < n) := by unfold inb; rw [toI h1 h2]
theorem iZ_inj {x y : Int} (h1 : -2147483648 ≤ x) (h2 : x < 2147483648) (h3 : -2147483648 ≤ y) (h4 : y < 2147483648) : (iZ x = iZ y) = (x = y) := propext ⟨fun h => by
  have := congrArg Int32.toInt h
  rwa [toI h1 h2, toI h3 h4] at this, fun h => by rw [h]⟩
section
variable {G : GE} {d k : Nat} {qr : QR} {qx : QX}
theorem wcQ : cQ (WCo G d k qr qx) = qr := rfl
theorem wcX : cX (WCo G d k qr qx) = qx := rfl
theorem wcG : cG (WCo G d k qr qx) = Go G d k qr qx := rfl
theorem wcE : cE (WCo G d k qr qx) = Ev G d := rfl
theorem wcL : cL (WCo G d k qr qx) = gLn G := rfl
theorem wcS : cS (WCo G d k qr qx) = gx G := rfl
end
def bZ (p : Prop) [Decidable p] : Int32 := if p then iZ 1 else iZ 0
def nX : QX := fun _ _ => False
/-- an exception of this kind, the memory as it was -/
def tX (e : Nat) (M : Mem) : QX := fun x M' => x = e ∧ M' = M
def rI (q : Int32 → Mem → Prop) : QR := fun r M' => ∃ v, r = some (aI v) ∧ q v M'
def rJ (q : Int64 → Mem → Prop) : QR := fun r M' => ∃ v, r = some (aL v) ∧ q v M'
def rA (q : Option Nat → Mem → Prop) : QR := fun r M' => ∃ v, r = some (aR v) ∧ q v M'
def rV (q : Mem → Prop) : QR := fun r M' => r = none ∧ q M'
def vI (v : Int32) (M : Mem) : QR := rI fun w M' => w = v ∧ M' = M
def vJ (v : Int64) (M : Mem) : QR := rJ fun w M' => w = v ∧ M' = M
def vA (v : Option Nat) (M : Mem) : QR := rA fun w M' => w = v ∧ M' = M
theorem vI_ {v w : Int32} {M M' : Mem} : vI v M (some (aI w)) M' = (w = v ∧ M' = M) := propext ⟨fun ⟨_, h, h2, h3⟩ => by cases h; exact ⟨h2, h3⟩, fun h => ⟨w, rfl, h⟩⟩
theorem vJ_ {v w : Int64} {M M' : Mem} : vJ v M (some (aL w)) M' = (w = v ∧ M' = M) := propext ⟨fun ⟨_, h, h2, h3⟩ => by cases h; exact ⟨h2, h3⟩, fun h => ⟨w, rfl, h⟩⟩
theorem vA_ {v w : Option Nat} {M M' : Mem} : vA v M (some (aR w)) M' = (w = v ∧ M' = M) := propext ⟨fun ⟨_, h, h2, h3⟩ => by cases h; exact ⟨h2, h3⟩, fun h => ⟨w, rfl, h⟩⟩
theorem rI_ {q : Int32 → Mem → Prop} {w : Int32} {M' : Mem} : rI q (some (aI w)) M' = q w M' := propext ⟨fun ⟨_, h, h2⟩ => by cases h; exact h2, fun h => ⟨w, rfl, h⟩⟩
theorem rJ_ {q : Int64 → Mem → Prop} {w : Int64} {M' : Mem} : rJ q (some (aL w)) M' = q w M' := propext ⟨fun ⟨_, h, h2⟩ => by cases h; exact h2, fun h => ⟨w, rfl, h⟩⟩
theorem rA_ {q : Option Nat → Mem → Prop} {w : Option Nat} {M' : Mem} : rA q (some (aR w)) M' = q w M' := propext ⟨fun ⟨_, h, h2⟩ => by cases h; exact h2, fun h => ⟨w, rfl, h⟩⟩
theorem rV_ {q : Mem → Prop} {M' : Mem} : rV q none M' = q M' := propext ⟨fun h => h.2, fun h => ⟨rfl, h⟩⟩
section
variable {G : GE} {d k0 : Nat} {qr0 : QR} {qx0 : QX} {j : Nat} {as : List AV} {M : Mem} {b u : Nat} {nx : List AV → Mem → Nat → Prop} {st : List AV} {X : QX} {qx : QX}
theorem kI {q : Int32 → Mem → Prop} (h : Ev G d j as M u (rI q) qx) (hu : u ≤ b) (k : ∀ v M', q v M' → nx (aI v :: st) M' (b - u)) (hx : ∀ e M', qx e M' → X e M') : CALL (WCo G d k0 qr0 qx0) j as M b (kR nx st) X := ⟨u, _, _, hu, h, fun r M' ⟨v, hr, hq⟩ => by rw [hr]; exact k v M' hq, hx⟩
theorem kJ {q : Int64 → Mem → Prop} (h : Ev G d j as M u (rJ q) qx) (hu : u ≤ b) (k : ∀ v M', q v M' → nx (aL v :: st) M' (b - u)) (hx : ∀ e M', qx e M' → X e M') : CALL (WCo G d k0 qr0 qx0) j as M b (kR nx st) X := ⟨u, _, _, hu, h, fun r M' ⟨v, hr, hq⟩ => by rw [hr]; exact k v M' hq, hx⟩
theorem kA {q : Option Nat → Mem → Prop} (h : Ev G d j as M u (rA q) qx) (hu : u ≤ b) (k : ∀ v M', q v M' → nx (aR v :: st) M' (b - u)) (hx : ∀ e M', qx e M' → X e M') : CALL (WCo G d k0 qr0 qx0) j as M b (kR nx st) X := ⟨u, _, _, hu, h, fun r M' ⟨v, hr, hq⟩ => by rw [hr]; exact k v M' hq, hx⟩
theorem kV {q : Mem → Prop} (h : Ev G d j as M u (rV q) qx) (hu : u ≤ b) (k : ∀ M', q M' → nx st M' (b - u)) (hx : ∀ e M', qx e M' → X e M') : CALL (WCo G d k0 qr0 qx0) j as M b (kR nx st) X := ⟨u, _, _, hu, h, fun r M' ⟨hr, hq⟩ => by rw [hr]; exact k M' hq, hx⟩
theorem kI0 {v : Int32} (h : Ev G d j as M 0 (vI v M) nX) (k : nx (aI v :: st) M b) : CALL (WCo G d k0 qr0 qx0) j as M b (kR nx st) X := kI h (Nat.zero_le _) (fun _ _ ⟨h1, h2⟩ => by rw [h1, h2]; exact k) (fun _ _ h => False.elim h)
theorem kJ0 {v : Int64} (h : Ev G d j as M 0 (vJ v M) nX) (k : nx (aL v :: st) M b) : CALL (WCo G d k0 qr0 qx0) j as M b (kR nx st) X := kJ h (Nat.zero_le _) (fun _ _ ⟨h1, h2⟩ => by rw [h1, h2]; exact k) (fun _ _ h => False.elim h)
theorem kA0 {v : Option Nat} (h : Ev G d j as M 0 (vA v M) nX) (k : nx (aR v :: st) M b) : CALL (WCo G d k0 qr0 qx0) j as M b (kR nx st) X := kA h (Nat.zero_le _) (fun _ _ ⟨h1, h2⟩ => by rw [h1, h2]; exact k) (fun _ _ h => False.elim h)
end
section
variable {M : Mem} {a i : Nat} {v : Int32} {w : Int64} {p : Option Nat}
theorem mI_setI {a' i' : Nat} : mI (setI M a i v) a' i' = if a' = a ∧ i' = i then v else mI M a' i' := by
  show (if a' = a then (fun j => if j = i then v else mI M a j) else mI M a') i' = _
  by_cases h : a' = a
  · subst h; rw [if_pos rfl]; simp
  · rw [if_neg h, if_neg (fun z => h z.1)]
theorem mJ_setJ {a' i' : Nat} : mJ (setJ M a i w) a' i' = if a' = a ∧ i' = i then w else mJ M a' i' := by
  show (if a' = a then (fun j => if j = i then w else mJ M a j) else mJ M a') i' = _
  by_cases h : a' = a
  · subst h; rw [if_pos rfl]; simp
  · rw [if_neg h, if_neg (fun z => h z.1)]
theorem mP_setP {a' i' : Nat} : mP (setP M a i p) a' i' = if a' = a ∧ i' = i then p else mP M a' i' := by
  show (if a' = a then (fun j => if j = i then p else mP M a j) else mP M a') i' = _
  by_cases h : a' = a
  · subst h; rw [if_pos rfl]; simp
  · rw [if_neg h, if_neg (fun z => h z.1)]
theorem mI_setJ : mI (setJ M a i w) = mI M := rfl
theorem mI_setP : mI (setP M a i p) = mI M := rfl
theorem mJ_setI : mJ (setI M a i v) = mJ M := rfl
theorem mJ_setP : mJ (setP M a i p) = mJ M := rfl
theorem mP_setI : mP (setI M a i v) = mP M := rfl
theorem mP_setJ : mP (setJ M a i w) = mP M := rfl
theorem mK_setI : mK (setI M a i v) = mK M := rfl
theorem mK_setJ : mK (setJ M a i w) = mK M := rfl
theorem mK_setP : mK (setP M a i p) = mK M := rfl
theorem mN_setI : mN (setI M a i v) = mN M := rfl
theorem mN_setJ : mN (setJ M a i w) = mN M := rfl
theorem mN_setP : mN (setP M a i p) = mN M := rfl
theorem oB_setI {c k : Nat} : oB (setI M a i v) c k = oB M c k := rfl
theorem oB_setJ {c k : Nat} : oB (setJ M a i w) c k = oB M c k := rfl
theorem oB_setP {c k : Nat} : oB (setP M a i p) c k = oB M c k := rfl
theorem iA_setI {c k : Nat} {x : Int32} : iA (setI M a i v) c k x = iA M c k x := rfl
theorem iA_setJ {c k : Nat} {x : Int32} : iA (setJ M a i w) c k x = iA M c k x := rfl
theorem iA_setP {c k : Nat} {x : Int32} : iA (setP M a i p) c k x = iA M c k x := rfl
theorem iR_setI {c : Nat} {x : Int32} : iR (setI M a i v) c x = iR M c x := rfl
theorem iR_setJ {c : Nat} {x : Int32} : iR (setJ M a i w) c x = iR M c x := rfl
theorem iR_setP {c : Nat} {x : Int32} : iR (setP M a i p) c x = iR M c x := rfl
theorem St_setI : Static (setI M a i v) = Static M := rfl
theorem St_setJ : Static (setJ M a i w) = Static M := rfl
end
theorem isB0 : isB (iZ 0) = True := eq_true (Or.inl rfl)
theorem isB1 : isB (iZ 1) = True := eq_true (Or.inr rfl)
theorem isBZ {p : Prop} [Decidable p] : isB (bZ p) = True := eq_true (by
  unfold bZ
  by_cases h : p
  · rw [if_pos h]; exact Or.inr rfl
  · rw [if_neg h]; exact Or.inl rfl)
theorem eq0 {p : Prop} [Decidable p] : (iZ 0 = bZ p) = ¬ p := propext ⟨fun h hp => by rw [bZ, if_pos hp] at h; exact absurd h (by decide), fun h => by rw [bZ, if_neg h]⟩
theorem eq1 {p : Prop} [Decidable p] : (iZ 1 = bZ p) = p := propext ⟨fun h => Classical.byContradiction fun hp => by rw [bZ, if_neg hp] at h; exact absurd h (by decide), fun h => by rw [bZ, if_pos h]⟩
theorem bZ0 {p : Prop} [Decidable p] : ((bZ p).toInt = 0) = ¬ p := propext ⟨fun h hp => by rw [bZ, if_pos hp] at h; exact absurd h (by decide), fun h => by rw [bZ, if_neg h]; rfl⟩
theorem nX_ {e : Nat} {M : Mem} : nX e M = False := rfl
theorem tX_ {e e' : Nat} {M M' : Mem} : tX e M e' M' = (e' = e ∧ M' = M) := rfl
theorem iN_lit0 : iN (iZ 0) = 0 := rfl

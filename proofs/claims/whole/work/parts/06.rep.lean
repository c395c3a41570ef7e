/-! The memory and the machine's heap. -/
theorem mI_rowI (M : Mem) (a : Nat) (g : Nat → Int32) (b : Nat) : mI (rowI M a g) b = if b = a then g else mI M b := rfl
theorem mJ_rowI (M : Mem) (a : Nat) (g : Nat → Int32) : mJ (rowI M a g) = mJ M := rfl
theorem mP_rowI (M : Mem) (a : Nat) (g : Nat → Int32) : mP (rowI M a g) = mP M := rfl
theorem mK_rowI (M : Mem) (a : Nat) (g : Nat → Int32) : mK (rowI M a g) = mK M := rfl
theorem mN_rowI (M : Mem) (a : Nat) (g : Nat → Int32) : mN (rowI M a g) = mN M := rfl
theorem mI_rowJ (M : Mem) (a : Nat) (g : Nat → Int64) : mI (rowJ M a g) = mI M := rfl
theorem mJ_rowJ (M : Mem) (a : Nat) (g : Nat → Int64) (b : Nat) : mJ (rowJ M a g) b = if b = a then g else mJ M b := rfl
theorem mP_rowJ (M : Mem) (a : Nat) (g : Nat → Int64) : mP (rowJ M a g) = mP M := rfl
theorem mK_rowJ (M : Mem) (a : Nat) (g : Nat → Int64) : mK (rowJ M a g) = mK M := rfl
theorem mN_rowJ (M : Mem) (a : Nat) (g : Nat → Int64) : mN (rowJ M a g) = mN M := rfl
theorem mI_rowP (M : Mem) (a : Nat) (g : Nat → Option Nat) : mI (rowP M a g) = mI M := rfl
theorem mJ_rowP (M : Mem) (a : Nat) (g : Nat → Option Nat) : mJ (rowP M a g) = mJ M := rfl
theorem mP_rowP (M : Mem) (a : Nat) (g : Nat → Option Nat) (b : Nat) : mP (rowP M a g) b = if b = a then g else mP M b := rfl
theorem mK_rowP (M : Mem) (a : Nat) (g : Nat → Option Nat) : mK (rowP M a g) = mK M := rfl
theorem mN_rowP (M : Mem) (a : Nat) (g : Nat → Option Nat) : mN (rowP M a g) = mN M := rfl
theorem fu_self {α : Type} (f : Nat → α) (k : Nat) (v : α) : fu f k v k = v := by simp [fu]
theorem fu_ne {α : Type} (f : Nat → α) {k j : Nat} (v : α) (h : j ≠ k) : fu f k v j = f j := by simp [fu, h]
def AA (G : GE) : Nat → Prop := fun q => gh G ≤ q
def rv (ad : Nat → Nat) : AV → Value
  | .inl x => .int x
  | .inr (.inl x) => .long x
  | .inr (.inr (.inl none)) => .null
  | .inr (.inr (.inl (some a))) => .ref (ad a)
  | .inr (.inr (.inr (some q))) => .ref q
  | .inr (.inr (.inr none)) => .null
def okV (n : Nat) : AV → Prop
  | .inr (.inr (.inl (some a))) => a < n
  | _ => True
theorem okV_mono {n n' : Nat} (h : n ≤ n') {v : AV} (hv : okV n v) : okV n' v := by
  rcases v with x | x | r | q
  · trivial
  · trivial
  · cases r with
    | none => trivial
    | some a => exact Nat.lt_of_lt_of_le hv h
  · trivial
theorem rv_congr {ad ad' : Nat → Nat} {n : Nat} (h : ∀ i, i < n → ad' i = ad i) {v : AV} (hv : okV n v) : rv ad' v = rv ad v := by
  rcases v with x | x | r | q
  · rfl
  · rfl
  · cases r with
    | none => rfl
    | some a => exact congrArg Value.ref (h a hv)
  · cases q <;> rfl
theorem rv_map {ad ad' : Nat → Nat} {n : Nat} (h : ∀ i, i < n → ad' i = ad i) {vs : List AV} (hv : ∀ v ∈ vs, okV n v) : vs.map (rv ad') = vs.map (rv ad) :=
  List.map_congr_left fun v hm => rv_congr h (hv v hm)
theorem rv_rf (ad : Nat → Nat) (r : Option Nat) : rv ad (aR r) = va_rf (r.map ad) := by cases r <;> rfl
def stN (k : Nat) : Nat := (fN[k]?).getD 0
/-- a cell as the kit's worlds have it -/
def entO (G : GE) (ad : Nat → Nat) (M : Mem) (a : Nat) : va_E :=
  if (mK M a).1 < 13 then .inr ((mK M a).1, (List.range (stN (mK M a).1)).map (fun f => rv ad (fV M a (mK M a).1 f)))
  else if (mK M a).1 = 21 then .inl (gA G 21, (mK M a).2, .inr (.inl (mJ M a)))
  else if (mK M a).1 = 20 ∨ (mK M a).1 = 22 then .inl (gA G (mK M a).1, (mK M a).2, .inl (mI M a))
  else .inl (gA G (mK M a).1, (mK M a).2, .inr (.inr (.inr (.inr (fun j => (mP M a j).map ad)))))
def wsO (G : GE) (ad : Nat → Nat) (M : Mem) : va_W := (List.range (mN M - 61)).map (fun i => (ad (61 + i), entO G ad M (61 + i)))
def adOK (G : GE) (ad : Nat → Nat) : Prop := (∀ i, i < 30 → ad i = gS G i) ∧ (∀ i, i < 30 → ad (i + 30) = gV G i) ∧ ad 60 = gb G
def WF (M : Mem) : Prop := 61 ≤ mN M ∧ ∀ a j r, mP M a j = some r → r < mN M
def Rep (G : GE) (ad : Nat → Nat) (M : Mem) (H : Heap) : Prop := adOK G ad ∧ WF M ∧ va_P (gC G, gI G) vwCl (wsO G ad M) H ∧ va_D (AA G) (wsO G ad M)
theorem entO_congr {G : GE} {ad ad' : Nat → Nat} {M M' : Mem} {a n : Nat} (hk : mK M' a = mK M a) (hi : mI M' a = mI M a) (hj : mJ M' a = mJ M a) (hp : mP M' a = mP M a) (had : ∀ i, i < n → ad' i = ad i) (hw : ∀ j r, mP M a j = some r → r < n) : entO G ad' M' a = entO G ad M a := by
  have hf : ∀ k f, rv ad' (fV M' a k f) = rv ad (fV M a k f) := by
    intro k f
    have e : fV M' a k f = fV M a k f := by unfold fV; rw [hi, hj, hp]
    rw [e]
    refine rv_congr had ?_
    unfold fV
    split
    · trivial
    · split
      · cases h : mP M a f with
        | none => trivial
        | some r => exact hw f r h
      · trivial
  have hm : (fun j => (mP M' a j).map ad') = (fun j => (mP M a j).map ad) := by
    funext j
    rw [hp]
    cases h : mP M a j with
    | none => rfl
    | some r => exact congrArg some (had r (hw j r h))
  unfold entO
  rw [hk, hi, hj, hm]
  simp only [hf]
theorem wsO_len (G : GE) (ad : Nat → Nat) (M : Mem) : (wsO G ad M).length = mN M - 61 := by simp [wsO]
theorem wsO_get {G : GE} {ad : Nat → Nat} {M : Mem} {a : Nat} (h1 : 61 ≤ a) (h2 : a < mN M) : (wsO G ad M)[a - 61]? = some (ad a, entO G ad M a) := by
  unfold wsO
  rw [List.getElem?_map, List.getElem?_range (by omega), Option.map_some, show 61 + (a - 61) = a by omega]
/-- one cell is written -/
theorem wsO_set {G : GE} {ad : Nat → Nat} {M M' : Mem} {a : Nat} (h1 : 61 ≤ a) (hN : mN M' = mN M) (h : ∀ b, b ≠ a → mK M' b = mK M b ∧ mI M' b = mI M b ∧ mJ M' b = mJ M b ∧ mP M' b = mP M b) (hw : WF M) :
    (wsO G ad M).set (a - 61) (ad a, entO G ad M' a) = wsO G ad M' := by
  apply List.ext_getElem?
  intro j
  by_cases hj : j < mN M - 61
  · by_cases e : j = a - 61
    · subst e
      rw [List.getElem?_set_self (by rw [wsO_len]; exact hj), wsO_get h1 (by omega)]
    · rw [List.getElem?_set_ne (Ne.symm e)]
      have g1 := wsO_get (G := G) (ad := ad) (M := M) (a := 61 + j) (by omega) (by omega)
      have g2 := wsO_get (G := G) (ad := ad) (M := M') (a := 61 + j) (by omega) (by omega)
      rw [show 61 + j - 61 = j by omega] at g1 g2
      obtain ⟨q1, q2, q3, q4⟩ := h (61 + j) (by omega)
      rw [g1, g2, entO_congr q1 q2 q3 q4 (n := mN M) (fun _ _ => rfl) (fun j r hr => hw.2 _ j r hr)]
  · rw [List.getElem?_eq_none (by rw [List.length_set, wsO_len]; omega), List.getElem?_eq_none (by rw [wsO_len]; omega)]
/-- one cell more -/
theorem wsO_push {G : GE} {ad : Nat → Nat} {M : Mem} {k sz q : Nat} (hw : WF M) : wsO G (fu ad (mN M) q) (newC M k sz) = wsO G ad M ++ [(q, entO G ad (newC M k sz) (mN M))] := by
  have hN : mN (newC M k sz) = mN M + 1 := rfl
  have had : ∀ i, i < mN M → fu ad (mN M) q i = ad i := fun i hi => fu_ne _ _ (by omega)
  apply List.ext_getElem?
  intro j
  have h61 := hw.1
  by_cases hj : j < mN M - 61
  · rw [List.getElem?_append_left (by rw [wsO_len]; exact hj)]
    have g1 := wsO_get (G := G) (ad := ad) (M := M) (a := 61 + j) (by omega) (by omega)
    have g2 := wsO_get (G := G) (ad := fu ad (mN M) q) (M := newC M k sz) (a := 61 + j) (by omega) (by omega)
    rw [show 61 + j - 61 = j by omega] at g1 g2
    rw [g1, g2, had _ (by omega)]
    rw [entO_congr (M := M) (M' := newC M k sz) (a := 61 + j) (fu_ne _ _ (by omega)) (fu_ne _ _ (by omega)) (fu_ne _ _ (by omega)) (fu_ne _ _ (by omega)) had (fun j r hr => hw.2 _ j r hr)]
  · rw [List.getElem?_append_right (by rw [wsO_len]; omega), wsO_len]
    by_cases e : j = mN M - 61
    · subst e
      have g2 := wsO_get (G := G) (ad := fu ad (mN M) q) (M := newC M k sz) (a := mN M) (by omega) (by omega)
      rw [g2, Nat.sub_self, fu_self]
      refine congrArg some (Prod.ext rfl ?_)
      exact entO_congr (M := newC M k sz) (n := 0) rfl rfl rfl rfl (fun i hi => absurd hi (by omega)) (fun j r hr => by
        have : mP (newC M k sz) (mN M) j = none := by show fu (mP M) (mN M) (fun _ => none) (mN M) j = none; rw [fu_self]
        rw [this] at hr; cases hr)
    · rw [List.getElem?_eq_none (by rw [wsO_len]; omega), List.getElem?_eq_none (by simp; omega)]
/-- what a new cell holds -/
theorem mK_newC (M : Mem) (k sz : Nat) : mK (newC M k sz) (mN M) = (k, sz) := fu_self _ _ _
theorem mI_newC (M : Mem) (k sz : Nat) : mI (newC M k sz) (mN M) = fun _ => 0 := fu_self _ _ _
theorem mJ_newC (M : Mem) (k sz : Nat) : mJ (newC M k sz) (mN M) = fun _ => 0 := fu_self _ _ _
theorem mP_newC (M : Mem) (k sz : Nat) : mP (newC M k sz) (mN M) = fun _ => none := fu_self _ _ _
theorem WF_newC {M : Mem} (h : WF M) (k sz : Nat) : WF (newC M k sz) := by
  refine ⟨by show 61 ≤ mN M + 1; have := h.1; omega, fun a j r hr => ?_⟩
  have h9 : fu (mP M) (mN M) (fun _ => none) a j = some r := hr
  show r < mN M + 1
  by_cases e : a = mN M
  · subst e; rw [fu_self] at h9; cases h9
  · rw [fu_ne _ _ e] at h9
    have := h.2 a j r h9
    omega
theorem adOK_fu {G : GE} {ad : Nat → Nat} (h : adOK G ad) {n q : Nat} (hn : 61 ≤ n) : adOK G (fu ad n q) :=
  ⟨fun i hi => (fu_ne _ _ (by omega)).trans (h.1 i hi), fun i hi => (fu_ne _ _ (by omega)).trans (h.2.1 i hi), (fu_ne _ _ (by omega)).trans h.2.2⟩
theorem entO_obj {G : GE} {ad : Nat → Nat} {M : Mem} {a k : Nat} (hk : (mK M a).1 = k) (h : k < 13) : entO G ad M a = .inr (k, (List.range (stN k)).map (fun f => rv ad (fV M a k f))) := by
  subst hk; unfold entO; rw [if_pos h]
theorem entO_int {G : GE} {ad : Nat → Nat} {M : Mem} {a k : Nat} (hk : (mK M a).1 = k) (h : k = 20 ∨ k = 22) : entO G ad M a = .inl (gA G k, (mK M a).2, .inl (mI M a)) := by
  subst hk; unfold entO; rw [if_neg (by omega), if_neg (by omega), if_pos h]
theorem entO_long {G : GE} {ad : Nat → Nat} {M : Mem} {a : Nat} (hk : (mK M a).1 = 21) : entO G ad M a = .inl (gA G 21, (mK M a).2, .inr (.inl (mJ M a))) := by
  unfold entO; rw [if_neg (by omega), if_pos hk]
theorem entO_ref {G : GE} {ad : Nat → Nat} {M : Mem} {a k : Nat} (hk : (mK M a).1 = k) (h : 23 ≤ k) : entO G ad M a = .inl (gA G k, (mK M a).2, .inr (.inr (.inr (.inr (fun j => (mP M a j).map ad))))) := by
  subst hk; unfold entO; rw [if_neg (by omega), if_neg (by omega), if_neg (by omega)]
theorem inb_vp {i : Int32} {n : Nat} : inb i n ↔ vp_in i n := vp_in_iff.symm
-- locals
def isU : AV → Bool
  | .inr (.inr (.inr none)) => true
  | _ => false
def lpr (ad : Nat → Nat) : Nat → List AV → List (Nat × Value)
  | _, [] => []
  | i, v :: t => if isU v = true then lpr ad (i + 1) t else (i, rv ad v) :: lpr ad (i + 1) t
theorem lpr_mem {ad : Nat → Nat} : ∀ {ls : List AV} {i0 : Nat} {q : Nat × Value}, q ∈ lpr ad i0 ls ↔ ∃ j v, ls[j]? = some v ∧ isU v = false ∧ q = (i0 + j, rv ad v)
  | [], i0, q => by simp [lpr]
  | w :: t, i0, q => by
    have ih := lpr_mem (ad := ad) (ls := t) (i0 := i0 + 1) (q := q)
    constructor
    · intro h
      unfold lpr at h
      split at h
      · obtain ⟨j, v, h1, h2, h3⟩ := ih.mp h
        exact ⟨j + 1, v, h1, h2, by rw [h3]; congr 1; omega⟩
      · next hw =>
        rcases List.mem_cons.mp h with h | h
        · exact ⟨0, w, rfl, by simpa using hw, h⟩
        · obtain ⟨j, v, h1, h2, h3⟩ := ih.mp h
          exact ⟨j + 1, v, h1, h2, by rw [h3]; congr 1; omega⟩
    · rintro ⟨j, v, h1, h2, h3⟩
      unfold lpr
      cases j with
      | zero =>
        cases h1
        rw [if_neg (by rw [h2]; simp)]
        exact List.mem_cons.mpr (Or.inl h3)
      | succ j =>
        have hm : q ∈ lpr ad (i0 + 1) t := ih.mpr ⟨j, v, h1, h2, by rw [h3]; congr 1; omega⟩
        split
        · exact hm
        · exact List.mem_cons_of_mem _ hm
theorem lv_less {ls : Array Slot} {n : Nat} {l l' : List (Nat × Value)} (h : lv_has ls n l) (hl : ∀ q ∈ l', q ∈ l) : lv_has ls n l' := ⟨h.1, h.2.1, fun q hq => h.2.2 q (hl q hq)⟩
theorem lpr_congr {ad ad' : Nat → Nat} {n : Nat} (h : ∀ i, i < n → ad' i = ad i) : ∀ {ls : List AV} (i0 : Nat), (∀ v ∈ ls, okV n v) → lpr ad' i0 ls = lpr ad i0 ls
  | [], _, _ => rfl
  | w :: t, i0, hv => by
    unfold lpr
    rw [lpr_congr h (i0 + 1) (fun v hm => hv v (List.mem_cons_of_mem _ hm)), rv_congr h (hv w List.mem_cons_self)]
theorem lv_of {ad : Nat → Nat} {lsr : Array Slot} {n : Nat} {ls : List AV} {i : Nat} {v : AV} (h : lv_has lsr n (lpr ad 0 ls)) (hv : ls[i]? = some v) (hu : isU v = false) : lsr[i]? = some (.val (rv ad v)) :=
  h.2.2 (i, rv ad v) (lpr_mem.mpr ⟨i, v, hv, hu, by rw [Nat.zero_add]⟩)
theorem lg_some {ls : List AV} {i : Nat} {v : AV} (h : lg ls i = v) (hu : isU v = false) : ls[i]? = some v := by
  unfold lg at h
  cases e : ls[i]? with
  | none => rw [e] at h; subst h; cases hu
  | some w => rw [e] at h; exact congrArg some h
theorem ls1_len : ∀ (ls : List AV) (i : Nat) (v : AV), (ls1 ls i v).length = ls.length
  | [], _, _ => rfl
  | _ :: _, 0, _ => rfl
  | w :: t, n + 1, v => congrArg (· + 1) (ls1_len t n v)
theorem ls1_get : ∀ (ls : List AV) (i : Nat) (v : AV) (j : Nat) (w : AV), (ls1 ls i v)[j]? = some w → (j = i ∧ w = v) ∨ (j ≠ i ∧ j + 1 ≠ i ∧ ls[j]? = some w) ∨ (j + 1 = i ∧ ∃ w0, ls[j]? = some w0 ∧ w = ck w0)
  | [], i, v, j, w, h => by simp [ls1] at h
  | x :: t, 0, v, j, w, h => by
    cases j with
    | zero => exact Or.inl ⟨rfl, (Option.some.inj h).symm⟩
    | succ j => exact Or.inr (Or.inl ⟨by omega, by omega, h⟩)
  | x :: t, n + 1, v, j, w, h => by
    cases j with
    | zero =>
      have h9 : (if n = 0 then ck x else x) = w := Option.some.inj h
      by_cases e : n = 0
      · rw [if_pos e] at h9; exact Or.inr (Or.inr ⟨by omega, x, rfl, h9.symm⟩)
      · rw [if_neg e] at h9; subst h9; exact Or.inr (Or.inl ⟨by omega, by omega, rfl⟩)
    | succ j =>
      have h9 : (ls1 t n v)[j]? = some w := h
      rcases ls1_get t n v j w h9 with ⟨a, b⟩ | ⟨a, b, c⟩ | ⟨a, w0, b, c⟩
      · exact Or.inl ⟨by omega, b⟩
      · exact Or.inr (Or.inl ⟨by omega, by omega, c⟩)
      · exact Or.inr (Or.inr ⟨by omega, w0, b, c⟩)
theorem lu_get (t : List AV) (j : Nat) (w : AV) (h : (lu t)[j]? = some w) : (j = 0 ∧ w = aU) ∨ (j ≠ 0 ∧ t[j]? = some w) := by
  cases t with
  | nil => simp [lu] at h
  | cons x t =>
    cases j with
    | zero => exact Or.inl ⟨rfl, (Option.some.inj h).symm⟩
    | succ j => exact Or.inr ⟨by omega, h⟩
theorem lu_len (t : List AV) : (lu t).length = t.length := by cases t <;> rfl
theorem ls2_len : ∀ (ls : List AV) (i : Nat) (v : AV), (ls2 ls i v).length = ls.length
  | [], _, _ => rfl
  | _ :: t, 0, _ => congrArg (· + 1) (lu_len t)
  | w :: t, n + 1, v => congrArg (· + 1) (ls2_len t n v)
theorem ls2_get : ∀ (ls : List AV) (i : Nat) (v : AV) (j : Nat) (w : AV), (ls2 ls i v)[j]? = some w → (j = i ∧ w = v) ∨ (j = i + 1 ∧ w = aU) ∨ (j ≠ i ∧ j ≠ i + 1 ∧ j + 1 ≠ i ∧ ls[j]? = some w) ∨ (j + 1 = i ∧ ∃ w0, ls[j]? = some w0 ∧ w = ck w0)
  | [], i, v, j, w, h => by simp [ls2] at h
  | x :: t, 0, v, j, w, h => by
    cases j with
    | zero => exact Or.inl ⟨rfl, (Option.some.inj h).symm⟩
    | succ j =>
      have h9 : (lu t)[j]? = some w := h
      rcases lu_get t j w h9 with ⟨a, b⟩ | ⟨a, b⟩
      · exact Or.inr (Or.inl ⟨by omega, b⟩)
      · exact Or.inr (Or.inr (Or.inl ⟨by omega, by omega, by omega, b⟩))
  | x :: t, n + 1, v, j, w, h => by
    cases j with
    | zero =>
      have h9 : (if n = 0 then ck x else x) = w := Option.some.inj h
      by_cases e : n = 0
      · rw [if_pos e] at h9; exact Or.inr (Or.inr (Or.inr ⟨by omega, x, rfl, h9.symm⟩))
      · rw [if_neg e] at h9; subst h9; exact Or.inr (Or.inr (Or.inl ⟨by omega, by omega, by omega, rfl⟩))
    | succ j =>
      have h9 : (ls2 t n v)[j]? = some w := h
      rcases ls2_get t n v j w h9 with ⟨a, b⟩ | ⟨a, b⟩ | ⟨a, b, d, c⟩ | ⟨a, w0, b, c⟩
      · exact Or.inl ⟨by omega, b⟩
      · exact Or.inr (Or.inl ⟨by omega, b⟩)
      · exact Or.inr (Or.inr (Or.inl ⟨by omega, by omega, by omega, c⟩))
      · exact Or.inr (Or.inr (Or.inr ⟨by omega, w0, b, c⟩))
theorem ck_isU {w : AV} (h : isU (ck w) = false) : ck w = w ∧ ∀ ad : Nat → Nat, (rv ad w).category ≠ 2 := by
  rcases w with x | x | r | q
  · exact ⟨rfl, fun ad => by simp [rv, Value.category]⟩
  · cases h
  · cases r <;> exact ⟨rfl, fun ad => by simp [rv, Value.category]⟩
  · cases q with
    | none => cases h
    | some q => exact ⟨rfl, fun ad => by simp [rv, Value.category]⟩
/-- a variable of one word is stored -/
theorem lpr_ls1 {ad : Nat → Nat} {ls : List AV} {i : Nat} {v : AV} : ∀ q ∈ lpr ad 0 (ls1 ls i v), q ∈ (i, rv ad v) :: (lpr ad 0 ls).filter (fun q => !(q.1 == i) && !(q.1 + 1 == i && q.2.category == 2)) := by
  intro q hq
  obtain ⟨j, w, h1, h2, h3⟩ := lpr_mem.mp hq
  rw [Nat.zero_add] at h3
  rcases ls1_get ls i v j w h1 with ⟨a, b⟩ | ⟨a, b, c⟩ | ⟨a, w0, b, c⟩
  · subst a; subst b; rw [h3]; exact List.mem_cons_self
  · refine List.mem_cons_of_mem _ (List.mem_filter.mpr ⟨lpr_mem.mpr ⟨j, w, c, h2, by rw [h3, Nat.zero_add]⟩, ?_⟩)
    rw [h3]
    simp [a, b]
  · subst c
    obtain ⟨e, hc⟩ := ck_isU h2
    refine List.mem_cons_of_mem _ (List.mem_filter.mpr ⟨lpr_mem.mpr ⟨j, w0, b, by rw [← e]; exact h2, by rw [h3, Nat.zero_add, e]⟩, ?_⟩)
    rw [h3, e]
    have := hc ad
    simp [this]
    omega
theorem lpr_ls2 {ad : Nat → Nat} {ls : List AV} {i : Nat} {v : AV} : ∀ q ∈ lpr ad 0 (ls2 ls i v), q ∈ (i, rv ad v) :: (lpr ad 0 ls).filter (fun q => !(q.1 == i) && (!(q.1 == i + 1) && !(q.1 + 1 == i && q.2.category == 2))) := by
  intro q hq
  obtain ⟨j, w, h1, h2, h3⟩ := lpr_mem.mp hq
  rw [Nat.zero_add] at h3
  rcases ls2_get ls i v j w h1 with ⟨a, b⟩ | ⟨a, b⟩ | ⟨a, d, b, c⟩ | ⟨a, w0, b, c⟩
  · subst a; subst b; rw [h3]; exact List.mem_cons_self
  · subst b; cases h2
  · refine List.mem_cons_of_mem _ (List.mem_filter.mpr ⟨lpr_mem.mpr ⟨j, w, c, h2, by rw [h3, Nat.zero_add]⟩, ?_⟩)
    rw [h3]
    simp [a, b, d]
  · subst c
    obtain ⟨e, hc⟩ := ck_isU h2
    refine List.mem_cons_of_mem _ (List.mem_filter.mpr ⟨lpr_mem.mpr ⟨j, w0, b, by rw [← e]; exact h2, by rw [h3, Nat.zero_add, e]⟩, ?_⟩)
    rw [h3, e]
    have := hc ad
    simp [this]
    omega
theorem ok_ls1 {n : Nat} {ls : List AV} {i : Nat} {v : AV} (h : ∀ w ∈ ls, okV n w) (hv : okV n v) : ∀ w ∈ ls1 ls i v, okV n w := by
  intro w hw
  obtain ⟨j, hj⟩ := List.mem_iff_getElem?.mp hw
  rcases ls1_get ls i v j w hj with ⟨a, b⟩ | ⟨a, b, c⟩ | ⟨a, w0, b, c⟩
  · rw [b]; exact hv
  · exact h w (List.mem_of_getElem? c)
  · have := h w0 (List.mem_of_getElem? b)
    rw [c]
    rcases w0 with x | x | r | q <;> exact this
theorem ok_ls2 {n : Nat} {ls : List AV} {i : Nat} {v : AV} (h : ∀ w ∈ ls, okV n w) (hv : okV n v) : ∀ w ∈ ls2 ls i v, okV n w := by
  intro w hw
  obtain ⟨j, hj⟩ := List.mem_iff_getElem?.mp hw
  rcases ls2_get ls i v j w hj with ⟨a, b⟩ | ⟨a, b⟩ | ⟨a, d, b, c⟩ | ⟨a, w0, b, c⟩
  · rw [b]; exact hv
  · rw [b]; trivial
  · exact h w (List.mem_of_getElem? c)
  · have := h w0 (List.mem_of_getElem? b)
    rw [c]
    rcases w0 with x | x | r | q <;> exact this

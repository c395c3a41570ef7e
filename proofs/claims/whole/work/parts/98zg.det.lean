/-! Determinants as rows are worked out (mathematics alone). -/
section
def sl : List Nat → (Nat → Int) → Int
  | [], _ => 0
  | a :: l, f => f a + sl l f
theorem sl_congr {l : List Nat} {f g : Nat → Int} (h : ∀ a, a ∈ l → f a = g a) : sl l f = sl l g := by
  induction l with
  | nil => rfl
  | cons a l ih => 
    show f a + sl l f = g a + sl l g
    rw [h a List.mem_cons_self, ih (fun b hb => h b (List.mem_cons_of_mem _ hb))]
theorem sl_add {l : List Nat} {f g : Nat → Int} : sl l (fun a => f a + g a) = sl l f + sl l g := by
  induction l with
  | nil => rfl
  | cons a l ih => show f a + g a + sl l _ = f a + sl l f + (g a + sl l g); rw [ih]; omega
theorem sl_mul {l : List Nat} {f : Nat → Int} {c : Int} : sl l (fun a => c * f a) = c * sl l f := by
  induction l with
  | nil => exact (Int.mul_zero c).symm
  | cons a l ih => show c * f a + sl l _ = c * (f a + sl l f); rw [ih, Int.mul_add]
theorem sl_neg {l : List Nat} {f : Nat → Int} : sl l (fun a => - f a) = - sl l f := by
  induction l with
  | nil => rfl
  | cons a l ih => show - f a + sl l _ = - (f a + sl l f); rw [ih]; omega
theorem sl_zero {l : List Nat} {f : Nat → Int} (h : ∀ a, a ∈ l → f a = 0) : sl l f = 0 := by
  rw [sl_congr (g := fun _ => 0) h]
  induction l with
  | nil => rfl
  | cons a l ih => show 0 + sl l _ = 0; rw [ih (fun b hb => h b (List.mem_cons_of_mem _ hb))]; rfl
theorem sl_app {l m : List Nat} {f : Nat → Int} : sl (l ++ m) f = sl l f + sl m f := by
  induction l with
  | nil => show sl m f = 0 + sl m f; omega
  | cons a l ih => show f a + sl (l ++ m) f = f a + sl l f + sl m f; rw [ih]; omega
theorem sl_comm {l m : List Nat} {f : Nat → Nat → Int} : sl l (fun a => sl m (f a)) = sl m (fun b => sl l (fun a => f a b)) := by
  induction l with
  | nil => exact (sl_zero (fun _ _ => rfl)).symm
  | cons a l ih => show sl m (f a) + sl l _ = _; rw [ih, ← sl_add]; rfl
theorem sl_le {l : List Nat} {f g : Nat → Int} (h : ∀ a, a ∈ l → f a ≤ g a) : sl l f ≤ sl l g := by
  induction l with
  | nil => exact Int.le_refl _
  | cons a l ih => 
    have h1 := h a List.mem_cons_self
    have h2 := ih (fun b hb => h b (List.mem_cons_of_mem _ hb))
    show f a + sl l f ≤ g a + sl l g
    omega
theorem sl_nn {l : List Nat} {f : Nat → Int} (h : ∀ a, a ∈ l → 0 ≤ f a) : 0 ≤ sl l f := by
  have := sl_le (f := fun _ => 0) h
  rwa [sl_zero (fun _ _ => rfl)] at this
/-- one of a row without repetition -/
theorem sl_one {l : List Nat} {f : Nat → Int} {i : Nat} (hl : l.Nodup) (hi : i ∈ l) (h : ∀ a, a ∈ l → a ≠ i → f a = 0) : sl l f = f i := by
  induction l with
  | nil => cases hi
  | cons a l ih =>
    obtain ⟨h1, h2⟩ := List.nodup_cons.mp hl
    show f a + sl l f = f i
    by_cases e : a = i
    · subst e
      rw [sl_zero (fun b hb => h b (List.mem_cons_of_mem _ hb) (fun z => h1 (z ▸ hb)))]
      omega
    · rw [h a List.mem_cons_self e, ih h2 ((List.mem_cons.mp hi).resolve_left (fun z => e z.symm)) (fun b hb hne => h b (List.mem_cons_of_mem _ hb) hne)]
      omega
/-- one after the other is left out, with changing sign -/
def Ex {α : Type} (g : α → List α → Int) : List α → List α → Int
  | _, [] => 0
  | p, a :: l => g a (p ++ l) - Ex g (p ++ [a]) l
def Dt : List Nat → List (Nat → Int) → Int
  | _, [] => 1
  | idx, v :: vs => Ex (fun a r => v a * Dt r vs) [] idx
theorem Ex_lin {α : Type} {g h k : α → List α → Int} {c e : Int} : ∀ (l p : List α), (∀ a m, a ∈ l → m.length + 1 = p.length + l.length → (∀ b, b ∈ m → b ∈ p ∨ b ∈ l) → g a m = c * h a m + e * k a m) → Ex g p l = c * Ex h p l + e * Ex k p l
  | [], p, _ => by show (0 : Int) = c * 0 + e * 0; omega
  | a :: l, p, H => by
    show g a (p ++ l) - Ex g (p ++ [a]) l = c * (h a (p ++ l) - Ex h (p ++ [a]) l) + e * (k a (p ++ l) - Ex k (p ++ [a]) l)
    rw [H a (p ++ l) List.mem_cons_self (by simp; omega) (fun b hb => by
      rcases List.mem_append.mp hb with z | z
      · exact Or.inl z
      · exact Or.inr (List.mem_cons_of_mem _ z)), Ex_lin l (p ++ [a]) (fun b m hb hm hbm => H b m (List.mem_cons_of_mem _ hb) (by simp at hm ⊢; omega) (fun x hx => by
      rcases hbm x hx with z | z
      · rcases List.mem_append.mp z with y | y
        · exact Or.inl y
        · exact Or.inr (by rw [List.mem_singleton.mp y]; exact List.mem_cons_self)
      · exact Or.inr (List.mem_cons_of_mem _ z)))]
    generalize Ex h (p ++ [a]) l = u
    generalize Ex k (p ++ [a]) l = w
    grind
theorem Ex_zero {α : Type} {g : α → List α → Int} {l p : List α} (H : ∀ a m, a ∈ l → m.length + 1 = p.length + l.length → (∀ b, b ∈ m → b ∈ p ∨ b ∈ l) → g a m = 0) : Ex g p l = 0 := by
  have := Ex_lin (g := g) (h := g) (k := g) (c := 0) (e := 0) l p (fun a m h1 h2 h3 => by rw [H a m h1 h2 h3]; rfl)
  rw [this]; omega
theorem Ex_congr {α : Type} {g h : α → List α → Int} {l p : List α} (H : ∀ a m, a ∈ l → m.length + 1 = p.length + l.length → (∀ b, b ∈ m → b ∈ p ∨ b ∈ l) → g a m = h a m) : Ex g p l = Ex h p l := by
  have := Ex_lin (g := g) (h := h) (k := h) (c := 1) (e := 0) l p (fun a m h1 h2 h3 => by rw [H a m h1 h2 h3]; omega)
  rw [this]; omega
theorem Dt_cons {idx : List Nat} {v : Nat → Int} {vs : List (Nat → Int)} : Dt idx (v :: vs) = Ex (fun a r => v a * Dt r vs) [] idx := rfl
theorem Dt_sw : ∀ (vs : List (Nat → Int)) (p l : List Nat) (a b : Nat), vs.length = p.length + l.length + 2 → Dt (p ++ a :: b :: l) vs = - Dt (p ++ b :: a :: l) vs
  | [], p, l, a, b, h => by simp at h
  | v :: vs, p, l, a, b, h => by
    have ih := fun p l => Dt_sw vs p l a b
    have hn : vs.length + 1 = p.length + l.length + 2 := h
    -- behind both
    have B : ∀ (l p0 q : List Nat), vs.length = p0.length + q.length + l.length + 1 → Ex (fun c r => v c * Dt r vs) (p0 ++ a :: b :: q) l = - Ex (fun c r => v c * Dt r vs) (p0 ++ b :: a :: q) l := by
      intro l
      induction l with
      | nil => intro p0 q _; rfl
      | cons c l ihl =>
        intro p0 q hp
        have hp : vs.length = p0.length + q.length + (l.length + 1) + 1 := hp
        have e1 := ih p0 (q ++ l) (by rw [List.length_append]; omega)
        have e2 := ihl p0 (q ++ [c]) (by rw [List.length_append]; simp; omega)
        show v c * Dt (p0 ++ a :: b :: q ++ l) vs - Ex _ (p0 ++ a :: b :: q ++ [c]) l = - (v c * Dt (p0 ++ b :: a :: q ++ l) vs - Ex _ (p0 ++ b :: a :: q ++ [c]) l)
        rw [List.append_assoc, List.append_assoc, List.append_assoc, List.append_assoc]
        simp only [List.cons_append]
        rw [e1, e2]
        grind
    have A : ∀ (p p0 : List Nat), vs.length + 1 = p0.length + p.length + l.length + 2 → Ex (fun c r => v c * Dt r vs) p0 (p ++ a :: b :: l) = - Ex (fun c r => v c * Dt r vs) p0 (p ++ b :: a :: l) := by
      intro p
      induction p with
      | nil =>
        intro p0 hp
        have hp : vs.length + 1 = p0.length + 0 + l.length + 2 := hp
        have e := B l p0 [] (by simp; omega)
        show v a * Dt (p0 ++ b :: l) vs - (v b * Dt (p0 ++ [a] ++ l) vs - Ex _ (p0 ++ [a] ++ [b]) l) = - (v b * Dt (p0 ++ a :: l) vs - (v a * Dt (p0 ++ [b] ++ l) vs - Ex _ (p0 ++ [b] ++ [a]) l))
        rw [List.append_assoc, List.append_assoc, List.append_assoc, List.append_assoc]
        simp only [List.cons_append, List.nil_append]
        rw [e]
        omega
      | cons c p ihp =>
        intro p0 hp
        have hp : vs.length + 1 = p0.length + (p.length + 1) + l.length + 2 := hp
        have e1 := ih (p0 ++ p) l (by rw [List.length_append]; omega)
        have e2 := ihp (p0 ++ [c]) (by rw [List.length_append]; simp; omega)
        show v c * Dt (p0 ++ (p ++ a :: b :: l)) vs - Ex _ (p0 ++ [c]) (p ++ a :: b :: l) = - (v c * Dt (p0 ++ (p ++ b :: a :: l)) vs - Ex _ (p0 ++ [c]) (p ++ b :: a :: l))
        rw [← List.append_assoc, ← List.append_assoc, e1, e2]
        grind
    exact A p [] (by simp; omega)
/-- a column twice -/
theorem Dt_dup {vs : List (Nat → Int)} {p m l : List Nat} {a : Nat} (h : vs.length = p.length + m.length + l.length + 2) : Dt (p ++ a :: (m ++ a :: l)) vs = 0 := by
  induction m generalizing p with
  | nil =>
    have := Dt_sw vs p l a a (by simp at h; omega)
    show Dt (p ++ a :: a :: l) vs = 0
    omega
  | cons c m ih =>
    have h : vs.length = p.length + (m.length + 1) + l.length + 2 := h
    have e := Dt_sw vs p (m ++ a :: l) a c (by rw [List.length_append]; simp; omega)
    have := ih (p := p ++ [c]) (by rw [List.length_append]; simp; omega)
    rw [List.append_assoc] at this
    show Dt (p ++ a :: c :: (m ++ a :: l)) vs = 0
    rw [e, show p ++ c :: a :: (m ++ a :: l) = p ++ ([c] ++ a :: (m ++ a :: l)) from rfl, this]
    rfl
/-- a column moved to the front -/
def sg : Nat → Int
  | 0 => 1
  | n + 1 => - sg n
theorem Dt_front {vs : List (Nat → Int)} {l : List Nat} {a : Nat} : ∀ (p : List Nat), vs.length = p.length + l.length + 1 → ∀ p0 : List Nat, p0 = [] → Dt (p ++ a :: l) vs = sg p.length * Dt (a :: (p ++ l)) vs := by
  have key : ∀ (p : List Nat) (l : List Nat), vs.length = p.length + l.length + 1 → Dt (p.reverse ++ a :: l) vs = sg p.length * Dt (a :: (p.reverse ++ l)) vs := by
    intro p
    induction p with
    | nil => intro l _; show Dt (a :: l) vs = 1 * Dt (a :: l) vs; omega
    | cons c p ih =>
      intro l h
      have h : vs.length = (p.length + 1) + l.length + 1 := h
      have e := Dt_sw vs p.reverse l c a (by rw [List.length_reverse]; omega)
      have e2 := ih (c :: l) (by simp; omega)
      rw [List.reverse_cons, List.append_assoc, List.append_assoc]
      show Dt (p.reverse ++ c :: a :: l) vs = - sg p.length * Dt (a :: (p.reverse ++ c :: l)) vs
      rw [e, e2]
      grind
  intro p h _ _
  have := key p.reverse l (by rw [List.length_reverse]; exact h)
  rw [List.reverse_reverse, List.length_reverse] at this
  exact this
/-- a column that is put together of others -/
theorem Dt_lin : ∀ (vs : List (Nat → Int)) (p l : List Nat) (a : Nat) (t : Int) (J : List Nat) (x : Nat → Int), vs.length = p.length + l.length + 1 → (∀ v, v ∈ vs → t * v a = sl J (fun j => x j * v j)) → t * Dt (p ++ a :: l) vs = sl J (fun j => x j * Dt (p ++ j :: l) vs)
  | [], p, l, a, t, J, x, h, _ => by simp at h
  | v :: vs, p, l, a, t, J, x, h, H => by
    have hv := H v List.mem_cons_self
    have hn : vs.length + 1 = p.length + l.length + 1 := h
    have ih := fun p l hl => Dt_lin vs p l a t J x hl (fun w hw => H w (List.mem_cons_of_mem _ hw))
    -- behind it
    have B : ∀ (l p0 q : List Nat), vs.length = p0.length + q.length + l.length → t * Ex (fun c r => v c * Dt r vs) (p0 ++ a :: q) l = sl J (fun j => x j * Ex (fun c r => v c * Dt r vs) (p0 ++ j :: q) l) := by
      intro l
      induction l with
      | nil =>
        intro p0 q _
        show t * 0 = sl J (fun j => x j * 0)
        rw [sl_zero (fun j _ => Int.mul_zero _)]
        exact Int.mul_zero _
      | cons c l ihl =>
        intro p0 q hp
        have hp : vs.length = p0.length + q.length + (l.length + 1) := hp
        have e1 := ih p0 (q ++ l) (by rw [List.length_append]; omega)
        have e2 := ihl p0 (q ++ [c]) (by rw [List.length_append]; simp; omega)
        show t * (v c * Dt (p0 ++ a :: q ++ l) vs - Ex _ (p0 ++ a :: q ++ [c]) l) = sl J (fun j => x j * (v c * Dt (p0 ++ j :: q ++ l) vs - Ex _ (p0 ++ j :: q ++ [c]) l))
        simp only [List.append_assoc, List.cons_append]
        rw [Int.mul_sub, show t * (v c * Dt (p0 ++ a :: (q ++ l)) vs) = v c * (t * Dt (p0 ++ a :: (q ++ l)) vs) by grind, e1, e2, ← sl_mul, Int.sub_eq_add_neg, ← sl_neg, ← sl_add]
        exact sl_congr (fun j _ => by grind)
    have A : ∀ (p p0 : List Nat), vs.length = p0.length + p.length + l.length → t * Ex (fun c r => v c * Dt r vs) p0 (p ++ a :: l) = sl J (fun j => x j * Ex (fun c r => v c * Dt r vs) p0 (p ++ j :: l)) := by
      intro p
      induction p with
      | nil =>
        intro p0 hp
        have hp : vs.length = p0.length + 0 + l.length := hp
        have e := B l p0 [] (by simp; omega)
        show t * (v a * Dt (p0 ++ l) vs - Ex _ (p0 ++ [a]) l) = sl J (fun j => x j * (v j * Dt (p0 ++ l) vs - Ex _ (p0 ++ [j]) l))
        rw [Int.mul_sub, e, show t * (v a * Dt (p0 ++ l) vs) = Dt (p0 ++ l) vs * (t * v a) by grind, hv, ← sl_mul, Int.sub_eq_add_neg, ← sl_neg, ← sl_add]
        exact sl_congr (fun j _ => by grind)
      | cons c p ihp =>
        intro p0 hp
        have hp : vs.length = p0.length + (p.length + 1) + l.length := hp
        have e1 := ih (p0 ++ p) l (by rw [List.length_append]; omega)
        have e2 := ihp (p0 ++ [c]) (by rw [List.length_append]; simp; omega)
        show t * (v c * Dt (p0 ++ (p ++ a :: l)) vs - Ex _ (p0 ++ [c]) (p ++ a :: l)) = sl J (fun j => x j * (v c * Dt (p0 ++ (p ++ j :: l)) vs - Ex _ (p0 ++ [c]) (p ++ j :: l)))
        simp only [← List.append_assoc]
        rw [Int.mul_sub, show t * (v c * Dt ((p0 ++ p) ++ a :: l) vs) = v c * (t * Dt ((p0 ++ p) ++ a :: l) vs) by grind, e1, e2, ← sl_mul, Int.sub_eq_add_neg, ← sl_neg, ← sl_add]
        exact sl_congr (fun j _ => by grind)
    exact A p [] (by simp; omega)
theorem Ex_map {g : Nat → List Nat → Int} {σ : Nat → Nat} : ∀ (l p : List Nat), Ex g (p.map σ) (l.map σ) = Ex (fun a r => g (σ a) (r.map σ)) p l
  | [], p => rfl
  | a :: l, p => by
    have e := Ex_map (g := g) (σ := σ) l (p ++ [a])
    rw [List.map_append] at e
    show g (σ a) (p.map σ ++ l.map σ) - Ex g (p.map σ ++ [σ a]) (l.map σ) = g (σ a) ((p ++ l).map σ) - Ex _ (p ++ [a]) l
    rw [List.map_append, ← e]
    rfl
theorem Dt_map {σ : Nat → Nat} : ∀ (vs : List (Nat → Int)) (l : List Nat), Dt (l.map σ) vs = Dt l (vs.map fun v j => v (σ j))
  | [], _ => rfl
  | v :: vs, l => by
    have e := Ex_map (g := fun a r => v a * Dt r vs) (σ := σ) l []
    show Ex (fun a r => v a * Dt r vs) (([] : List Nat).map σ) (l.map σ) = Ex (fun a r => v (σ a) * Dt r (vs.map fun v j => v (σ j))) [] l
    rw [e]
    refine Ex_congr (fun a m _ _ _ => ?_)
    show v (σ a) * Dt (m.map σ) vs = _
    rw [Dt_map vs m]
theorem Dt_congr {f h : (Nat → Int) → Nat → Int} : ∀ (vs : List (Nat → Int)) (l : List Nat), (∀ v, v ∈ vs → ∀ j, j ∈ l → f v j = h v j) → Dt l (vs.map f) = Dt l (vs.map h)
  | [], _, _ => rfl
  | v :: vs, l, H => by
    show Ex (fun a r => f v a * Dt r (vs.map f)) [] l = Ex (fun a r => h v a * Dt r (vs.map h)) [] l
    refine Ex_congr (fun a m ha _ hm => ?_)
    show f v a * Dt m (vs.map f) = h v a * Dt m (vs.map h)
    rw [H v List.mem_cons_self a ha, Dt_congr vs m (fun w hw j hj => H w (List.mem_cons_of_mem _ hw) j ((hm j hj).resolve_left (fun z => by cases z)))]
theorem Dt_congr2 {α : Type} {f h : α → Nat → Int} : ∀ (vs : List α) (l : List Nat), (∀ v, v ∈ vs → ∀ j, j ∈ l → f v j = h v j) → Dt l (vs.map f) = Dt l (vs.map h)
  | [], _, _ => rfl
  | v :: vs, l, H => by
    show Ex (fun a r => f v a * Dt r (vs.map f)) [] l = Ex (fun a r => h v a * Dt r (vs.map h)) [] l
    refine Ex_congr (fun a m ha _ hm => ?_)
    show f v a * Dt m (vs.map f) = h v a * Dt m (vs.map h)
    rw [H v List.mem_cons_self a ha, Dt_congr2 vs m (fun w hw j hj => H w (List.mem_cons_of_mem _ hw) j ((hm j hj).resolve_left (fun z => by cases z)))]
/-- along the first column -/
theorem Ex_Ex {α β : Type} {g : α → List α → β → List β → Int} : ∀ (l p : List α) (m q : List β), Ex (fun a r => Ex (fun b s => g a r b s) q m) p l = Ex (fun b s => Ex (fun a r => g a r b s) p l) q m
  | [], p, m, q => by
    show 0 = Ex (fun b s => 0) q m
    rw [Ex_zero (fun _ _ _ _ _ => rfl)]
  | a :: l, p, m, q => by
    show Ex (fun b s => g a (p ++ l) b s) q m - Ex (fun a r => Ex (fun b s => g a r b s) q m) (p ++ [a]) l = Ex (fun b s => g a (p ++ l) b s - Ex (fun a r => g a r b s) (p ++ [a]) l) q m
    rw [Ex_Ex l (p ++ [a]) m q]
    have := Ex_lin (g := fun b s => g a (p ++ l) b s - Ex (fun a r => g a r b s) (p ++ [a]) l) (h := fun b s => g a (p ++ l) b s) (k := fun b s => Ex (fun a r => g a r b s) (p ++ [a]) l) (c := 1) (e := -1) m q (fun b s _ _ _ => by omega)
    rw [this]; omega
theorem Ex_pre {α : Type} {g : α → List α → Int} {c : α} : ∀ (l p : List α), Ex g (c :: p) l = Ex (fun a r => g a (c :: r)) p l
  | [], _ => rfl
  | a :: l, p => by
    show g a (c :: p ++ l) - Ex g (c :: p ++ [a]) l = g a (c :: (p ++ l)) - Ex _ (p ++ [a]) l
    rw [← Ex_pre l (p ++ [a])]
    rfl
theorem Ex_mul {α : Type} {g : α → List α → Int} {c : Int} {l p : List α} : Ex (fun a r => c * g a r) p l = c * Ex g p l := by
  have := Ex_lin (g := fun a r => c * g a r) (h := g) (k := g) (c := c) (e := 0) l p (fun a m _ _ _ => by omega)
  rw [this]; omega
theorem Dt_col : ∀ (vs : List (Nat → Int)) (l : List Nat) (a : Nat), vs.length = l.length + 1 → Dt (a :: l) vs = Ex (fun (v : Nat → Int) r => v a * Dt l r) [] vs
  | [], l, a, h => by simp at h
  | v :: vs, l, a, h => by
    have hn : vs.length = l.length := by simp at h; exact h
    show v a * Dt l vs - Ex (fun c r => v c * Dt r vs) [a] l = v a * Dt l vs - Ex (fun (w : Nat → Int) r => w a * Dt l r) [v] vs
    congr 1
    rw [Ex_pre l [], Ex_pre vs []]
    match vs, hn with
    | [], hn =>
      have : l = [] := List.eq_nil_of_length_eq_zero hn.symm
      subst this
      rfl
    | w :: ws, hn =>
      have e : Ex (fun c r => v c * Dt (a :: r) (w :: ws)) [] l = Ex (fun c r => Ex (fun (w : Nat → Int) s => v c * (w a * Dt r s)) [] (w :: ws)) [] l := by
        refine Ex_congr (fun c r hc hr _ => ?_)
        rw [Dt_col (w :: ws) r a (by simp at hr; rw [hn]; omega), ← Ex_mul]
      rw [e, Ex_Ex]
      refine Ex_congr (fun x r _ _ _ => ?_)
      show Ex (fun c r_1 => v c * (x a * Dt r_1 r)) [] l = x a * Ex (fun c s => v c * Dt s r) [] l
      rw [← Ex_mul]
      refine Ex_congr (fun c s _ _ _ => ?_)
      grind
  termination_by vs => vs.length
end

/-! All instructions together: the weakest precondition holds of the machine (printed by wip/whole/gen/assemble.py). -/
theorem xc_mem {k pc : Nat} {x : XI} (h : xc k pc = some x) : k < 255 ∧ (pc, x) ∈ ((xTs[k]?).getD []) := by
  have hk := (okXc h).1
  unfold xc at h
  obtain ⟨q, hq, rfl⟩ := Option.map_eq_some_iff.mp h
  have hm := List.mem_of_find?_eq_some hq
  have hp := List.find?_some hq
  simp only [beq_iff_eq] at hp
  subst hp
  exact ⟨hk, hm⟩
theorem xc_Y {k pc : Nat} {x : XI} (h : xc k pc = some x) : okY k (pc, x) = true := List.all_eq_true.mp (List.all_eq_true.mp okYall k (List.mem_range.mpr (xc_mem h).1)) _ (xc_mem h).2
theorem xc_Z {k pc : Nat} {x : XI} (h : xc k pc = some x) : okZ (pc, x) = true := List.all_eq_true.mp (List.all_eq_true.mp okZall k (List.mem_range.mpr (xc_mem h).1)) _ (xc_mem h).2
theorem eI_of {v : AV} {f : Int32 → Prop} (h : eI v f) : ∃ x, v = aI x ∧ f x := by rcases v with x | x | r | q <;> first | exact ⟨_, rfl, h⟩ | exact False.elim h
theorem eJ_of {v : AV} {f : Int64 → Prop} (h : eJ v f) : ∃ x, v = aL x ∧ f x := by rcases v with x | x | r | q <;> first | exact ⟨_, rfl, h⟩ | exact False.elim h
theorem eA_of {v : AV} {f : AV → Prop} (h : eA v f) : (v = aR none ∨ (∃ a, v = aR (some a)) ∨ ∃ q, v = aX q) ∧ f v := by
  rcases v with x | x | r | q
  · exact False.elim h
  · exact False.elim h
  · cases r with
    | none => exact ⟨Or.inl rfl, h⟩
    | some a => exact ⟨Or.inr (Or.inl ⟨a, rfl⟩), h⟩
  · cases q with
    | none => exact False.elim h
    | some q => exact ⟨Or.inr (Or.inr ⟨q, rfl⟩), h⟩
theorem pI_of {st : List AV} {f : Int32 → List AV → Prop} (h : pI st f) : ∃ x t, st = aI x :: t ∧ f x t := by
  rcases st with _ | ⟨v, t⟩
  · exact False.elim h
  · rcases v with x | x | r | q <;> first | exact ⟨_, _, rfl, h⟩ | exact False.elim h
theorem pJ_of {st : List AV} {f : Int64 → List AV → Prop} (h : pJ st f) : ∃ x t, st = aL x :: t ∧ f x t := by
  rcases st with _ | ⟨v, t⟩
  · exact False.elim h
  · rcases v with x | x | r | q <;> first | exact ⟨_, _, rfl, h⟩ | exact False.elim h
theorem pR_of {st : List AV} {f : Option Nat → List AV → Prop} (h : pR st f) : ∃ x t, st = aR x :: t ∧ f x t := by
  rcases st with _ | ⟨v, t⟩
  · exact False.elim h
  · rcases v with x | x | r | q <;> first | exact ⟨_, _, rfl, h⟩ | exact False.elim h
theorem pII_of {st : List AV} {f : Int32 → Int32 → List AV → Prop} (h : pII st f) : ∃ x y t, st = aI y :: aI x :: t ∧ f x y t := by
  rcases st with _ | ⟨v, _ | ⟨w, t⟩⟩
  · exact False.elim h
  · rcases v with x | x | r | q <;> exact False.elim h
  · rcases v with x | x | r | q <;> rcases w with y | y | r' | q' <;> first | exact ⟨_, _, _, rfl, h⟩ | exact False.elim h
theorem pJJ_of {st : List AV} {f : Int64 → Int64 → List AV → Prop} (h : pJJ st f) : ∃ x y t, st = aL y :: aL x :: t ∧ f x y t := by
  rcases st with _ | ⟨v, _ | ⟨w, t⟩⟩
  · exact False.elim h
  · rcases v with x | x | r | q <;> exact False.elim h
  · rcases v with x | x | r | q <;> rcases w with y | y | r' | q' <;> first | exact ⟨_, _, _, rfl, h⟩ | exact False.elim h
theorem pJI_of {st : List AV} {f : Int64 → Int32 → List AV → Prop} (h : pJI st f) : ∃ x y t, st = aI y :: aL x :: t ∧ f x y t := by
  rcases st with _ | ⟨v, _ | ⟨w, t⟩⟩
  · exact False.elim h
  · rcases v with x | x | r | q <;> exact False.elim h
  · rcases v with x | x | r | q <;> rcases w with y | y | r' | q' <;> first | exact ⟨_, _, _, rfl, h⟩ | exact False.elim h
theorem pA_of {st : List AV} {f : AV → List AV → Prop} (h : pA st f) : ∃ v t, st = v :: t ∧ (v = aR none ∨ (∃ a, v = aR (some a)) ∨ ∃ q, v = aX q) ∧ f v t := by
  rcases st with _ | ⟨v, t⟩
  · exact False.elim h
  · rcases v with x | x | r | q
    · exact False.elim h
    · exact False.elim h
    · cases r with
      | none => exact ⟨_, _, rfl, Or.inl rfl, h⟩
      | some a => exact ⟨_, _, rfl, Or.inr (Or.inl ⟨a, rfl⟩), h⟩
    · cases q with
      | none => exact False.elim h
      | some q => exact ⟨_, _, rfl, Or.inr (Or.inr ⟨q, rfl⟩), h⟩
theorem pO_of {st : List AV} {f : Nat → List AV → Prop} (h : pO st f) : ∃ a t, st = aR (some a) :: t ∧ f a t := by
  rcases st with _ | ⟨v, t⟩
  · exact False.elim h
  · rcases v with x | x | (_ | a) | q <;> first | exact ⟨_, _, rfl, h⟩ | exact False.elim h
theorem pIO_of {st : List AV} {f : Nat → Int32 → List AV → Prop} (h : pIO st f) : ∃ a i t, st = aI i :: aR (some a) :: t ∧ f a i t := by
  rcases st with _ | ⟨v, _ | ⟨w, t⟩⟩
  · exact False.elim h
  · rcases v with x | x | r | q <;> exact False.elim h
  · rcases v with x | x | r | q <;> rcases w with y | y | (_ | a) | q' <;> first | exact ⟨_, _, _, rfl, h⟩ | exact False.elim h
theorem pVIO_of {st : List AV} {f : Nat → Int32 → AV → List AV → Prop} (h : pVIO st f) : ∃ a i v t, st = v :: aI i :: aR (some a) :: t ∧ f a i v t := by
  rcases st with _ | ⟨u, _ | ⟨v, _ | ⟨w, t⟩⟩⟩
  · exact False.elim h
  · exact False.elim h
  · rcases v with x | x | r | q <;> exact False.elim h
  · rcases v with x | x | r | q <;> rcases w with y | y | (_ | a) | q' <;> first | exact ⟨_, _, _, _, rfl, h⟩ | exact False.elim h
theorem pVO_of {st : List AV} {f : Nat → AV → List AV → Prop} (h : pVO st f) : ∃ a v t, st = v :: aR (some a) :: t ∧ f a v t := by
  rcases st with _ | ⟨u, _ | ⟨w, t⟩⟩
  · exact False.elim h
  · exact False.elim h
  · rcases w with y | y | (_ | a) | q' <;> first | exact ⟨_, _, _, rfl, h⟩ | exact False.elim h
theorem pV_of {st : List AV} {f : AV → List AV → Prop} (h : pV st f) : ∃ v t, st = v :: t ∧ c1 v ∧ f v t := by
  rcases st with _ | ⟨v, t⟩
  · exact False.elim h
  · exact ⟨_, _, rfl, h⟩
theorem pVV_of {st : List AV} {f : AV → AV → List AV → Prop} (h : pVV st f) : ∃ v w t, st = v :: w :: t ∧ c1 v ∧ c1 w ∧ f v w t := by
  rcases st with _ | ⟨v, _ | ⟨w, t⟩⟩
  · exact False.elim h
  · exact False.elim h
  · exact ⟨_, _, _, rfl, h⟩
def WCo (G : GE) (d k : Nat) (qr : QR) (qx : QX) : WC := (Ev G d, qr, qx, Go G d k qr qx, gLn G, gx G)
theorem fL_any {o i r1 : Nat} {r2 : Int} (h : (fL.any fun q => q.1 == o && q.2.1 == i && q.2.2.1 == r1 && (q.2.2.2.1 : Int) == r2) = true) : ∃ pl, (o, i, r1, r2.toNat, pl) ∈ fL := by
  obtain ⟨⟨o', i', ci, f, pl⟩, hq, hb⟩ := List.any_eq_true.mp h
  simp only [Bool.and_eq_true, beq_iff_eq] at hb
  obtain ⟨⟨⟨rfl, rfl⟩, rfl⟩, e⟩ := hb
  exact ⟨pl, by rw [← e]; exact hq⟩
section
variable {G : GE} {d k : Nat} {qr : QR} {qx : QX} {pc : Nat} {ls st : List AV} {M : Mem} {b : Nat} {nx : Nat → List AV → List AV → Mem → Nat → Prop} {len r1 : Nat} {r2 : Int}
abbrev NX (G : GE) (d k : Nat) (qr : QR) (qx : QX) (nx : Nat → List AV → List AV → Mem → Nat → Prop) : Prop := ∀ pc' ls' st' M' b', nx pc' ls' st' M' b' → Go G d k qr qx pc' ls' st' M' b'
/-- what is at hand of an instruction -/
theorem xfacts {i : Instr} (h : xc k pc = some (i, len, r1, r2)) : k < 255 ∧ decode (mB k) pc = .ok (i, len) ∧ okX k pc (i, len, r1, r2) = true := okXc h
theorem kL_any {o i : Nat} {z : Int} (h : (kL_.any fun q => q.1 == o && q.2.1 == i && q.2.2.1 == z) = true) : Jvm.Cond.constant (cN o) i (iZ z) ∈ gT ∧ True := by
  obtain ⟨⟨o', i', z', pl⟩, hq, hb⟩ := List.any_eq_true.mp h
  simp only [Bool.and_eq_true, beq_iff_eq] at hb
  obtain ⟨⟨rfl, rfl⟩, rfl⟩ := hb
  exact ⟨gT_of (of_decide_eq_true (List.all_eq_true.mp kL_ok _ hq)) rfl, trivial⟩
theorem jL_any {o i : Nat} {z : Int} (h : (jL_.any fun q => q.1 == o && q.2.1 == i && q.2.2.1 == z) = true) : Jvm.Cond.constantLong (cN o) i (jZ z) ∈ gT := by
  obtain ⟨⟨o', i', z', pl⟩, hq, hb⟩ := List.any_eq_true.mp h
  simp only [Bool.and_eq_true, beq_iff_eq] at hb
  obtain ⟨⟨rfl, rfl⟩, rfl⟩ := hb
  exact gT_of (of_decide_eq_true (List.all_eq_true.mp jL_ok _ hq)) rfl
theorem swt_mono {x : Int32} {f g : Nat → Prop} {pc : Nat} (hfg : ∀ p, f p → g p) : ∀ {lo : Int} {l : List Int}, swt x f pc lo l → swt x g pc lo l
  | _, [], _ => trivial
  | lo, o :: t, h => ⟨fun e => hfg _ (h.1 e), swt_mono hfg h.2⟩
theorem putV_mono {M : Mem} {a ci f : Nat} {v : AV} {p q : Mem → Prop} (hpq : ∀ M', p M' → q M') (h : putV M a ci f v p) : putV M a ci f v q := by
  unfold putV at h ⊢
  split at h
  · next e => rw [if_pos e]; rcases v with x | x | r | z <;> first | exact hpq _ h | exact False.elim h
  · next e =>
    rw [if_neg e]
    split at h
    · next e2 => rw [if_pos e2]; rcases v with x | x | r | z <;> first | exact hpq _ h | exact False.elim h
    · next e2 =>
      rw [if_neg e2]
      split at h
      · next e3 => rw [if_pos e3]; rcases v with x | x | r | z <;> first | exact ⟨h.1, hpq _ h.2⟩ | exact False.elim h
      · next e3 =>
        rw [if_neg e3]
        split at h
        · next e4 => rw [if_pos e4]; rcases v with x | x | r | z <;> first | exact hpq _ h | exact False.elim h
        · exact False.elim h
theorem okZ_of {j : Nat} {z : Int} (h : (!(decide (j < 1000)) || decide (z = (((mPn[j]?).getD 0 : Nat) : Int))) = true) (hj : j < 1000) : z.toNat = (mPn[j]?).getD 0 := by
  rw [decide_eq_true hj, Bool.not_true, Bool.false_or] at h
  have := of_decide_eq_true h
  omega
theorem mL_lt9 : (mL_.all fun q => decide (q.2.2.1 < 254) && (!(q.2.2.2.1 == 2) || decide (q.2.2.1 < 233))) = true := by decide +kernel
theorem mL_lt {o i j kd p1 p2 p3 : Nat} (h : (o, i, j, kd, p1, p2, p3) ∈ mL_) : j < 254 ∧ (kd = 2 → j < 233) := by
  have h1 := List.all_eq_true.mp mL_lt9 _ h
  simp only [Bool.and_eq_true, decide_eq_true_eq, Bool.or_eq_true, Bool.not_eq_true', beq_eq_false_iff_ne] at h1
  exact ⟨h1.1, fun e => h1.2.resolve_left (fun q => q e)⟩
def noH (k : Nat) : Bool := decide (mH k = [])
theorem st_noH : ((List.range 255).all fun k => noH k || ((xTs[k]?).getD []).all (fun q => match q.2.1 with | .invokestatic _ => false | .invokespecial _ => false | _ => true)) = true := by decide +kernel
theorem ct_tab : ((mL_.all fun q => !(q.2.2.2.1 == 1) || (decide (q.2.2.1 < 233) && decide (mR q.2.2.1 = none))) && nL_.all fun q => decide (q.2.2.1 < 233) && decide (mR q.2.2.1 = none)) = true := by decide +kernel
theorem noH_of {x : XI} (hxc : xc k pc = some x) (hs : match x.1 with | .invokestatic _ => True | .invokespecial _ => True | _ => False) : mH k = [] := by
  have h1 := List.all_eq_true.mp st_noH k (List.mem_range.mpr (xc_mem hxc).1)
  rw [Bool.or_eq_true] at h1
  rcases h1 with h1 | h1
  · exact of_decide_eq_true h1
  · have h2 := List.all_eq_true.mp h1 _ (xc_mem hxc).2
    obtain ⟨ins, y⟩ := x
    cases ins <;> first | exact False.elim hs | (simp at h2)
theorem ctor_lt {i j : Nat} (h : (∃ p1 p2 p3, (mO k, i, j, 1, p1, p2, p3) ∈ mL_) ∨ ∃ p1 p2, (mO k, i, j, p1, p2) ∈ nL_) : j < 233 ∧ mR j = none := by
  have h9 := ct_tab
  rw [Bool.and_eq_true] at h9
  rcases h with ⟨p1, p2, p3, h⟩ | ⟨p1, p2, h⟩
  · have h1 := List.all_eq_true.mp h9.1 _ h
    simp only [Bool.and_eq_true, decide_eq_true_eq, Bool.or_eq_true, Bool.not_eq_true', beq_eq_false_iff_ne, ne_eq, not_true_eq_false, false_or] at h1
    exact h1
  · have h1 := List.all_eq_true.mp h9.2 _ h
    simp only [Bool.and_eq_true, decide_eq_true_eq] at h1
    exact h1
theorem stp_static {C : WC} {x : XI} {i : Nat} (e0 : x.1 = .invokestatic i) (e : ¬ x1 x = 1001) (h : stp C k nx pc x ls st M b) : x1 x < 1000 ∧ (x2 x).toNat ≤ st.length ∧ stW (st.drop (x2 x).toNat) ≤ 8 ∧ CALL C (x1 x) (tk (x2 x).toNat st) M b (fun r M' b' => match r with | none => nx (pc + 3) ls (st.drop (x2 x).toNat) M' b' | some v => nx (pc + 3) ls (v :: st.drop (x2 x).toNat) M' b') (fun e M' => cX C e M') := by
  obtain ⟨ins, y⟩ := x
  cases e0
  have h : if x1 (.invokestatic i, y) = 1001 then _ else _ := h
  rw [if_neg e] at h
  exact h
theorem stp_special {C : WC} {x : XI} {i : Nat} (e0 : x.1 = .invokespecial i) (e : ¬ x1 x = 1000) (h : stp C k nx pc x ls st M b) : x1 x < 1000 ∧ (x2 x).toNat + 1 ≤ st.length ∧ stW (st.drop ((x2 x).toNat + 1)) ≤ 8 ∧ (∃ a, st[(x2 x).toNat]? = some (aR (some a))) ∧ CALL C (x1 x) (tk ((x2 x).toNat + 1) st) M b (fun r M' b' => match r with | none => nx (pc + 3) ls (st.drop ((x2 x).toNat + 1)) M' b' | some v => nx (pc + 3) ls (v :: st.drop ((x2 x).toNat + 1)) M' b') (fun e M' => cX C e M') := by
  obtain ⟨ins, y⟩ := x
  cases e0
  have h : if x1 (.invokespecial i, y) = 1000 then _ else _ := h
  rw [if_neg e] at h
  exact h
theorem acp_of {st : List AV} {f : Int32 → Int32 → Nat → Int32 → Nat → List AV → Prop} (h : match st with
      | .inl n :: .inl dp :: .inr (.inr (.inl (some a))) :: .inl sp :: .inr (.inr (.inl (some a0))) :: t => f n dp a sp a0 t
      | _ => False) : ∃ n dp a sp a0 t, st = aI n :: aI dp :: aR (some a) :: aI sp :: aR (some a0) :: t ∧ f n dp a sp a0 t := by
  split at h
  · exact ⟨_, _, _, _, _, _, rfl, h⟩
  · exact False.elim h
theorem stp_go {x : XI} (hxc : xc k pc = some x) (hnx : NX G d k qr qx nx) (h : stp (WCo G d k qr qx) k nx pc x ls st M b) : Go G d k qr qx pc ls st M b := by
  obtain ⟨ins, len, r1, r2⟩ := x
  obtain ⟨hk, hd, ho⟩ := xfacts hxc
  cases ins with
  | aconst_null =>
    have e : len = 1 := beq_iff_eq.mp ho; subst e
    exact g_aconst_null hd (hnx _ _ _ _ _ h)
  | iadd =>
    have e : len = 1 := beq_iff_eq.mp ho; subst e
    obtain ⟨x, y, t, rfl, h⟩ := pII_of h
    exact g_iadd hd (hnx _ _ _ _ _ h)
  | isub =>
    have e : len = 1 := beq_iff_eq.mp ho; subst e
    obtain ⟨x, y, t, rfl, h⟩ := pII_of h
    exact g_isub hd (hnx _ _ _ _ _ h)
  | imul =>
    have e : len = 1 := beq_iff_eq.mp ho; subst e
    obtain ⟨x, y, t, rfl, h⟩ := pII_of h
    exact g_imul hd (hnx _ _ _ _ _ h)
  | ishl =>
    have e : len = 1 := beq_iff_eq.mp ho; subst e
    obtain ⟨x, y, t, rfl, h⟩ := pII_of h
    exact g_ishl hd (hnx _ _ _ _ _ h)
  | ishr =>
    have e : len = 1 := beq_iff_eq.mp ho; subst e
    obtain ⟨x, y, t, rfl, h⟩ := pII_of h
    exact g_ishr hd (hnx _ _ _ _ _ h)
  | iushr =>
    have e : len = 1 := beq_iff_eq.mp ho; subst e
    obtain ⟨x, y, t, rfl, h⟩ := pII_of h
    exact g_iushr hd (hnx _ _ _ _ _ h)
  | iand =>
    have e : len = 1 := beq_iff_eq.mp ho; subst e
    obtain ⟨x, y, t, rfl, h⟩ := pII_of h
    exact g_iand hd (hnx _ _ _ _ _ h)
  | ior =>
    have e : len = 1 := beq_iff_eq.mp ho; subst e
    obtain ⟨x, y, t, rfl, h⟩ := pII_of h
    exact g_ior hd (hnx _ _ _ _ _ h)
  | ixor =>
    have e : len = 1 := beq_iff_eq.mp ho; subst e
    obtain ⟨x, y, t, rfl, h⟩ := pII_of h
    exact g_ixor hd (hnx _ _ _ _ _ h)
  | ladd =>
    have e : len = 1 := beq_iff_eq.mp ho; subst e
    obtain ⟨x, y, t, rfl, h⟩ := pJJ_of h
    exact g_ladd hd (hnx _ _ _ _ _ h)
  | lsub =>
    have e : len = 1 := beq_iff_eq.mp ho; subst e
    obtain ⟨x, y, t, rfl, h⟩ := pJJ_of h
    exact g_lsub hd (hnx _ _ _ _ _ h)
  | lmul =>
    have e : len = 1 := beq_iff_eq.mp ho; subst e
    obtain ⟨x, y, t, rfl, h⟩ := pJJ_of h
    exact g_lmul hd (hnx _ _ _ _ _ h)
  | land =>
    have e : len = 1 := beq_iff_eq.mp ho; subst e
    obtain ⟨x, y, t, rfl, h⟩ := pJJ_of h
    exact g_land hd (hnx _ _ _ _ _ h)
  | lor =>
    have e : len = 1 := beq_iff_eq.mp ho; subst e
    obtain ⟨x, y, t, rfl, h⟩ := pJJ_of h
    exact g_lor hd (hnx _ _ _ _ _ h)
  | lxor =>
    have e : len = 1 := beq_iff_eq.mp ho; subst e
    obtain ⟨x, y, t, rfl, h⟩ := pJJ_of h
    exact g_lxor hd (hnx _ _ _ _ _ h)
  | lcmp =>
    have e : len = 1 := beq_iff_eq.mp ho; subst e
    obtain ⟨x, y, t, rfl, h⟩ := pJJ_of h
    exact g_lcmp hd (hnx _ _ _ _ _ h)
  | idiv =>
    have e : len = 1 := beq_iff_eq.mp ho; subst e
    obtain ⟨x, y, t, rfl, hne, h⟩ := pII_of h
    exact g_idiv hd hne (hnx _ _ _ _ _ h)
  | irem =>
    have e : len = 1 := beq_iff_eq.mp ho; subst e
    obtain ⟨x, y, t, rfl, hne, h⟩ := pII_of h
    exact g_irem hd hne (hnx _ _ _ _ _ h)
  | ldiv =>
    have e : len = 1 := beq_iff_eq.mp ho; subst e
    obtain ⟨x, y, t, rfl, hne, h⟩ := pJJ_of h
    exact g_ldiv hd hne (hnx _ _ _ _ _ h)
  | lrem =>
    have e : len = 1 := beq_iff_eq.mp ho; subst e
    obtain ⟨x, y, t, rfl, hne, h⟩ := pJJ_of h
    exact g_lrem hd hne (hnx _ _ _ _ _ h)
  | lshl =>
    have e : len = 1 := beq_iff_eq.mp ho; subst e
    obtain ⟨x, y, t, rfl, h⟩ := pJI_of h
    exact g_lshl hd (hnx _ _ _ _ _ h)
  | lshr =>
    have e : len = 1 := beq_iff_eq.mp ho; subst e
    obtain ⟨x, y, t, rfl, h⟩ := pJI_of h
    exact g_lshr hd (hnx _ _ _ _ _ h)
  | lushr =>
    have e : len = 1 := beq_iff_eq.mp ho; subst e
    obtain ⟨x, y, t, rfl, h⟩ := pJI_of h
    exact g_lushr hd (hnx _ _ _ _ _ h)
  | ineg =>
    have e : len = 1 := beq_iff_eq.mp ho; subst e
    obtain ⟨x, t, rfl, h⟩ := pI_of h
    exact g_ineg hd (hnx _ _ _ _ _ h)
  | i2l =>
    have e : len = 1 := beq_iff_eq.mp ho; subst e
    obtain ⟨x, t, rfl, h⟩ := pI_of h
    exact g_i2l hd (hnx _ _ _ _ _ h)
  | i2c =>
    have e : len = 1 := beq_iff_eq.mp ho; subst e
    obtain ⟨x, t, rfl, h⟩ := pI_of h
    exact g_i2c hd (hnx _ _ _ _ _ h)
  | i2b =>
    have e : len = 1 := beq_iff_eq.mp ho; subst e
    obtain ⟨x, t, rfl, h⟩ := pI_of h
    exact g_i2b hd (hnx _ _ _ _ _ h)
  | lneg =>
    have e : len = 1 := beq_iff_eq.mp ho; subst e
    obtain ⟨x, t, rfl, h⟩ := pJ_of h
    exact g_lneg hd (hnx _ _ _ _ _ h)
  | l2i =>
    have e : len = 1 := beq_iff_eq.mp ho; subst e
    obtain ⟨x, t, rfl, h⟩ := pJ_of h
    exact g_l2i hd (hnx _ _ _ _ _ h)
  | pop =>
    have e : len = 1 := beq_iff_eq.mp ho; subst e
    obtain ⟨v, t, rfl, hv, h⟩ := pV_of h
    exact g_pop hd hv (hnx _ _ _ _ _ h)
  | dup =>
    have e : len = 1 := beq_iff_eq.mp ho; subst e
    obtain ⟨v, t, rfl, hv, h⟩ := pV_of h
    exact g_dup hd hv (hnx _ _ _ _ _ h)
  | dup_x1 =>
    have e : len = 1 := beq_iff_eq.mp ho; subst e
    obtain ⟨v, w, t, rfl, hv, hw, h⟩ := pVV_of h
    exact g_dup_x1 hd hv hw (hnx _ _ _ _ _ h)
  | dup2 =>
    have e : len = 1 := beq_iff_eq.mp ho; subst e
    rcases st with _ | ⟨v, t⟩
    · exact False.elim h
    · rcases v with x | x | r | q
      · obtain ⟨v, w, t2, e, hv, hw, h⟩ := pVV_of h; rw [e]; exact g_dup2 hd hv hw (hnx _ _ _ _ _ h)
      · exact g_dup2L hd (hnx _ _ _ _ _ h)
      · obtain ⟨v, w, t2, e, hv, hw, h⟩ := pVV_of h; rw [e]; exact g_dup2 hd hv hw (hnx _ _ _ _ _ h)
      · obtain ⟨v, w, t2, e, hv, hw, h⟩ := pVV_of h; rw [e]; exact g_dup2 hd hv hw (hnx _ _ _ _ _ h)
  | iconst z =>
    simp only [okX, Bool.and_eq_true, beq_iff_eq, decide_eq_true_eq, x1, x2, xl] at ho
    obtain ⟨rfl, rfl⟩ := ho
    exact g_iconst hd (hnx _ _ _ _ _ h)
  | bipush z =>
    simp only [okX, Bool.and_eq_true, beq_iff_eq, decide_eq_true_eq, x1, x2, xl] at ho
    obtain ⟨⟨rfl, hv⟩, rfl⟩ := ho
    exact g_bipush hd hv (hnx _ _ _ _ _ h)
  | sipush z =>
    simp only [okX, Bool.and_eq_true, beq_iff_eq, decide_eq_true_eq, x1, x2, xl] at ho
    obtain ⟨⟨rfl, hv⟩, rfl⟩ := ho
    exact g_sipush hd hv (hnx _ _ _ _ _ h)
  | lconst z =>
    simp only [okX, Bool.and_eq_true, beq_iff_eq, decide_eq_true_eq, x1, x2, xl] at ho
    obtain ⟨rfl, rfl⟩ := ho
    exact g_lconst hd (hnx _ _ _ _ _ h)
  | ldc i =>
    simp only [okX, Bool.and_eq_true, beq_iff_eq, x1, x2, xl] at ho
    obtain ⟨rfl, ho⟩ := ho
    replace h : (if r1 = 0 then nx (pc + 2) ls (aI (iZ r2) :: st) M b else nx (pc + 2) ls (aR (some (r1 - 1)) :: st) M b) := h
    by_cases e : r1 = 0
    · rw [if_pos e] at h
      replace ho := (if_pos (show x1 (Instr.ldc i, 2, r1, r2) = 0 from e)).symm.trans ho
      obtain ⟨w, -⟩ := kL_any ho
      exact g_ldcI hd w (hnx _ _ _ _ _ h)
    · rw [if_neg e] at h
      replace ho := (if_neg (show ¬ x1 (Instr.ldc i, 2, r1, r2) = 0 from e)).symm.trans ho
      split at ho
      · next q hq =>
        simp only [Bool.and_eq_true, beq_iff_eq] at ho
        exact g_ldcS hd hq ho.1 ho.2 (hnx _ _ _ _ _ h)
      · cases ho
  | ldc_w i =>
    simp only [okX, Bool.and_eq_true, beq_iff_eq, x1, x2, xl] at ho
    obtain ⟨⟨rfl, -⟩, ho⟩ := ho
    obtain ⟨w, -⟩ := kL_any ho
    exact g_ldcwI hd w (hnx _ _ _ _ _ h)
  | ldc2_w i =>
    simp only [okX, Bool.and_eq_true, beq_iff_eq, x1, x2, xl] at ho
    obtain ⟨rfl, ho⟩ := ho
    exact g_ldc2 hd (jL_any ho) (hnx _ _ _ _ _ h)
  | iload i =>
    simp only [okX, Bool.and_eq_true, beq_iff_eq, decide_eq_true_eq, x1, x2, xl] at ho
    obtain ⟨⟨rfl, hi⟩, rfl⟩ := ho
    obtain ⟨x, hx, h⟩ := eI_of h
    exact g_iload hd hx (hnx _ _ _ _ _ h)
  | iload_n f =>
    simp only [okX, Bool.and_eq_true, beq_iff_eq, decide_eq_true_eq, x1, x2, xl] at ho
    obtain ⟨⟨rfl, hi⟩, rfl⟩ := ho
    obtain ⟨x, hx, h⟩ := eI_of h
    exact g_iload_n hd hx (hnx _ _ _ _ _ h)
  | lload i =>
    simp only [okX, Bool.and_eq_true, beq_iff_eq, decide_eq_true_eq, x1, x2, xl] at ho
    obtain ⟨⟨rfl, hi⟩, rfl⟩ := ho
    obtain ⟨x, hx, h⟩ := eJ_of h
    exact g_lload hd hx (hnx _ _ _ _ _ h)
  | lload_n f =>
    simp only [okX, Bool.and_eq_true, beq_iff_eq, decide_eq_true_eq, x1, x2, xl] at ho
    obtain ⟨⟨rfl, hi⟩, rfl⟩ := ho
    obtain ⟨x, hx, h⟩ := eJ_of h
    exact g_lload_n hd hx (hnx _ _ _ _ _ h)
  | aload i =>
    simp only [okX, Bool.and_eq_true, beq_iff_eq, decide_eq_true_eq, x1, x2, xl] at ho
    obtain ⟨⟨e9, hi⟩, rfl⟩ := ho
    subst e9
    replace h : eA (lg ls r1) (fun v => nx (pc + 2) ls (v :: st) M b) := h
    obtain ⟨hx, h⟩ := eA_of h
    replace h := hnx _ _ _ _ _ h
    rcases hx with hx | ⟨a, hx⟩ | ⟨q, hx⟩
    · rw [hx] at h; exact g_aload0 hd hx h
    · rw [hx] at h; exact g_aload1 hd hx h
    · rw [hx] at h; exact g_aload2 hd hx h
  | aload_n f =>
    simp only [okX, Bool.and_eq_true, beq_iff_eq, decide_eq_true_eq, x1, x2, xl] at ho
    obtain ⟨⟨e9, hi⟩, rfl⟩ := ho
    subst e9
    replace h : eA (lg ls f.val) (fun v => nx (pc + 1) ls (v :: st) M b) := h
    obtain ⟨hx, h⟩ := eA_of h
    replace h := hnx _ _ _ _ _ h
    rcases hx with hx | ⟨a, hx⟩ | ⟨q, hx⟩
    · rw [hx] at h; exact g_aload_n0 hd hx h
    · rw [hx] at h; exact g_aload_n1 hd hx h
    · rw [hx] at h; exact g_aload_n2 hd hx h
  | istore i =>
    simp only [okX, Bool.and_eq_true, beq_iff_eq, decide_eq_true_eq, x1, x2, xl] at ho
    obtain ⟨⟨rfl, hi⟩, rfl⟩ := ho
    obtain ⟨x, t, rfl, h⟩ := pI_of h
    exact g_istore hd hi (hnx _ _ _ _ _ h)
  | istore_n f =>
    simp only [okX, Bool.and_eq_true, beq_iff_eq, decide_eq_true_eq, x1, x2, xl] at ho
    obtain ⟨⟨rfl, hi⟩, rfl⟩ := ho
    obtain ⟨x, t, rfl, h⟩ := pI_of h
    exact g_istore_n hd hi (hnx _ _ _ _ _ h)
  | lstore i =>
    simp only [okX, Bool.and_eq_true, beq_iff_eq, decide_eq_true_eq, x1, x2, xl] at ho
    obtain ⟨⟨rfl, hi⟩, rfl⟩ := ho
    obtain ⟨x, t, rfl, h⟩ := pJ_of h
    exact g_lstore hd hi (hnx _ _ _ _ _ h)
  | lstore_n f =>
    simp only [okX, Bool.and_eq_true, beq_iff_eq, decide_eq_true_eq, x1, x2, xl] at ho
    obtain ⟨⟨rfl, hi⟩, rfl⟩ := ho
    obtain ⟨x, t, rfl, h⟩ := pJ_of h
    exact g_lstore_n hd hi (hnx _ _ _ _ _ h)
  | astore i =>
    simp only [okX, Bool.and_eq_true, beq_iff_eq, decide_eq_true_eq, x1, x2, xl] at ho
    obtain ⟨⟨rfl, hi⟩, rfl⟩ := ho
    replace h : pA st (fun v t => nx (pc + 2) (ls1 ls r1 v) t M b) := h
    obtain ⟨v, t, rfl, hv, h⟩ := pA_of h
    rcases hv with rfl | ⟨a, rfl⟩ | ⟨q, rfl⟩
    · exact g_astore0 hd hi (hnx _ _ _ _ _ h)
    · exact g_astore1 hd hi (hnx _ _ _ _ _ h)
    · exact g_astore2 hd hi (hnx _ _ _ _ _ h)
  | astore_n f =>
    simp only [okX, Bool.and_eq_true, beq_iff_eq, decide_eq_true_eq, x1, x2, xl] at ho
    obtain ⟨⟨rfl, hi⟩, rfl⟩ := ho
    replace h : pA st (fun v t => nx (pc + 1) (ls1 ls f.val v) t M b) := h
    obtain ⟨v, t, rfl, hv, h⟩ := pA_of h
    rcases hv with rfl | ⟨a, rfl⟩ | ⟨q, rfl⟩
    · exact g_astore_n0 hd hi (hnx _ _ _ _ _ h)
    · exact g_astore_n1 hd hi (hnx _ _ _ _ _ h)
    · exact g_astore_n2 hd hi (hnx _ _ _ _ _ h)
  | iinc i z =>
    simp only [okX, Bool.and_eq_true, beq_iff_eq, decide_eq_true_eq, x1, x2, xl] at ho
    obtain ⟨⟨⟨rfl, rfl⟩, hi⟩, rfl⟩ := ho
    obtain ⟨x, hx, h⟩ := eI_of h
    exact g_iinc hd hi hx (hnx _ _ _ _ _ h)
  | ifCond cc off =>
    simp only [okX, Bool.and_eq_true, beq_iff_eq, decide_eq_true_eq, x1, x2, xl] at ho
    obtain ⟨ht, rfl⟩ := ho
    obtain ⟨x, t, rfl, h1, h2⟩ := pI_of h
    exact g_ifCond hd (of_decide_eq_true ht) (fun q => hnx _ _ _ _ _ (h1 q)) (fun q => hnx _ _ _ _ _ (h2 q))
  | if_icmp cc off =>
    simp only [okX, Bool.and_eq_true, beq_iff_eq, decide_eq_true_eq, x1, x2, xl] at ho
    obtain ⟨ht, rfl⟩ := ho
    obtain ⟨x, y, t, rfl, h1, h2⟩ := pII_of h
    exact g_icmp hd (of_decide_eq_true ht) (fun q => hnx _ _ _ _ _ (h1 q)) (fun q => hnx _ _ _ _ _ (h2 q))
  | ifnull off =>
    simp only [okX, Bool.and_eq_true, beq_iff_eq, decide_eq_true_eq, x1, x2, xl] at ho
    obtain ⟨ht, rfl⟩ := ho
    obtain ⟨x, t, rfl, h1, h2⟩ := pR_of h
    exact g_ifnull hd (of_decide_eq_true ht) (fun q => hnx _ _ _ _ _ (h1 q)) (fun a q => hnx _ _ _ _ _ (h2 a q))
  | ifnonnull off =>
    simp only [okX, Bool.and_eq_true, beq_iff_eq, decide_eq_true_eq, x1, x2, xl] at ho
    obtain ⟨ht, rfl⟩ := ho
    obtain ⟨x, t, rfl, h1, h2⟩ := pR_of h
    exact g_ifnonnull hd (of_decide_eq_true ht) (fun a q => hnx _ _ _ _ _ (h1 a q)) (fun q => hnx _ _ _ _ _ (h2 q))
  | goto off =>
    simp only [okX, Bool.and_eq_true, beq_iff_eq, decide_eq_true_eq, x1, x2, xl] at ho
    obtain ⟨ht, rfl⟩ := ho
    exact g_goto hd (of_decide_eq_true ht) (hnx _ _ _ _ _ h)
  | tableswitch df lo hi offs =>
    obtain ⟨x, t, rfl, h1, hs, h2⟩ := pI_of h
    have hy := xc_Y hxc
    have hp : ∀ o, o = df ∨ o ∈ offs.toList → 0 ≤ (pc : Int) + o := fun o hm => by
      have := List.all_eq_true.mp hy o (List.mem_cons.mpr hm)
      exact of_decide_eq_true this
    exact g_tsw hd hp (fun q => hnx _ _ _ _ _ (h1 q)) hs (swt_mono (fun p q => hnx _ _ _ _ _ q) h2)
  | getfield i =>
    simp only [okX, Bool.and_eq_true, Bool.or_eq_true, beq_iff_eq, x1, x2, xl] at ho
    obtain ⟨rfl, ho⟩ := ho
    obtain ⟨a, t, rfl, h7⟩ := pO_of h
    replace h7 : if r1 = 30 then a < 30 ∧ nx (pc + 3) ls ((if r2 = 0 then aR (some (a + 30)) else aI 0) :: t) M b else r1 < 13 ∧ oB M a r1 ∧ nx (pc + 3) ls (fV M a r1 r2.toNat :: t) M b := h7
    by_cases e : r1 = 30
    · rw [if_pos e] at h7
      have hy := xc_Y hxc
      simp only [okY, x1, x2, e] at hy
      obtain ⟨⟨o, i9, f, pl⟩, hq, hb⟩ := List.any_eq_true.mp hy
      simp only [Bool.and_eq_true, beq_iff_eq] at hb
      have h9 := of_decide_eq_true (List.all_eq_true.mp sfL_ok _ hq)
      obtain ⟨⟨rfl, rfl⟩, rfl⟩ := hb
      rcases (by have h8 : f < 2 := h9.2; omega : f = 0 ∨ f = 1) with rfl | rfl
      · exact g_strF hd h7.1 (Or.inl ⟨rfl, gT_of h9.1 rfl⟩) (hnx _ _ _ _ _ h7.2)
      · exact g_strF hd h7.1 (Or.inr ⟨rfl, gT_of h9.1 rfl⟩) (hnx _ _ _ _ _ h7.2)
    · rw [if_neg e] at h7
      have ho := (ho.resolve_left (by rintro (q | q) <;> omega))
      replace ho : (fL.any fun q => q.1 == mO k && q.2.1 == i && q.2.2.1 == r1 && (q.2.2.2.1 : Int) == r2) = true := ho
      obtain ⟨pl, hq⟩ := fL_any ho
      exact g_getfield hd hq rfl h7.2.1 (hnx _ _ _ _ _ h7.2.2)
  | putfield i =>
    simp only [okX, Bool.and_eq_true, Bool.or_eq_true, beq_iff_eq, x1, x2, xl] at ho
    obtain ⟨rfl, ho⟩ := ho
    obtain ⟨a, v, t, rfl, h1, h2, h3⟩ := pVO_of h
    have h1 : r1 < 13 := h1
    have ho := ho.resolve_left (by omega)
    obtain ⟨⟨o, i9, ci, f, pl⟩, hq, hb⟩ := List.any_eq_true.mp ho
    simp only [Bool.and_eq_true, Bool.or_eq_true, beq_iff_eq] at hb
    have hq9 : o = mO k ∧ i9 = i ∧ ci = r1 ∧ (f : Int) = r2 ∧ (((vC ci).2.1 f).2.2.2 = false ∨ ((mY k).name = "<init>" ∧ ci = mO k)) := by
      rcases hb with ⟨⟨⟨⟨a1, a2⟩, a3⟩, a4⟩, a5⟩ | ⟨⟨⟨⟨⟨a1, a2⟩, a3⟩, a4⟩, a5⟩, a6⟩
      · exact ⟨a1, a2, a3, a4, Or.inl (by rw [a3]; exact a5)⟩
      · exact ⟨a1, a2, a3, a4, Or.inr ⟨a5, a6⟩⟩
    obtain ⟨rfl, rfl, rfl, rfl, hfin⟩ := hq9
    exact g_putfield hd hq rfl h2 hfin (putV_mono (fun M9 q => hnx _ _ _ _ _ q) h3)
  | getstatic i =>
    simp only [okX, beq_iff_eq, xl] at ho
    subst ho
    have hy := xc_Y hxc
    replace h : if r1 = 0 then nx (pc + 3) ls (aI 1 :: st) M b else r1 = 1 ∧ nx (pc + 3) ls (aR none :: st) M b ∧ ∀ q, nx (pc + 3) ls (aX q :: st) M b := h
    by_cases e : r1 = 0
    · rw [if_pos e] at h
      subst e
      simp only [okY, x1] at hy
      obtain ⟨⟨o, i9, f, pl⟩, hq, hb⟩ := List.any_eq_true.mp hy
      simp only [Bool.and_eq_true, beq_iff_eq] at hb
      obtain ⟨⟨rfl, rfl⟩, rfl⟩ := hb
      exact g_getstatic0 hd hq (hnx _ _ _ _ _ h)
    · rw [if_neg e] at h
      obtain ⟨rfl, h1, h2⟩ := h
      simp only [okY, x1] at hy
      obtain ⟨⟨o, i9, f, pl⟩, hq, hb⟩ := List.any_eq_true.mp hy
      simp only [Bool.and_eq_true, beq_iff_eq] at hb
      obtain ⟨⟨rfl, rfl⟩, rfl⟩ := hb
      exact g_getstatic1 hd hq (hnx _ _ _ _ _ h1) (fun q => hnx _ _ _ _ _ (h2 q))
  | iaload =>
    have e : len = 1 := beq_iff_eq.mp ho; subst e
    obtain ⟨a, i, t, rfl, h⟩ := pIO_of h
    replace h : if r1 = 32 then (a = 60 ∧ inb i (gLn G)) ∧ nx (pc + 1) ls (aI (gx G (iN i)) :: t) M b else iA M a 20 i ∧ nx (pc + 1) ls (aI (mI M a (iN i)) :: t) M b := h
    by_cases e : r1 = 32
    · rw [if_pos e] at h
      obtain ⟨⟨rfl, h1⟩, h2⟩ := h
      exact g_saload hd h1 (hnx _ _ _ _ _ h2)
    · rw [if_neg e] at h
      exact g_iaload hd h.1 (hnx _ _ _ _ _ h.2)
  | laload =>
    have e : len = 1 := beq_iff_eq.mp ho; subst e
    obtain ⟨a, i, t, rfl, h1, h⟩ := pIO_of h
    exact g_laload hd h1 (hnx _ _ _ _ _ h)
  | baload =>
    have e : len = 1 := beq_iff_eq.mp ho; subst e
    obtain ⟨a, i, t, rfl, h⟩ := pIO_of h
    replace h : if r1 = 22 then iA M a 22 i ∧ nx (pc + 1) ls (aI (mI M a (iN i)) :: t) M b else 30 ≤ a ∧ a < 60 ∧ inb i (sLen (a - 30)) ∧ nx (pc + 1) ls (aI (sByt (a - 30) (iN i)) :: t) M b := h
    by_cases e : r1 = 22
    · rw [if_pos e] at h
      exact g_zaload hd h.1 (hnx _ _ _ _ _ h.2)
    · rw [if_neg e] at h
      exact g_baload hd h.1 h.2.1 h.2.2.1 (hnx _ _ _ _ _ h.2.2.2)
  | aaload =>
    have e : len = 1 := beq_iff_eq.mp ho; subst e
    obtain ⟨a, i, t, rfl, h1, h⟩ := pIO_of h
    replace h := hnx _ _ _ _ _ h
    rcases h1 with h1 | h1 | h1 | h1 | h1
    · exact g_aaload hd h1 (by omega) (by omega) h
    · exact g_aaload hd h1 (by omega) (by omega) h
    · exact g_aaload hd h1 (by omega) (by omega) h
    · exact g_aaload hd h1 (by omega) (by omega) h
    · exact g_aaload hd h1 (by omega) (by omega) h
  | iastore =>
    have e : len = 1 := beq_iff_eq.mp ho; subst e
    obtain ⟨a, i, v, t, rfl, h1, h⟩ := pVIO_of h
    obtain ⟨x, rfl, h⟩ := eI_of h
    exact g_iastore hd h1 (hnx _ _ _ _ _ h)
  | lastore =>
    have e : len = 1 := beq_iff_eq.mp ho; subst e
    obtain ⟨a, i, v, t, rfl, h1, h⟩ := pVIO_of h
    obtain ⟨x, rfl, h⟩ := eJ_of h
    exact g_lastore hd h1 (hnx _ _ _ _ _ h)
  | bastore =>
    have e : len = 1 := beq_iff_eq.mp ho; subst e
    obtain ⟨a, i, v, t, rfl, h1, h⟩ := pVIO_of h
    obtain ⟨x, rfl, hb, h⟩ := eI_of h
    exact g_bastore hd h1 hb (hnx _ _ _ _ _ h)
  | aastore =>
    have e : len = 1 := beq_iff_eq.mp ho; subst e
    obtain ⟨a, i, v, t, rfl, h⟩ := pVIO_of h
    rcases v with x | x | (_ | r) | q
    · exact False.elim h
    · exact False.elim h
    · exact False.elim h
    · obtain ⟨h1, h⟩ := h
      replace h := hnx _ _ _ _ _ h
      rcases h1 with ⟨h1, h2⟩ | ⟨h1, h2⟩ | ⟨h1, h2⟩
      · exact g_aastore hd h1 (Or.inl ⟨rfl, h2⟩) h
      · exact g_aastore hd h1 (Or.inr (Or.inl ⟨rfl, h2⟩)) h
      · exact g_aastore hd h1 (Or.inr (Or.inr ⟨rfl, h2⟩)) h
    · exact False.elim h
  | arraylength =>
    have e : len = 1 := beq_iff_eq.mp ho; subst e
    obtain ⟨a, t, rfl, h7⟩ := pO_of h
    replace h7 : if r1 = 32 then a = 60 ∧ nx (pc + 1) ls (aI (iZ (gLn G : Nat)) :: t) M b else if r1 = 31 then 30 ≤ a ∧ a < 60 ∧ nx (pc + 1) ls (aI (iZ (sLen (a - 30) : Nat)) :: t) M b else (61 ≤ a ∧ a < mN M ∧ 20 ≤ (mK M a).1 ∧ (mK M a).1 ≤ 27 ∧ r1 = 1) ∧ nx (pc + 1) ls (aI (iZ ((mK M a).2 : Nat)) :: t) M b := h7
    by_cases e1 : r1 = 32
    · rw [if_pos e1] at h7; obtain ⟨e2, h8⟩ := h7; subst e2; exact g_slen hd (hnx _ _ _ _ _ h8)
    · rw [if_neg e1] at h7
      by_cases e2 : r1 = 31
      · rw [if_pos e2] at h7; exact g_blen hd h7.1 h7.2.1 (hnx _ _ _ _ _ h7.2.2)
      · rw [if_neg e2] at h7; obtain ⟨⟨h1, h2, h3, h4, -⟩, h8⟩ := h7; exact g_alen hd h1 h2 rfl h3 h4 (hnx _ _ _ _ _ h8)
  | new i =>
    simp only [okX, Bool.and_eq_true, Bool.or_eq_true, beq_iff_eq, x1, x2, xl] at ho
    obtain ⟨rfl, ho⟩ := ho
    replace h : if r1 < 13 then (stN r1 + 1 ≤ b ∧ nx (pc + 3) ls (aR (some (mN M)) :: st) (newC M r1 (stN r1)) (b - (stN r1 + 1))) else (100 ≤ r1 ∧ r1 < 102) ∧ 6 ≤ b ∧ stW st ≤ 8 ∧ qx (r1 - 100) M := h
    by_cases e : r1 < 13
    · rw [if_pos e] at h
      have ho1 : (oL_.any fun q => q.1 == mO k && q.2.1 == i && q.2.2.1 == r1 && decide (r1 < 13)) = true := by
        rcases ho with (q | q) | q
        · omega
        · exact q
        · obtain ⟨z, hz, hb⟩ := List.any_eq_true.mp q
          simp only [Bool.and_eq_true, beq_iff_eq] at hb
          omega
      obtain ⟨⟨o, i9, ci, p1, p2, p3⟩, hq, hb⟩ := List.any_eq_true.mp ho1
      simp only [Bool.and_eq_true, beq_iff_eq] at hb
      obtain ⟨⟨⟨rfl, rfl⟩, rfl⟩, -⟩ := hb
      exact g_new hd hq rfl e h.1 (hnx _ _ _ _ _ h.2)
    · rw [if_neg e] at h
      have hy := xc_Y hxc
      simp only [okY, x1, h.1.1, h.1.2, and_self, decide_true, Bool.not_true, Bool.false_or] at hy
      obtain ⟨⟨k9, pc9, ik, ic, x9⟩, hq, hb⟩ := List.any_eq_true.mp hy
      simp only [Bool.and_eq_true, beq_iff_eq] at hb
      obtain ⟨⟨⟨rfl, rfl⟩, rfl⟩, rfl⟩ := hb
      exact g_throw hd hq h.2.1 h.2.2.1 (by have h8 := h.2.2.2; rw [Nat.add_sub_cancel] at h8; exact h8)
  | newarray ty =>
    simp only [okX, Bool.and_eq_true, beq_iff_eq, x1, xl] at ho
    obtain ⟨rfl, rfl⟩ := ho
    obtain ⟨n, t, rfl, ⟨h1, h2, h3, h4⟩, h⟩ := pI_of h
    exact g_newarray hd h3 h1 h2 h4 (hnx _ _ _ _ _ h)
  | anewarray i =>
    simp only [okX, Bool.and_eq_true, Bool.or_eq_true, beq_iff_eq, x1, xl] at ho
    obtain ⟨rfl, ho⟩ := ho
    obtain ⟨n, t, rfl, ⟨h1, h2, h3, h4⟩, h⟩ := pI_of h
    have h3 : r1 < 28 := h3
    have ho := ho.resolve_left (by omega)
    obtain ⟨⟨o, i9, κ, p1⟩, hq, hb⟩ := List.any_eq_true.mp ho
    simp only [Bool.and_eq_true, Bool.or_eq_true, beq_iff_eq] at hb
    obtain ⟨⟨⟨rfl, rfl⟩, rfl⟩, hκ⟩ := hb
    exact g_anewarray hd hq rfl (by omega) h1 h2 h4 (hnx _ _ _ _ _ h)
  | multianewarray i dm =>
    simp only [okX, Bool.and_eq_true, Bool.or_eq_true, beq_iff_eq, x1, xl] at ho
    obtain ⟨⟨rfl, rfl⟩, ho⟩ := ho
    obtain ⟨n, m, t, rfl, ⟨h1, h2, h3, h4, h5, h6⟩, h⟩ := pII_of h
    obtain ⟨⟨o, i9, κ, p1⟩, hq, hb⟩ := List.any_eq_true.mp ho
    simp only [Bool.and_eq_true, Bool.or_eq_true, beq_iff_eq] at hb
    obtain ⟨⟨⟨rfl, rfl⟩, rfl⟩, hκ⟩ := hb
    exact g_multi hd hq rfl hκ h1 h2 h3 h4 h6 (hnx _ _ _ _ _ h)
  | invokestatic i =>
    simp only [okX, Bool.and_eq_true, Bool.or_eq_true, beq_iff_eq, x1, xl] at ho
    obtain ⟨rfl, ho⟩ := ho
    by_cases e : r1 = 1001
    · subst e
      have hy := xc_Y hxc
      simp only [okY, x1] at hy
      obtain ⟨⟨o, i9, pl⟩, hq, hb⟩ := List.any_eq_true.mp hy
      simp only [Bool.and_eq_true, beq_iff_eq] at hb
      obtain ⟨rfl, rfl⟩ := hb
      obtain ⟨n, dp, a, sp, a0, t, rfl, ⟨h1, h2, h3, h4, h5, h6, h7, h8⟩, h⟩ := acp_of h
      exact g_arraycopy hd hq h1 h2 h3 h4 h5 h6 h7 h8 (hnx _ _ _ _ _ h)
    · replace h := stp_static (x := (.invokestatic i, 3, r1, r2)) rfl e h
      obtain ⟨h1, h2, h3, u, qr9, qx9, hu, hev, K, KX⟩ := h
      have h1 : r1 < 1000 := h1
      have ho := ho.resolve_left (by omega)
      obtain ⟨⟨o, i9, j, kd, p1, p2, p3⟩, hq, hb⟩ := List.any_eq_true.mp ho
      simp only [Bool.and_eq_true, beq_iff_eq] at hb
      obtain ⟨⟨⟨rfl, rfl⟩, rfl⟩, rfl⟩ := hb
      have hz9 : r2.toNat = (mPn[j]?).getD 0 := okZ_of (xc_Z hxc) h1
      have hj := mL_lt hq
      have hk0 : mH k = [] := noH_of hxc trivial
      exact g_static hd hq hk hk0 hj.1 hz9 h2 h3 hev hu (fun r M9 q => by have := K r M9 q; cases r with | none => exact hnx _ _ _ _ _ this | some v => exact hnx _ _ _ _ _ this) KX
  | invokespecial i =>
    simp only [okX, Bool.and_eq_true, Bool.or_eq_true, beq_iff_eq, x1, xl] at ho
    obtain ⟨rfl, ho⟩ := ho
    by_cases e : r1 = 1000
    · subst e
      have hy := xc_Y hxc
      simp only [okY, x1] at hy
      obtain ⟨⟨o, i9, pl⟩, hq, hb⟩ := List.any_eq_true.mp hy
      simp only [Bool.and_eq_true, beq_iff_eq] at hb
      obtain ⟨rfl, rfl⟩ := hb
      obtain ⟨a, t, rfl, h1, h⟩ := pO_of h
      exact g_objInit hd hq h1 (hnx _ _ _ _ _ h)
    · replace h := stp_special (x := (.invokespecial i, 3, r1, r2)) rfl e h
      obtain ⟨h1, h2, h3, ⟨a, hthis⟩, u, qr9, qx9, hu, hev, K, KX⟩ := h
      have h1 : r1 < 1000 := h1
      have hz9 : r2.toNat = (mPn[r1]?).getD 0 := okZ_of (xc_Z hxc) h1
      have hlk : (∃ p1 p2 p3, (mO k, i, r1, 1, p1, p2, p3) ∈ mL_) ∨ ∃ p1 p2, (mO k, i, r1, p1, p2) ∈ nL_ := by
        rcases ho with ((q | q) | q) | q
        · omega
        · omega
        · left
          obtain ⟨⟨o, i9, j, kd, p1, p2, p3⟩, hq, hb⟩ := List.any_eq_true.mp q
          simp only [Bool.and_eq_true, beq_iff_eq] at hb
          obtain ⟨⟨⟨rfl, rfl⟩, rfl⟩, rfl⟩ := hb
          exact ⟨p1, p2, p3, hq⟩
        · right
          obtain ⟨⟨o, i9, j, p1, p2⟩, hq, hb⟩ := List.any_eq_true.mp q
          simp only [Bool.and_eq_true, beq_iff_eq] at hb
          obtain ⟨⟨rfl, rfl⟩, rfl⟩ := hb
          exact ⟨p1, p2, hq⟩
      have hj := ctor_lt hlk
      have hk0 : mH k = [] := noH_of hxc trivial
      exact g_special hd hlk hk hk0 hj.1 hz9 hthis hj.2 h3 hev hu (fun r M9 q => by have := K r M9 q; cases r with | none => exact hnx _ _ _ _ _ this | some v => exact hnx _ _ _ _ _ this) KX
  | invokevirtual i =>
    simp only [okX, Bool.and_eq_true, Bool.or_eq_true, beq_iff_eq, x1, xl] at ho
    obtain ⟨rfl, ho⟩ := ho
    obtain ⟨h1, h2, h3, ⟨a, hthis, hrc⟩, u, qr9, qx9, hu, hev, K, KX⟩ := h
    have h1 : r1 < 1000 := h1
    have ho := ho.resolve_left (by omega)
    obtain ⟨⟨o, i9, j, kd, p1, p2, p3⟩, hq, hb⟩ := List.any_eq_true.mp ho
    simp only [Bool.and_eq_true, beq_iff_eq] at hb
    obtain ⟨⟨⟨rfl, rfl⟩, rfl⟩, rfl⟩ := hb
    have hz9 : r2.toNat = (mPn[j]?).getD 0 := okZ_of (xc_Z hxc) h1
    have hj := mL_lt hq
    exact g_virtual hd hq hk (hj.2 rfl) hz9 hthis hrc h3 hev hu (fun r M9 q => by have := K r M9 q; cases r with | none => exact hnx _ _ _ _ _ this | some v => exact hnx _ _ _ _ _ this) (fun x M9 q => by
      have := KX x M9 q
      dsimp only at this
      cases hh : hdl k pc x with
      | none => rw [hh] at this; exact this
      | some h9 => rw [hh] at this; exact fun q9 => hnx _ _ _ _ _ (this q9))
  | ireturn =>
    have e : len = 1 := beq_iff_eq.mp ho; subst e
    rcases st with _ | ⟨v, _ | ⟨w, t⟩⟩
    · exact False.elim h
    · rcases v with x | x | r | q
      · exact g_ireturn hd h.1 h.2
      · exact False.elim h
      · exact False.elim h
      · exact False.elim h
    · rcases v with x | x | r | q <;> exact False.elim h
  | lreturn =>
    have e : len = 1 := beq_iff_eq.mp ho; subst e
    rcases st with _ | ⟨v, _ | ⟨w, t⟩⟩
    · exact False.elim h
    · rcases v with x | x | r | q
      · exact False.elim h
      · exact g_lreturn hd h.1 h.2
      · exact False.elim h
      · exact False.elim h
    · rcases v with x | x | r | q <;> exact False.elim h
  | areturn =>
    have e : len = 1 := beq_iff_eq.mp ho; subst e
    rcases st with _ | ⟨v, _ | ⟨w, t⟩⟩
    · exact False.elim h
    · rcases v with x | x | r | q
      · exact False.elim h
      · exact False.elim h
      · exact g_areturn hd h.1 h.2
      · exact False.elim h
    · rcases v with x | x | r | q <;> exact False.elim h
  | return_ =>
    have e : len = 1 := beq_iff_eq.mp ho; subst e
    rcases st with _ | ⟨v, t⟩
    · exact g_return hd h.1 h.2
    · exact False.elim h
  | _ => exact False.elim h
theorem wp_go : ∀ (n pc : Nat) (ls st : List AV) (M : Mem) (b : Nat), wp (WCo G d k qr qx) k n pc ls st M b → Go G d k qr qx pc ls st M b
  | 0, _, _, _, _, _, h => h
  | n + 1, pc, ls, st, M, b, h => by
    unfold wp at h
    split at h
    · exact h
    · split at h
      · exact False.elim h
      · next x hx => exact stp_go hx (fun pc' ls' st' M' b' h' => wp_go n pc' ls' st' M' b' h') h
theorem wp1_go {n : Nat} (h : wp1 (WCo G d k qr qx) k n pc ls st M b) : Go G d k qr qx pc ls st M b := by
  unfold wp1 at h
  split at h
  · exact False.elim h
  · next x hx => exact stp_go hx (fun pc' ls' st' M' b' h' => wp_go n pc' ls' st' M' b' h') h
end

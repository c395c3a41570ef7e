/-! Instructions that read and write the memory. -/
theorem vC_at {ci : Nat} (h : ci < 13) : vwCl[ci]? = some (vC ci) := by
  match ci, h with
  | 0, _ | 1, _ | 2, _ | 3, _ | 4, _ | 5, _ | 6, _ | 7, _ | 8, _ | 9, _ | 10, _ | 11, _ | 12, _ => rfl
  | n + 13, h => exact absurd h (by omega)
theorem vC_N {ci : Nat} (h : ci < 13) : (vC ci).2.2 = stN ci := by
  match ci, h with
  | 0, _ | 1, _ | 2, _ | 3, _ | 4, _ | 5, _ | 6, _ | 7, _ | 8, _ | 9, _ | 10, _ | 11, _ | 12, _ => rfl
  | n + 13, h => exact absurd h (by omega)
theorem good_lay (C : String) (T : u_T) (k : Nat) : goodWord (u_lay C T k) = true := by unfold u_lay; split <;> rfl
theorem inG {ci : Nat} (h : ci < 13) : ∀ w ∈ u_ws (vC ci).1 (vC ci).2.1 (vC ci).2.2, w ∈ gT := by
  have key : ∀ {C : String} {T : u_T} {N : Nat}, (∀ w ∈ u_ws C T N, w ∈ lw_tbl) → ∀ w ∈ u_ws C T N, w ∈ gT := by
    intro C T N h w hw
    refine List.mem_filter.mpr ⟨h w hw, ?_⟩
    obtain ⟨k, -, rfl⟩ := List.mem_map.mp hw
    exact good_lay C T k
  match ci, h with
  | 0, _ => exact key inT0
  | 1, _ => exact key inT1
  | 2, _ => exact key inT2
  | 3, _ => exact key inT3
  | 4, _ => exact key inT4
  | 5, _ => exact key inT5
  | 6, _ => exact key inT6
  | 7, _ => exact key inT7
  | 8, _ => exact key inT8
  | 9, _ => exact key inT9
  | 10, _ => exact key inT10
  | 11, _ => exact key inT11
  | 12, _ => exact key inT12
  | n + 13, h => exact absurd h (by omega)
def tyG (ci : Nat) : Nat → FieldType := match ci with
  | 0 => tyX0 | 1 => tyX1 | 2 => tyX2 | 3 => tyX3 | 4 => tyX4 | 5 => tyX5 | 6 => tyX6 | 7 => tyX7 | 8 => tyX8 | 9 => tyX9 | 10 => tyX10 | 11 => tyX11 | _ => tyX12
theorem tyG_ok {ci : Nat} (h : ci < 13) : ∀ k, k < (vC ci).2.2 → parseFieldDescriptor ((vC ci).2.1 k).2.2.1 = some (tyG ci k) := by
  match ci, h with
  | 0, _ => exact tyX0_ok
  | 1, _ => exact tyX1_ok
  | 2, _ => exact tyX2_ok
  | 3, _ => exact tyX3_ok
  | 4, _ => exact tyX4_ok
  | 5, _ => exact tyX5_ok
  | 6, _ => exact tyX6_ok
  | 7, _ => exact tyX7_ok
  | 8, _ => exact tyX8_ok
  | 9, _ => exact tyX9_ok
  | 10, _ => exact tyX10_ok
  | 11, _ => exact tyX11_ok
  | 12, _ => exact tyX12_ok
  | n + 13, h => exact absurd h (by omega)
theorem nmG {ci : Nat} (h : ci < 13) : ∀ a, a < (vC ci).2.2 → ∀ b, b < (vC ci).2.2 → a ≠ b → ((vC ci).2.1 a).2.1 ≠ ((vC ci).2.1 b).2.1 := by
  match ci, h with
  | 0, _ => exact nmX0
  | 1, _ => exact nmX1
  | 2, _ => exact nmX2
  | 3, _ => exact nmX3
  | 4, _ => exact nmX4
  | 5, _ => exact nmX5
  | 6, _ => exact nmX6
  | 7, _ => exact nmX7
  | 8, _ => exact nmX8
  | 9, _ => exact nmX9
  | 10, _ => exact nmX10
  | 11, _ => exact nmX11
  | 12, _ => exact nmX12
  | n + 13, h => exact absurd h (by omega)
def tyC (t : Nat) (ty : FieldType) : Bool := if t = 0 then decide (ty = .int) else if t = 1 then decide (ty = .long) else if t = 3 then decide (ty = .boolean) else match ty with | .object _ => decide (t = 2) | .array _ => decide (t = 2) | _ => false
theorem tyG_fT : ((List.range 13).all fun ci => (List.range (stN ci)).all fun f => tyC (fTy ci f) (tyG ci f)) = true := by decide +kernel
theorem tyG_f {ci f : Nat} (h : ci < 13) (hf : f < stN ci) : tyC (fTy ci f) (tyG ci f) = true :=
  List.all_eq_true.mp (List.all_eq_true.mp tyG_fT ci (List.mem_range.mpr h)) f (List.mem_range.mpr hf)
/-- a field's link, out of its row -/
theorem fL_w {o i ci f pl : Nat} (h : (o, i, ci, f, pl) ∈ fL) : ci < 13 ∧ f < stN ci ∧ (Jvm.Cond.fieldLink (cN o) i (vC ci).1 ((vC ci).2.1 f).2.1 ((vC ci).2.1 f).2.2.1) ∈ gT ∧ ((vC ci).2.1 f).1 = (vC ci).1 ∧ (vC ci).1 = cN ci := by
  have h1 := List.all_eq_true.mp fL_ok _ h
  simp only [Bool.and_eq_true, decide_eq_true_eq] at h1
  obtain ⟨h2, h3, h4, h5⟩ := h1
  have h6 := of_decide_eq_true (List.all_eq_true.mp vC_own ci (List.mem_range.mpr h3))
  exact ⟨h3, by rw [← vC_N h3]; exact h4, gT_of h2 rfl, by rw [h5, h6], h6⟩
section
variable {G : GE} {d k : Nat} {qr : QR} {qx : QX} {pc : Nat} {ls st : List AV} {M : Mem} {b : Nat}
theorem ok_fV {M : Mem} (hw : WF M) (a k f : Nat) : okV (mN M) (fV M a k f) := by
  unfold fV
  split
  · trivial
  · split
    · cases h : mP M a f with
      | none => trivial
      | some r => exact hw.2 _ _ _ h
    · trivial
theorem g_getfield {i o ci f pl a : Nat} (hd : decode (mB k) pc = .ok (.getfield i, 3)) (hf : (o, i, ci, f, pl) ∈ fL) (ho : mO k = o) (hk : oB M a ci)
    (g : Go G d k qr qx (pc + 3) ls (fV M a ci f :: st) M b) : Go G d k qr qx pc ls (aR (some a) :: st) M b := by
  obtain ⟨h1, h2, h3, h4, h5⟩ := fL_w hf
  refine Go_pure (fun p e R s m args below meth c U ad H locs lsr cells slots Q hC hR hS hl h => ?_) (fun n hw hn hol ho => okc (by rw [hn]; exact ok_fV hw _ _ _) (okt ho)) g
  obtain ⟨q1, q2, q3⟩ := hk
  have hfs : ((List.range (stN ci)).map (fun f => rv ad (fV M a ci f)))[f]? = some (rv ad (fV M a ci f)) := by rw [List.getElem?_map, List.getElem?_range h2]; rfl
  exact va_get (own := mC k) (ref := (vC ci).1) (C := (vC ci).1) (T := (vC ci).2.1) (N := (vC ci).2.2) hC.1 hC.2.1 hC.2.2.2.2.2.1 (inG h1) hC.2.2.2.2.1 hC.2.2.2.2.2.2.2.2.2.1.1.1 hR.2.2.1 (a - 61) (by rw [wsO_get q1 q2, entO_obj q3 h1]) (vC_at h1) f (by rw [vC_N h1]; exact h2)
    (hC.2.2.2.2.2.1 _ (by subst ho; exact h3)) (fun x hx => by rw [h4] at hx; exact hx) hfs hd h
/-- from a world that the kit has written to the memory that the abstract machine has written -/
theorem Rep_set {ad : Nat → Nat} {M M' : Mem} {H H1 : Heap} {a : Nat} {en : va_E} (hR : Rep G ad M H) (h1 : 61 ≤ a) (hN : mN M' = mN M) (he : entO G ad M' a = en) (h : ∀ b, b ≠ a → mK M' b = mK M b ∧ mI M' b = mI M b ∧ mJ M' b = mJ M b ∧ mP M' b = mP M b) (hw : WF M')
    (hP : va_P (gC G, gI G) vwCl ((wsO G ad M).set (a - 61) (ad a, en)) H1) (hD : va_D (AA G) ((wsO G ad M).set (a - 61) (ad a, en))) : Rep G ad M' H1 := by
  subst he
  rw [wsO_set h1 hN h hR.2.1] at hP hD
  exact ⟨hR.1, hw, hP, hD⟩
theorem WF_rowI {M : Mem} (h : WF M) (a : Nat) (g : Nat → Int32) : WF (rowI M a g) := h
theorem WF_rowJ {M : Mem} (h : WF M) (a : Nat) (g : Nat → Int64) : WF (rowJ M a g) := h
theorem WF_setP {M : Mem} (h : WF M) {a i : Nat} {r : Option Nat} (hr : ∀ x, r = some x → x < mN M) : WF (setP M a i r) := by
  refine ⟨h.1, fun a' j x hx => ?_⟩
  show x < mN M
  by_cases e : a' = a
  · subst e
    have h9 : mP (setP M a' i r) a' = fu (mP M a') i r := if_pos rfl
    rw [h9] at hx
    by_cases e2 : j = i
    · subst e2; rw [fu_self] at hx; exact hr x hx
    · rw [fu_ne _ _ e2] at hx; exact h.2 _ _ _ hx
  · have h9 : mP (setP M a i r) a' = mP M a' := if_neg e
    rw [h9] at hx
    exact h.2 _ _ _ hx
theorem fu_at {α : Type} (f : Nat → α) (k : Nat) (v : α) (j : Nat) : fu f k v j = if j = k then v else f j := rfl
theorem apartI {M : Mem} {a : Nat} (g : Nat → Int32) : ∀ b, b ≠ a → mK (rowI M a g) b = mK M b ∧ mI (rowI M a g) b = mI M b ∧ mJ (rowI M a g) b = mJ M b ∧ mP (rowI M a g) b = mP M b := fun b hb => ⟨rfl, if_neg hb, rfl, rfl⟩
theorem apartJ {M : Mem} {a : Nat} (g : Nat → Int64) : ∀ b, b ≠ a → mK (rowJ M a g) b = mK M b ∧ mI (rowJ M a g) b = mI M b ∧ mJ (rowJ M a g) b = mJ M b ∧ mP (rowJ M a g) b = mP M b := fun b hb => ⟨rfl, rfl, if_neg hb, rfl⟩
theorem apartP {M : Mem} {a : Nat} (g : Nat → Option Nat) : ∀ b, b ≠ a → mK (rowP M a g) b = mK M b ∧ mI (rowP M a g) b = mI M b ∧ mJ (rowP M a g) b = mJ M b ∧ mP (rowP M a g) b = mP M b := fun b hb => ⟨rfl, rfl, rfl, if_neg hb⟩
/-- the row of a cell that has been written -/
theorem rI_self (M : Mem) (a : Nat) (g : Nat → Int32) : mI (rowI M a g) a = g := if_pos rfl
theorem rJ_self (M : Mem) (a : Nat) (g : Nat → Int64) : mJ (rowJ M a g) a = g := if_pos rfl
theorem rP_self (M : Mem) (a : Nat) (g : Nat → Option Nat) : mP (rowP M a g) a = g := if_pos rfl
/-- the values of an object's fields when one is written -/
theorem fs_set {ad : Nat → Nat} {M M' : Mem} {a ci f : Nat} {v : AV} (hf : f < stN ci) (h1 : fV M' a ci f = v) (h2 : ∀ f', f' ≠ f → fV M' a ci f' = fV M a ci f') :
    ((List.range (stN ci)).map (fun f => rv ad (fV M a ci f))).set f (rv ad v) = (List.range (stN ci)).map (fun f => rv ad (fV M' a ci f)) := by
  apply List.ext_getElem?
  intro j
  by_cases hj : j < stN ci
  · by_cases e : j = f
    · subst e
      rw [List.getElem?_set_self (by simp; exact hj), List.getElem?_map, List.getElem?_range hj, ← h1]; rfl
    · rw [List.getElem?_set_ne (Ne.symm e), List.getElem?_map, List.getElem?_map, List.getElem?_range hj]
      simp only [Option.map_some, h2 j e]
  · rw [List.getElem?_eq_none (by simp; omega), List.getElem?_eq_none (by simp; omega)]
theorem putfield_go {i o ci f pl a : Nat} {v : AV} {M' : Mem} (hd : decode (mB k) pc = .ok (.putfield i, 3)) (hf : (o, i, ci, f, pl) ∈ fL) (ho : mO k = o) (hk : oB M a ci)
    (hfin : ((vC ci).2.1 f).2.2.2 = false ∨ ((mY k).name = "<init>" ∧ ci = mO k))
    (hnar : ∀ ad : Nat → Nat, narrow (tyG ci f) (rv ad v) = rv ad v) (hfit : ∀ ad : Nat → Nat, fits (tyG ci f) (rv ad v) = true)
    (hN : mN M' = mN M) (hK : mK M' = mK M) (hap : ∀ b, b ≠ a → mK M' b = mK M b ∧ mI M' b = mI M b ∧ mJ M' b = mJ M b ∧ mP M' b = mP M b) (hv1 : fV M' a ci f = v) (hv2 : ∀ f', f' ≠ f → fV M' a ci f' = fV M a ci f')
    (hw : WF M → okV (mN M) v → WF M')
    (g : Go G d k qr qx (pc + 3) ls st M' b) : Go G d k qr qx pc ls (v :: aR (some a) :: st) M b := by
  obtain ⟨h1, h2, h3, h4, h5⟩ := fL_w hf
  obtain ⟨q1, q2, q3⟩ := hk
  intro U p e R s m args below meth c ad0 n0 hC ad H locs lsr hR hS ha hn hl hol hos hb
  have hN' : f < (vC ci).2.2 := by rw [vC_N h1]; exact h2
  have hget : (wsO G ad M)[a - 61]? = some (ad a, .inr (ci, (List.range (stN ci)).map (fun f => rv ad (fV M a ci f)))) := by rw [wsO_get q1 q2, entO_obj q3 h1]
  have hent : entO G ad M' a = .inr (ci, ((List.range (stN ci)).map (fun f => rv ad (fV M a ci f))).set f (rv ad v)) := by
    rw [entO_obj (by rw [hK]; exact q3) h1, fs_set h2 hv1 hv2]
  have kk : ∀ (H1 : Heap) (locs1 : List Loc), va_P (gC G, gI G) vwCl ((wsO G ad M).set (a - 61) (ad a, .inr (ci, ((List.range (stN ci)).map (fun f => rv ad (fV M a ci f))).set f (rv ad v)))) H1 → va_D (AA G) ((wsO G ad M).set (a - 61) (ad a, .inr (ci, ((List.range (stN ci)).map (fun f => rv ad (fV M a ci f))).set f (rv ad v)))) → va_S (AA G) s.heap H1 locs1 →
      W p (gl G) e R s m args below meth c H1 locs1 (U - b) (U - b) (vx_MQ below (QcE G ad0 n0 qr) (XcE G ad0 n0 qx) args s U U (AA G)) (F0 m (pc + 3) lsr (st.map (rv ad))) := fun H1 locs1 hP hD hS1 =>
    g U p e R s m args below meth c ad0 n0 hC ad H1 locs1 lsr (Rep_set hR q1 hN hent hap (hw hR.2.1 (okh hos)) hP hD) hS1 ha (by rw [hN]; exact hn) hl (by rw [hN]; exact hol) (by rw [hN]; exact okt (okt hos)) hb
  have hl9 : f < ((List.range (stN ci)).map (fun f => rv ad (fV M a ci f))).length := by simp; exact h2
  rcases Bool.eq_false_or_eq_true ((vC ci).2.1 f).2.2.2 with ef | ef
  · obtain ⟨e1, e2⟩ := hfin.resolve_left (by rw [ef]; simp)
    exact va_putF (own := mC k) (ref := (vC ci).1) (C := (vC ci).1) (T := (vC ci).2.1) (N := (vC ci).2.2) hC.1 hC.2.1 hC.2.2.2.2.2.1 (inG h1) (tyG ci) (tyG_ok h1) (nmG h1) hC.2.2.2.2.1 hC.2.2.2.2.2.2.2.2.2.1.1.1 hR.2.2.1 hR.2.2.2 hS (a - 61) hget (vC_at h1) f hN'
      (hC.2.2.2.2.2.1 _ (by subst ho; exact h3)) (fun x hx => by rw [h4] at hx; exact hx) ef (by rw [hC.2.2.2.2.2.2.2.2.1]; exact e1) (by rw [h4, h5, e2]; rfl) (tyG_ok h1 f hN') (hnar ad) (hfit ad) hl9 hd kk
  · exact va_put (own := mC k) (ref := (vC ci).1) (C := (vC ci).1) (T := (vC ci).2.1) (N := (vC ci).2.2) hC.1 hC.2.1 hC.2.2.2.2.2.1 (inG h1) (tyG ci) (tyG_ok h1) (nmG h1) hC.2.2.2.2.1 hC.2.2.2.2.2.2.2.2.2.1.1.1 hR.2.2.1 hR.2.2.2 hS (a - 61) hget (vC_at h1) f hN'
      (hC.2.2.2.2.2.1 _ (by subst ho; exact h3)) (fun x hx => by rw [h4] at hx; exact hx) ef (tyG_ok h1 f hN') (hnar ad) (hfit ad) hl9 hd kk
end

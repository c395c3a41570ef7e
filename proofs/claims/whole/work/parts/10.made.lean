/-! What is made: objects, arrays, arrays of arrays; System.arraycopy; statics; Object's constructor. -/
section
variable {G : GE} {d k : Nat} {qr : QR} {qx : QX} {pc : Nat} {ls st : List AV} {M : Mem} {b : Nat}
theorem Rep_push {ad : Nat → Nat} {H1 : Heap} {κ sz q : Nat} {en : va_E} (hA : adOK G ad) (hw : WF M) (he : entO G ad (newC M κ sz) (mN M) = en)
    (hP : va_P (gC G, gI G) vwCl (wsO G ad M ++ [(q, en)]) H1) (hD : va_D (AA G) (wsO G ad M ++ [(q, en)])) : Rep G (fu ad (mN M) q) (newC M κ sz) H1 := by
  subst he
  rw [← wsO_push hw] at hP hD
  exact ⟨adOK_fu hA hw.1, WF_newC hw κ sz, hP, hD⟩
theorem oL_w {o i ci p1 p2 p3 : Nat} (h : (o, i, ci, p1, p2, p3) ∈ oL_) : (Jvm.Cond.classLink (cN o) i (cN ci)) ∈ gT ∧ (Jvm.Cond.initialized (cN ci)) ∈ gT ∧ (Jvm.Cond.instantiable (cN ci) (vC ci).2.2) ∈ gT := by
  have h1 := of_decide_eq_true (List.all_eq_true.mp oL_ok _ h)
  exact ⟨gT_of h1.1 rfl, gT_of h1.2.1 rfl, gT_of h1.2.2 rfl⟩
theorem vC_own' {ci : Nat} (h : ci < 13) : (vC ci).1 = cN ci := of_decide_eq_true (List.all_eq_true.mp vC_own ci (List.mem_range.mpr h))
theorem fu_old {ad ad0 : Nat → Nat} {n0 n q : Nat} (ha : ∀ i, i < n0 → ad i = ad0 i) (hn : n0 ≤ n) : ∀ i, i < n0 → fu ad n q i = ad0 i := fun i hi => by rw [fu_ne _ _ (by omega)]; exact ha i hi
/-- the locals and the stack after a cell has been made -/
theorem Go_made {ad0 ad : Nat → Nat} {n0 : Nat} {U : Nat} {p : Program} {e : Env} {R : Room} {s : State} {m : MethodId} {args : Array Value} {below : List Frame} {meth : Method} {c : Code} {H1 : Heap} {locs : List Loc} {lsr : Array Slot} {M' : Mem} {pc' b' q : Nat}
    (hC : GoC G d k U p R s m args meth c) (ha : ∀ i, i < n0 → ad i = ad0 i) (hn : n0 ≤ mN M) (hl : lv_has lsr (mL k) (lpr ad 0 ls)) (hol : ∀ v ∈ ls, okV (mN M) v) (hos : ∀ v ∈ st, okV (mN M) v)
    (ad' : Nat → Nat) (had : ∀ i, i < mN M → ad' i = ad i) (hN : mN M < mN M') (hq : ad' (mN M) = q) (hR : Rep G ad' M' H1) (hS : va_S (AA G) s.heap H1 locs) (hb : b' ≤ U)
    (g : Go G d k qr qx pc' ls (aR (some (mN M)) :: st) M' b') : W p (gl G) e R s m args below meth c H1 locs (U - b') (U - b') (vx_MQ below (QcE G ad0 n0 qr) (XcE G ad0 n0 qx) args s U U (AA G)) (F0 m pc' lsr (.ref q :: st.map (rv ad))) := by
  have h := g U p e R s m args below meth c ad0 n0 hC ad' H1 locs lsr hR hS (fun i hi => (had i (by omega)).trans (ha i hi)) (by omega) (by rw [lpr_congr had 0 hol]; exact hl) (fun v hv => okV_mono (by omega) (hol v hv)) (okc hN (fun v hv => okV_mono (by omega) (hos v hv))) hb
  have e1 : (aR (some (mN M)) :: st).map (rv ad') = .ref q :: st.map (rv ad) := by
    show Value.ref (ad' (mN M)) :: st.map (rv ad') = _
    rw [hq, rv_map had hos]
  rw [e1] at h
  exact h
theorem def_rv {ad : Nat → Nat} {M : Mem} {κ sz ci f : Nat} (h : ci < 13) (hf : f < stN ci) : defaultValue (tyG ci f) = rv ad (fV (newC M κ sz) (mN M) ci f) := by
  have h1 := tyG_f h hf
  unfold fV
  rw [mI_newC, mJ_newC, mP_newC]
  unfold tyC at h1
  split at h1
  · next e => rw [of_decide_eq_true h1, e]; rfl
  · split at h1
    · next e => rw [of_decide_eq_true h1, e]; rfl
    · split at h1
      · next e => rw [of_decide_eq_true h1, e]; rfl
      · split at h1
        · next ty e => rw [e, of_decide_eq_true h1]; rfl
        · next ty e => rw [e, of_decide_eq_true h1]; rfl
        · cases h1
theorem g_new {i o ci p1 p2 p3 : Nat} (hd : decode (mB k) pc = .ok (.new i, 3)) (hf : (o, i, ci, p1, p2, p3) ∈ oL_) (ho : mO k = o) (h : ci < 13) (hbu : stN ci + 1 ≤ b)
    (g : Go G d k qr qx (pc + 3) ls (aR (some (mN M)) :: st) (newC M ci (stN ci)) (b - (stN ci + 1))) : Go G d k qr qx pc ls st M b := by
  intro U p e R s m args below meth c ad0 n0 hC ad H locs lsr hR hS ha hn hl hol hos hb
  obtain ⟨w1, w2, w3⟩ := oL_w hf
  subst ho
  have hU := hC.2.2.2.2.2.2.2.2.2.2.2.2.1
  have hU2 := hC.2.2.2.2.2.2.2.2.2.2.2.2.2.1
  have hN := vC_N h
  refine va_new (own := mC k) (C := (vC ci).1) (T := (vC ci).2.1) (N := (vC ci).2.2) (ci := ci) (fs := (List.range (stN ci)).map (fun f => rv ad (fV (newC M ci (stN ci)) (mN M) ci f))) hC.1 hC.2.1 hC.2.2.2.2.2.1 (inG h) (tyG ci) (tyG_ok h) hC.2.2.2.2.1
    (by rw [vC_own' h]; exact hC.2.2.2.2.2.1 _ w1) (by rw [vC_own' h]; exact hC.2.2.2.2.2.1 _ w3) (by rw [vC_own' h]; exact hC.2.2.2.2.2.1 _ w2) (envV hC) hR.2.2.1 hR.2.2.2 hS (fun q hq => Nat.le_trans (envK hC).2.2.1 hq) (vC_at h)
    (fun j hj => by
      rw [hN] at hj
      show _ = ((List.range (stN ci)).map (fun f => rv ad (fV (newC M ci (stN ci)) (mN M) ci f))).getD j .null
      rw [List.getD_eq_getElem?_getD, List.getElem?_map, List.getElem?_range hj]
      exact def_rv h hj) (by omega) (by rw [hN]; omega) hd (fun q H1 hP hD hS1 => ?_)
  rw [hN]
  refine W.widen (k := U - (b - (stN ci + 1))) (n := U - (b - (stN ci + 1))) (by omega) (by omega) ?_
  refine Go_made hC ha hn hl hol hos (fu ad (mN M) q) (fun i hi => fu_ne _ _ (by omega)) (Nat.lt_succ_self _) (fu_self _ _ _) (Rep_push hR.1 hR.2.1 ?_ hP hD) hS1 (by omega) g
  rw [entO_obj (by rw [mK_newC]) h]
theorem nIclamp (n : Int32) (h : 0 ≤ n.toInt) : ¬ n < 0 := fun q => by
  have := Int32.lt_iff_toInt_lt.mp q
  simp at this
  omega
theorem va_RAp {s : State} {cA cB : ClassId} {ty : FieldType} (h1 : va_RA s cA ty) (h2 : va_RA s cB ty) : cA = cB := by
  cases ty with
  | object C =>
    obtain ⟨-, -, -, -, -, e1⟩ := h1
    obtain ⟨-, -, -, -, -, e2⟩ := h2
    exact Option.some.inj (e1.symm.trans e2)
  | _ => exact Option.some.inj (h1.symm.trans h2)
theorem iN_le {n : Int32} {m : Nat} (h0 : 0 ≤ n.toInt) (h : n.toInt ≤ m) : iN n ≤ m := by
  show n.toInt.toNat ≤ m
  omega
theorem va_same {s : State} {cA : ClassId} {ty : FieldType} {κ : Nat} (h1 : 20 ≤ κ) (h2 : κ ≤ 27) (ht : (tysG G)[κ - 20]? = some (gA G κ, ty)) (hV : va_K (gC G, gI G) vwCl (tysG G) s) (hK : va_K (gC G, gI G) vwCl (tysG G ++ [(cA, ty)]) s) : cA = gA G κ :=
  va_RAp (hK.2 8 (cA, ty) rfl).2 (hV.2 _ _ ht).2
theorem newa_go {i : Int32} {t : ArrayType} {κ : Nat} {ty : FieldType} (hd : decode (mB k) pc = .ok (.newarray t, 2)) (hty : newarray.typeOf t = ty) (hw9 : Jvm.Cond.arrayClass ty ∈ gT) (h1 : 20 ≤ κ) (h2 : κ ≤ 27) (ht : (tysG G)[κ - 20]? = some (gA G κ, ty)) (hn0 : 0 ≤ i.toInt) (hn1 : i.toInt ≤ 100000) (hcb : componentBytes ty ≤ 8) (hbu : iN i + 1 ≤ b) {x : vp_A}
    (hx : ∀ cA : ClassId, vp_cell cA x = arrV cA (iN i) (fun _ => defaultValue ty)) (hxe : ∀ ad, entO G ad (newC M κ (iN i)) (mN M) = .inl (gA G κ, x))
    (g : Go G d k qr qx (pc + 2) ls (aR (some (mN M)) :: st) (newC M κ (iN i)) (b - (iN i + 1))) : Go G d k qr qx pc ls (aI i :: st) M b := by
  intro U p e R s m args below meth c ad0 n0 hC ad H locs lsr hR hS ha hn hl hol hos hb
  have hU := hC.2.2.2.2.2.2.2.2.2.2.2.2.1
  have hU2 := hC.2.2.2.2.2.2.2.2.2.2.2.2.2.1
  have hle : iN i ≤ 100000 := by show i.toInt.toNat ≤ 100000; omega
  refine va_newa hC.1 hC.2.1 (by rw [hty]; exact hC.2.2.2.2.2.1 _ hw9) hty (envV hC) hR.2.2.1 hR.2.2.2 hS (fun q hq => Nat.le_trans (envK hC).2.2.1 hq) (N' := iN i) (a0 := x) hx (nIclamp i hn0) rfl ?_ (by omega) (by omega) hd (fun q cA H1 hK hP hD hS1 => ?_)
  · exact Nat.le_trans (Nat.mul_le_mul hle hcb) (Nat.le_of_ble_eq_true rfl)
  · have ec : cA = gA G κ := va_same h1 h2 ht (envV hC) hK
    subst ec
    refine W.widen (k := U - (b - (iN i + 1))) (n := U - (b - (iN i + 1))) (by omega) (by omega) ?_
    exact Go_made hC ha hn hl hol (okt hos) (fu ad (mN M) q) (fun i hi => fu_ne _ _ (by omega)) (Nat.lt_succ_self _) (fu_self _ _ _) (Rep_push hR.1 hR.2.1 (hxe ad) hP hD) hS1 (by omega) g
theorem wArr : Jvm.Cond.arrayClass .int ∈ gT ∧ Jvm.Cond.arrayClass .long ∈ gT ∧ Jvm.Cond.arrayClass .boolean ∈ gT := by
  have h : (lw_tbl.any fun w => decide (w = .arrayClass .int)) = true ∧ (lw_tbl.any fun w => decide (w = .arrayClass .long)) = true ∧ (lw_tbl.any fun w => decide (w = .arrayClass .boolean)) = true := by decide +kernel
  have key : ∀ {w : Jvm.Cond}, goodWord w = true → (lw_tbl.any fun v => decide (v = w)) = true → w ∈ gT := fun hg h => by
    obtain ⟨v, hv, he⟩ := List.any_eq_true.mp h
    rw [← of_decide_eq_true he]
    exact List.mem_filter.mpr ⟨hv, by rw [of_decide_eq_true he]; exact hg⟩
  exact ⟨key rfl h.1, key rfl h.2.1, key rfl h.2.2⟩
theorem g_newarray {i : Int32} {t : ArrayType} (hd : decode (mB k) pc = .ok (.newarray t, 2)) (hk : akT t < 23) (hn0 : 0 ≤ i.toInt) (hn1 : i.toInt ≤ 100000) (hbu : iN i + 1 ≤ b)
    (g : Go G d k qr qx (pc + 2) ls (aR (some (mN M)) :: st) (newC M (akT t) (iN i)) (b - (iN i + 1))) : Go G d k qr qx pc ls (aI i :: st) M b := by
  have e0 : ∀ κ, (mK (newC M κ (iN i)) (mN M)).1 = κ := fun κ => by rw [mK_newC]
  have e2 : ∀ κ, (mK (newC M κ (iN i)) (mN M)).2 = iN i := fun κ => by rw [mK_newC]
  cases t <;> first | (exact absurd hk (by decide)) | skip
  · exact newa_go (κ := 22) (ty := .boolean) (x := (iN i, .inl (fun _ => 0))) hd rfl wArr.2.2 (by omega) (by omega) rfl hn0 hn1 (by decide) hbu (fun cA => rfl) (fun ad => by rw [entO_int (e0 22) (Or.inr rfl), e2, mI_newC]) g
  · exact newa_go (κ := 20) (ty := .int) (x := (iN i, .inl (fun _ => 0))) hd rfl wArr.1 (by omega) (by omega) rfl hn0 hn1 (by decide) hbu (fun cA => rfl) (fun ad => by rw [entO_int (e0 20) (Or.inl rfl), e2, mI_newC]) g
  · exact newa_go (κ := 21) (ty := .long) (x := (iN i, .inr (.inl (fun _ => 0)))) hd rfl wArr.2.1 (by omega) (by omega) rfl hn0 hn1 (by decide) hbu (fun cA => rfl) (fun ad => by rw [entO_long (e0 21), e2, mJ_newC]) g
theorem aL_w {o i κ p1 : Nat} (h : (o, i, κ, p1) ∈ aL_) : (Jvm.Cond.classLink (cN o) i (aNm κ)) ∈ gT := gT_of (of_decide_eq_true (List.all_eq_true.mp aL_ok _ h)) rfl
theorem g_anewarray {i o κ p1 : Nat} {n : Int32} (hd : decode (mB k) pc = .ok (.anewarray i, 3)) (hf : (o, i, κ, p1) ∈ aL_) (ho : mO k = o) (hκ : κ = 23 ∨ κ = 24 ∨ κ = 27) (hn0 : 0 ≤ n.toInt) (hn1 : n.toInt ≤ 100000) (hbu : iN n + 1 ≤ b)
    (g : Go G d k qr qx (pc + 3) ls (aR (some (mN M)) :: st) (newC M κ (iN n)) (b - (iN n + 1))) : Go G d k qr qx pc ls (aI n :: st) M b := by
  intro U p e R s m args below meth c ad0 n0 hC ad H locs lsr hR hS ha hn hl hol hos hb
  have hU := hC.2.2.2.2.2.2.2.2.2.2.2.2.1
  have hU2 := hC.2.2.2.2.2.2.2.2.2.2.2.2.2.1
  have hle : iN n ≤ 100000 := by show n.toInt.toNat ≤ 100000; omega
  subst ho
  have hw := aL_w hf
  have hex : va_AO (aNm κ) s ∧ (tysG G)[κ - 20]? = some (gA G κ, .object (aNm κ)) := by
    obtain ⟨-, -, -, a1, a2, a3, -⟩ := (envK hC).1
    rcases hκ with h | h | h <;> subst h
    · exact ⟨a1, rfl⟩
    · exact ⟨a2, rfl⟩
    · exact ⟨a3, rfl⟩
  refine va_newq (C := aNm κ) hC.1 hC.2.1 hC.2.2.2.2.1 (hC.2.2.2.2.2.1 _ hw) hex.1 (envV hC) hR.2.2.1 hR.2.2.2 hS (fun q hq => Nat.le_trans (envK hC).2.2.1 hq) (N' := iN n) (nIclamp n hn0) rfl (by omega) (by omega) (by omega) hd (fun q cA H1 hK hP hD hS1 => ?_)
  have ec : cA = gA G κ := va_same (by omega) (by omega) hex.2 (envV hC) hK
  subst ec
  refine W.widen (k := U - (b - (iN n + 1))) (n := U - (b - (iN n + 1))) (by omega) (by omega) ?_
  refine Go_made hC ha hn hl hol (okt hos) (fu ad (mN M) q) (fun i hi => fu_ne _ _ (by omega)) (Nat.lt_succ_self _) (fu_self _ _ _) (Rep_push hR.1 hR.2.1 ?_ hP hD) hS1 (by omega) g
  rw [entO_ref (by rw [mK_newC]) (by omega), mK_newC, mP_newC]
  rfl
end

/-! A method's contract out of the weakest precondition of its body. -/
def entA : List AV → List AV
  | [] => []
  | .inr (.inl x) :: t => aL x :: aU :: entA t
  | v :: t => v :: entA t
def ent (n : Nat) (args : List AV) : List AV := entA args ++ List.replicate (n - (entA args).length) aU
theorem entA_mem {ad : Nat → Nat} : ∀ {args : List AV} {i0 : Nat} {q : Nat × Value}, q ∈ lpr ad i0 (entA args) → q ∈ lv_args i0 (args.map (rv ad))
  | [], i0, q, h => by simp [entA, lpr] at h
  | v :: t, i0, q, h => by
    rcases v with x | x | r | z
    · have h9 : q ∈ lpr ad i0 (aI x :: entA t) := h
      unfold lpr at h9
      rw [if_neg (by simp [isU])] at h9
      rcases List.mem_cons.mp h9 with e | h9
      · exact List.mem_cons.mpr (Or.inl e)
      · exact List.mem_cons_of_mem _ (entA_mem h9)
    · have h9 : q ∈ lpr ad i0 (aL x :: aU :: entA t) := h
      unfold lpr at h9
      rw [if_neg (by simp [isU])] at h9
      rcases List.mem_cons.mp h9 with e | h9
      · exact List.mem_cons.mpr (Or.inl e)
      · unfold lpr at h9
        rw [if_pos (show isU aU = true from rfl)] at h9
        exact List.mem_cons_of_mem _ (entA_mem h9)
    · have h9 : q ∈ lpr ad i0 (aR r :: entA t) := h
      unfold lpr at h9
      rw [if_neg (by simp [isU])] at h9
      have hc : (rv ad (aR r)).category ≠ 2 := by cases r <;> simp [rv, Value.category]
      rcases List.mem_cons.mp h9 with e | h9
      · exact List.mem_cons.mpr (Or.inl e)
      · refine List.mem_cons_of_mem _ ?_
        have := entA_mem (i0 := i0 + 1) h9
        rw [show (if (rv ad (aR r)).category = 2 then i0 + 2 else i0 + 1) = i0 + 1 from if_neg hc]
        exact this
    · cases z with
      | none =>
        have h9 : q ∈ lpr ad i0 (aU :: entA t) := h
        unfold lpr at h9
        rw [if_pos (show isU aU = true from rfl)] at h9
        exact List.mem_cons_of_mem _ (entA_mem h9)
      | some z =>
        have h9 : q ∈ lpr ad i0 (aX z :: entA t) := h
        unfold lpr at h9
        rw [if_neg (by simp [isU])] at h9
        rcases List.mem_cons.mp h9 with e | h9
        · exact List.mem_cons.mpr (Or.inl e)
        · exact List.mem_cons_of_mem _ (entA_mem h9)
theorem lpr_app {ad : Nat → Nat} : ∀ (l : List AV) (i0 n : Nat), lpr ad i0 (l ++ List.replicate n aU) = lpr ad i0 l
  | [], i0, 0 => rfl
  | [], i0, n + 1 => by
    rw [List.nil_append, List.replicate_succ]
    show (if isU aU = true then lpr ad (i0 + 1) (List.replicate n aU) else _) = _
    rw [if_pos (show isU aU = true from rfl)]
    exact lpr_app [] (i0 + 1) n
  | v :: t, i0, n => by
    show (if isU v = true then lpr ad (i0 + 1) (t ++ List.replicate n aU) else (i0, rv ad v) :: lpr ad (i0 + 1) (t ++ List.replicate n aU)) = (if isU v = true then lpr ad (i0 + 1) t else (i0, rv ad v) :: lpr ad (i0 + 1) t)
    rw [lpr_app t (i0 + 1) n]
theorem ent_mem {ad : Nat → Nat} {n : Nat} {args : List AV} : ∀ q ∈ lpr ad 0 (ent n args), q ∈ lv_args 0 (args.map (rv ad)) := fun q h => by
  unfold ent at h
  rw [lpr_app] at h
  exact entA_mem h
theorem entA_len {ad : Nat → Nat} : ∀ args : List AV, (lg_sl (args.map (rv ad))).length ≤ (entA args).length
  | [] => Nat.le_refl 0
  | v :: t => by
    have ih := entA_len (ad := ad) t
    unfold lg_sl at ih ⊢
    rw [List.map_cons, List.flatMap_cons, List.length_append]
    rcases v with x | x | r | z
    · show 1 + _ ≤ (entA t).length + 1; omega
    · show 2 + _ ≤ (entA t).length + 2; omega
    · have : (rv ad (aR r)).category = 1 := by cases r <;> rfl
      show (if (rv ad (aR r)).category = 2 then [Slot.val (rv ad (aR r)), Slot.second] else [Slot.val (rv ad (aR r))]).length + _ ≤ (entA t).length + 1
      rw [if_neg (by omega)]
      show 1 + _ ≤ _
      omega
    · have : (rv ad (.inr (.inr (.inr z)))).category = 1 := by cases z <;> rfl
      have h2 : (entA (.inr (.inr (.inr z)) :: t)).length = (entA t).length + 1 := by cases z <;> rfl
      show (if (rv ad (.inr (.inr (.inr z)))).category = 2 then [Slot.val (rv ad (.inr (.inr (.inr z)))), Slot.second] else [Slot.val (rv ad (.inr (.inr (.inr z))))]).length + _ ≤ _
      rw [if_neg (by omega), h2]
      show 1 + _ ≤ _
      omega
theorem ent_ok {n q : Nat} {args : List AV} (h : ∀ v ∈ args, okV q v) : ∀ v ∈ ent n args, okV q v := by
  have key : ∀ l : List AV, (∀ v ∈ l, okV q v) → ∀ v ∈ entA l, okV q v := by
    intro l
    induction l with
    | nil => intro _ v hv; cases hv
    | cons w t ih =>
      intro hl v hv
      have ht := ih (okt hl)
      rcases w with x | x | r | z
      · exact (List.mem_cons.mp hv).elim (fun e => by rw [e]; trivial) (ht v)
      · rcases List.mem_cons.mp hv with e | hv
        · rw [e]; trivial
        · exact (List.mem_cons.mp hv).elim (fun e => by rw [e]; trivial) (ht v)
      · exact (List.mem_cons.mp hv).elim (fun e => by rw [e]; exact okh hl) (ht v)
      · have h2 : v ∈ .inr (.inr (.inr z)) :: entA t := by cases z <;> exact hv
        exact (List.mem_cons.mp h2).elim (fun e => by rw [e]; trivial) (ht v)
  intro v hv
  rcases List.mem_append.mp hv with h1 | h1
  · exact key args h v h1
  · rw [(List.mem_replicate.mp h1).2]; trivial
theorem vy_ofWF {l : Launch} {y : MethodName} {ws ws' : List Cond} {rm : Room} {Pc : Array Value → State → Prop} {Qc : Array Value → State → Outcome → State → Prop} {XC : String → State → State → Prop} {mc ms : Nat} {free : Addr → Prop} {cc : ByteArray} {maxL : Nat} {ret : Option FieldType}
    (hy : plainFor y = true) (hw : ws = Cond.code y cc maxL ret :: ws')
    (body : ∀ p e s m args below meth c s₁, BodyLoose p l y (headSpec ws rm) cc maxL ret e s m args below meth c s₁ → c.maxLocals = maxL → c.exceptionTable.toList = [] → Pc args s →
      W p l e (headSpec ws rm).room s m args below meth c s.heap [] 0 0 (vx_MQ below Qc XC args s mc ms free) (entryFrame m args maxL)) : vx_Met l y ws rm Pc Qc XC mc ms free := by
  refine MetFree.of_bodySF (code := cc) (maxLocals := maxL) (ret := ret) hy ?_ ?_
  · intro args s m h hn
    obtain ⟨meth, c, h1, h2, h3, h4, h5, h6, -, -⟩ := Cond.code_spec hn (atoms_spec (ws := ws) h _ (by rw [hw]; exact List.mem_cons_self))
    exact ⟨meth, c, h1, h2, h3, h4, h5, h6⟩
  · intro p e s m args below meth c s₁ B hml hP _
    have hh0 : s₁.heap = s.heap := by rw [B.state]; rfl
    have ht : c.exceptionTable.toList = [] := by
      obtain ⟨meth9, c9, h1, h2, -, -, -, -, h7, -⟩ := Cond.code_spec B.named (atoms_spec (ws := ws) B.pre _ (by rw [hw]; exact List.mem_cons_self))
      cases Option.some.inj (h1.symm.trans B.method)
      cases Option.some.inj (h2.symm.trans (Stand.of_body B).code)
      rw [Array.isEmpty_iff.mp h7]
    obtain ⟨t, a1, o, b1, b2, b3⟩ := body p e s m args below meth c s₁ B hml ht hP s₁ hh0 (Stand.of_body B)
    exact ⟨t, o, a1, b1, b2, b3⟩
section
variable {G : GE} {d k : Nat} {qr : QR} {qx : QX} {M : Mem} {u : Nat}
theorem Ev_go {args : List AV} (hst : (gl G).stackTraces = false) (hk : k < 254) (hfit : (entA args).length ≤ mL k) (g : Go G d k qr qx 0 (ent (mL k) args) [] M u) : Ev G (d + 1) k args M u qr qx := by
  intro ad
  have hpl : plainFor (mY k) = true := plF k (by omega)
  have common : ∀ p e s m (av : Array Value) below meth c s₁, BodyLoose p (gl G) (mY k) (headSpec (wsM k) (rmE (d + 1) u)) (mB k) (mL k) (mR k) e s m av below meth c s₁ → c.maxLocals = mL k → c.exceptionTable.toList = tableOf (mH k) → PcE G ad M args av s →
      W p (gl G) e (headSpec (wsM k) (rmE (d + 1) u)).room s m av below meth c s.heap [] 0 0 (vx_MQ below (QcE G ad (mN M) qr) (XcE G ad (mN M) qx) av s u u (AA G)) (entryFrame m av (mL k)) := by
    intro p e s m av below meth c s₁ B hml htab hv
    obtain ⟨rfl, hE, hR, hok⟩ := hv
    have hts := atoms_spec (ws := wsM k) B.pre
    have hC : GoC G d k u p (rmE (d + 1) u) s m ((args.map (rv ad)).toArray) meth c := ⟨B.exec, B.bytes, B.returns, hml, by rw [← (cL_w hk).2.1]; exact findClass_of_methodNamed B.named, fun w hw => hts w (List.mem_cons_of_mem _ hw), B.notSynchronized, htab, (name_of_methodNamed B.named B.method).1, hE, by show d + 17 ≤ d + 1 + 16; omega, by show 45 * d + 345 ≤ 45 * (d + 1) + 300; omega, Nat.le_refl _, Nat.le_refl _, hst⟩
    have hl := lv_entry (args.map (rv ad)) (n := mL k) (Nat.le_trans (entA_len args) hfit)
    rw [lg_entry_eq]
    generalize (lg_sl (args.map (rv ad)) ++ List.replicate (mL k - (lg_sl (args.map (rv ad))).length) Slot.unset).toArray = lsr at hl ⊢
    have h := g u p e (rmE (d + 1) u) s m _ below meth c ad (mN M) hC ad s.heap [] lsr hR va_S.rf (fun _ _ => rfl) (Nat.le_refl _) (lv_less hl ent_mem) (ent_ok hok) (fun v hv => by cases hv) (Nat.le_refl _)
    rw [Nat.sub_self] at h
    exact h
  by_cases hh : mH k = []
  · refine vy_ofWF (cc := mB k) (maxL := mL k) (ret := mR k) (ws' := gT) hpl (by unfold wsM; rw [cWd_code hh]) (fun p e s m av below meth c s₁ B hml ht hv => common p e s m av below meth c s₁ B hml (by rw [ht, hh]; rfl) hv)
  · have hcd : cWd k = .codeWith (mY k) (mB k) (mL k) (mR k) (mH k) := by
      unfold cWd
      rw [if_neg (by intro h; exact hh (List.isEmpty_iff.mp h))]
    have hpn : plainName (mY k).cls = true := by
      obtain ⟨z, hz⟩ := List.exists_mem_of_ne_nil _ hh
      have h13 := (of_decide_eq_true (List.all_eq_true.mp (List.all_eq_true.mp mH_tab k (List.mem_range.mpr (by omega))) z hz)).1
      rw [(cL_w hk).2.1]
      unfold mC
      rw [h13]
      decide +kernel
    refine vx_ofWH (cc := mB k) (maxL := mL k) (ret := mR k) (hh := mH k) (ws' := gT) hpn (by unfold wsM; rw [hcd]) (fun p e s m av below meth c s₁ B hml hv => common p e s m av below meth c s₁ B hml ?_ hv)
    exact vx_table (x := mY k) B (by rw [← hcd]; exact atoms_spec (ws := wsM k) B.pre _ List.mem_cons_self)
theorem Ev_wp (n : Nat) {args : List AV} (hst : (gl G).stackTraces = false) (hk : k < 254) (hfit : (entA args).length ≤ mL k) (h : wp (WCo G d k qr qx) k n 0 (ent (mL k) args) [] M u) : Ev G (d + 1) k args M u qr qx := Ev_go hst hk hfit (wp_go n 0 _ _ _ _ h)
/-- a contract is weakened -/
theorem Ev_post {args : List AV} {qr' : QR} {qx' : QX} (h : Ev G d k args M u qr qx) (h1 : ∀ r M', qr r M' → qr' r M') (h2 : ∀ x M', qx x M' → qx' x M') : Ev G d k args M u qr' qx' := by
  intro ad p e ha hc hk s m av below hf happ hP hK
  obtain ⟨n, o, a1, a2, a3, a4⟩ := h ad p e ha hc hk s m av below hf happ hP hK
  refine ⟨n, o, a1, a2, a3, ?_⟩
  rcases a4 with ⟨⟨r, ad', M', b1, b2, b3⟩, b4⟩ | ⟨q, b0, E, ce, L, ⟨x, ad', M', b1, bx, b2, b3⟩, b4⟩
  · exact Or.inl ⟨⟨r, ad', M', b1, h1 _ _ b2, b3⟩, b4⟩
  · exact Or.inr ⟨q, b0, E, ce, L, ⟨x, ad', M', b1, bx, h2 _ _ b2, b3⟩, b4⟩
end

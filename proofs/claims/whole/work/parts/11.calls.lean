/-! Calls, returns, throws. -/
section
variable {p : Program} {l : Launch} {e : Env} {R : Room} {s : State} {m : MethodId} {args : Array Value} {below : List Frame} {meth : Method} {c : Code} {T : State} {locs : List Loc} {cells slots : Nat}
theorem vy_callI (X : Stand p l e R s m args below meth c T locs cells slots) (hexec : p.tables.exec = Jvm.exec) {own : String} {index : Nat} {y : MethodName} {bytes : ByteArray} {maxL : Nat}
    (hown : s.vm.findClass own = some m.cls) (hy1 : y.name = "<init>") (hlink : (Cond.methodLink own index y).before args s = true ∨ ∃ host, (Cond.methodLinkNest own index y host).before args s = true) (hinst : (Cond.instanceMethod y).before args s = true)
    (hcode : (Cond.code y bytes maxL none).before args s = true) (hy : y.cls ≠ "java/lang/invoke/MethodHandle" ∧ y.cls ≠ "java/lang/invoke/VarHandle")
    {W9 : Nat} {Pre : Pt → Array Value → Prop} {Post : Pt → Array Value → Option Value → Pt → Prop} {PostX : Pt → Array Value → Addr → Pt → Prop} (hK : vx_Back l R p e below s args y 3 W9 Pre Post PostX)
    {g : JFrame} (hg : g.method = m) (hsize : g.locals.size = c.maxLocals) {a : Addr} {argsL rest : List Value} (hlen : ∀ sig, parseMethodDescriptor y.desc = some sig → argsL.length = sig.parameters.length)
    (hstack : g.stack = argsL.reverse ++ .ref a :: rest) (hW : 2 * g.monitorRoom + (rest.map fun v => v.category).sum ≤ W9) (hdg : decode c.code g.pc = .ok (.invokespecial index, 3))
    (hpre : ∀ vm₁, s.WarmedH vm₁ → Pre ⟨T.setVm vm₁, locs, cells, slots⟩ (Value.ref a :: argsL).toArray) :
    (∃ (v : Option Value) (vm₁ : Vm) (B : Pt), s.WarmedH vm₁ ∧ Stand p l e R s m args below meth c B.U B.locs B.cells B.slots ∧ Post ⟨T.setVm vm₁, locs, cells, slots⟩ (Value.ref a :: argsL).toArray v B ∧
      ∀ target, Steps p.tables e below (B.U.setTop { g with pc := g.pc + 3, stack := v.toList ++ rest }) target → Steps p.tables e below (T.setTop g) target) ∨
    (∃ (q : Addr) (vm₁ : Vm) (B : Pt), s.WarmedH vm₁ ∧ Stand p l e R s m args below meth c B.U B.locs B.cells B.slots ∧ PostX ⟨T.setVm vm₁, locs, cells, slots⟩ (Value.ref a :: argsL).toArray q B ∧
      Steps p.tables e below (T.setTop g) ((B.U.setTop { g with stack := rest }).pushFrame (.throwing q))) := by
  subst hg
  have hpl : e.platform.magicAccessors = ({} : Platform).magicAccessors := by rw [X.admits.platform]
  rcases hlink with hlink | ⟨host, hlink⟩
  · obtain ⟨mk, methM, cM, kP, vm₁, hnamed, hmethM, hcodeM, -, hlocalsM, -, hkP, -, hW₁, hstep₁⟩ := Steps.initColdArgs (e := e) X.here hexec X.warmed hpl hown hy1 hy hlink hinst hcode (f := g) rfl hlen hstack hdg
    have X₁ := X.noted hW₁
    rcases hK g.method meth c ⟨T.setVm vm₁, locs, cells, slots⟩ { g with stack := rest } (.invokespecial index) mk (Value.ref a :: argsL).toArray X₁ rfl hsize hdg hW (X₁.named hnamed) (hpre vm₁ X₁.warmed) with ⟨v, B, X', hpost, hsteps⟩ | ⟨q, B, X', hpost, hsteps⟩
    · exact Or.inl ⟨v, vm₁, B, X₁.warmed, X', hpost, fun target h => hstep₁ _ fun acts => by rw [doInvoke_state]; exact hsteps.trans h⟩
    · exact Or.inr ⟨q, vm₁, B, X₁.warmed, X', hpost, hstep₁ _ fun acts => by rw [doInvoke_state]; exact hsteps⟩
  · obtain ⟨mk, methM, cM, kP, vm₁, hnamed, hmethM, hcodeM, -, hlocalsM, -, hkP, -, hW₁, hstep₁⟩ := Steps.initColdArgsNest (e := e) X.here hexec X.warmed hpl hown hy1 hy hlink hinst hcode (f := g) rfl hlen hstack hdg
    have X₁ := X.noted hW₁
    rcases hK g.method meth c ⟨T.setVm vm₁, locs, cells, slots⟩ { g with stack := rest } (.invokespecial index) mk (Value.ref a :: argsL).toArray X₁ rfl hsize hdg hW (X₁.named hnamed) (hpre vm₁ X₁.warmed) with ⟨v, B, X', hpost, hsteps⟩ | ⟨q, B, X', hpost, hsteps⟩
    · exact Or.inl ⟨v, vm₁, B, X₁.warmed, X', hpost, fun target h => hstep₁ _ fun acts => by rw [doInvoke_state]; exact hsteps.trans h⟩
    · exact Or.inr ⟨q, vm₁, B, X₁.warmed, X', hpost, hstep₁ _ fun acts => by rw [doInvoke_state]; exact hsteps⟩
theorem vy_runI {H : Heap} {y : MethodName} {bytes cc : ByteArray} {maxL nL mc ms n index : Nat} {ws : List Cond} {rm : Room} {Pc : Array Value → State → Prop} {Qc : Array Value → State → Outcome → State → Prop} {XC : String → State → State → Prop} {free : Addr → Prop} {Ts : List Cond} {own : String} {b : Addr} {As rest : List Value} {g : JFrame}
    (S : CallFix p m c cc nL s args Ts own) (hM : vx_Met l y ws rm Pc Qc XC mc ms free) (hrc : rm.cells = mc) (hrs : rm.slots = ms) (hfr : rm.frames + 1 ≤ R.frames) (hlo : 8 + (maxL + 11) + rm.locals ≤ R.locals) (hws : ∀ w ∈ ws, ∀ (a' : Array Value) (U : State), s.WarmedH U.vm → w.before a' U = true) (hcw : Cond.code y bytes maxL none ∈ ws) (hcode : (Cond.code y bytes maxL none).before args s = true) (hini : (Cond.initialized y.cls).before args s = true) (hy : y.cls ≠ "java/lang/invoke/MethodHandle" ∧ y.cls ≠ "java/lang/invoke/VarHandle") (hlen : ∀ sig, parseMethodDescriptor y.desc = some sig → n = sig.parameters.length)
    (hl : (Cond.methodLink own index y).before args s = true ∨ ∃ host, (Cond.methodLinkNest own index y host).before args s = true) (hy1 : y.name = "<init>") (hin : (Cond.instanceMethod y).before args s = true) (hp : PreS s H Pc (.ref b :: As))
    (hg : g.method = m) (hn : As.length = n) (hsize : g.locals.size = nL) (hstack : g.stack = As.reverse ++ .ref b :: rest) (hW : 2 * g.monitorRoom + (rest.map fun v => v.category).sum ≤ 8) (hdg : decode cc g.pc = .ok (.invokespecial index, 3)) (hf : cells + mc ≤ R.cells ∧ slots + ms ≤ R.slots) :
    vx_Run p l e R s m args below meth c H locs cells slots mc ms g rest (Qc (Value.ref b :: As).toArray) XC free := by
  have hK : vx_Back l R p e below s args y 3 8 (PreOf R mc ms Pc) (PostOf Qc mc ms free) (vx_Post XC mc ms free) := vx_back (bytes := bytes) (maxL := maxL) (ret := none) hM hp.1 hrc hrs hfr hlo hws hcw (fun a' U hW => word_at hW (Or.inl (by first | rfl | simp [Cond.onTables, Cond.keeps, Cond.steady])) hini)
  obtain ⟨hx, hb, hml, ho, -⟩ := S
  intro T hT X
  rcases vy_callI X hx (bytes := bytes) (maxL := maxL) ho hy1 hl hin hcode hy hK hg (hsize.trans hml.symm) (a := b) (argsL := As) (rest := rest) (fun sig h => hn.trans (hlen sig h)) hstack hW (by rw [hb]; exact hdg)
    (fun vm₁ hW₁ => ⟨hf.1, hf.2, hp.2 (T.setVm vm₁) hT hW₁⟩) with ⟨v, vm₁, ⟨U', l2, c2, s2⟩, hW₁, X', ⟨g', mk, t, L, e1, e2, hq, h1, hL, h2, h3⟩, st⟩ | ⟨q, vm₁, ⟨U', l2, c2, s2⟩, hW₁, X', ⟨g', mk, t, L, E, ce, e1, e2, hq, hce, hcv, hcl, h1, hL, h2, h3⟩, st⟩
  · dsimp only [Pt.U, Pt.locs, Pt.cells, Pt.slots] at X' e1 e2 h1 h2 h3 st
    subst h1; subst h2; subst h3
    exact Or.inl ⟨v, (T.setVm vm₁).calling g' mk (Value.ref b :: As).toArray, t, U', L, hT, X', hL, e1, e2, hq, st⟩
  · dsimp only [Pt.U, Pt.locs, Pt.cells, Pt.slots] at X' e1 e2 h1 h2 h3 st hcl
    subst h1; subst h2; subst h3
    exact Or.inr ⟨q, (T.setVm vm₁).calling g' mk (Value.ref b :: As).toArray, t, U', L, E, ce, hT, X', hL, e1, e2, hq, hce, hcv, vx_cls hW₁ hcl, st⟩
end
/-- what a method's own words say -/
theorem cL_at : ((List.range 254).all fun j => match cL_[j]? with | some q => decide (q.1 = j) | none => false) = true := by decide +kernel
theorem cL_w {j : Nat} (h : j < 254) : Jvm.Cond.initialized (mC j) ∈ gT ∧ (mY j).cls = mC j ∧ (mC j ≠ "java/lang/invoke/MethodHandle" ∧ mC j ≠ "java/lang/invoke/VarHandle") := by
  have h1 := List.all_eq_true.mp cL_at j (List.mem_range.mpr h)
  cases hq : cL_[j]? with
  | none => rw [hq] at h1; cases h1
  | some q =>
    rw [hq] at h1
    have e := of_decide_eq_true h1
    have h2 := List.all_eq_true.mp cL_ok q (List.mem_of_getElem? hq)
    simp only [cLp, Bool.and_eq_true, decide_eq_true_eq] at h2
    rw [e] at h2
    exact ⟨gT_of h2.1.1 rfl, h2.1.2, h2.2⟩
theorem cWd_good (j : Nat) : goodWord (cWd j) = true := by unfold cWd; split <;> rfl
theorem cW_g {j : Nat} (h : j < 254) : cWd j ∈ gT := by
  obtain ⟨i, hi⟩ := cw j h
  exact gT_of hi (cWd_good j)
theorem gT_good {w : Jvm.Cond} (h : w ∈ gT) : (w.onTables && w.keeps) = true ∨ ∃ ty, w = .arrayClass ty := good_of_word (List.mem_filter.mp h).2
theorem wsM_good {j : Nat} (h : j < 254) : GoodIn gT (wsM j) := fun w hw => (List.mem_cons.mp hw).elim (fun e => by rw [e]; exact ⟨cW_g h, gT_good (cW_g h)⟩) (fun hw => ⟨hw, gT_good hw⟩)
theorem cWd_code {j : Nat} (h : mH j = []) : cWd j = .code (mY j) (mB j) (mL j) (mR j) := by unfold cWd; rw [h]; rfl
theorem mL_le : ((List.range 255).all fun j => decide (mL j ≤ 26)) = true := by decide +kernel
theorem mL_26 {j : Nat} (h : j < 255) : mL j ≤ 26 := of_decide_eq_true (List.all_eq_true.mp mL_le j (List.mem_range.mpr h))
theorem mPn_at {j : Nat} (h : j < 255) : (parseMethodDescriptor (mY j).desc).map (fun d => d.parameters.length) = some ((mPn[j]?).getD 0) := of_decide_eq_true (List.all_eq_true.mp mPn_ok j (List.mem_range.mpr h))
theorem mPn_len {j n : Nat} (h : j < 255) (hn : n = (mPn[j]?).getD 0) : ∀ sig, parseMethodDescriptor (mY j).desc = some sig → n = sig.parameters.length := fun sig hs => by
  have := mPn_at h
  rw [hs] at this
  rw [hn]
  exact (Option.some.inj this).symm
section
variable {G : GE} {d k : Nat} {qr : QR} {qx : QX} {pc : Nat} {ls st : List AV} {M : Mem} {b : Nat}
theorem run_go {p : Program} {e : Env} {R : Room} {s : State} {m : MethodId} {args : Array Value} {below : List Frame} {meth : Method} {c : Code} {H : Heap} {locs : List Loc} {cells slots u : Nat} {lsr : Array Slot} {stk rest : List Value} {ad : Nat → Nat} {qr' : QR} {qx' : QX} {a : Array Value} {Q : State → Prop}
    (hr : vx_Run p (gl G) e R s m args below meth c H locs cells slots u u (F0 m pc lsr stk) rest (QcE G ad (mN M) qr' a) (XcE G ad (mN M) qx') (AA G)) (hS : va_S (AA G) s.heap H locs)
    (K : ∀ (r : Option AV) (M' : Mem) (ad' : Nat → Nat) (H1 : Heap) (locs1 : List Loc), qr' r M' → Rep G ad' M' H1 → va_S (AA G) s.heap H1 locs1 → (∀ i, i < mN M → ad' i = ad i) → mN M ≤ mN M' → okO (mN M') r → W p (gl G) e R s m args below meth c H1 locs1 (cells + u) (slots + u) Q (F0 m (pc + 3) lsr ((r.map (rv ad')).toList ++ rest)))
    (KX : ∀ (x : Nat) (M' : Mem) (ad' : Nat → Nat) (H1 : Heap) (locs1 : List Loc) (q : Addr) (ce : Cell), x < 2 → qx' x M' → Rep G ad' M' H1 → va_S (AA G) s.heap H1 locs1 → (∀ i, i < mN M → ad' i = ad i) → mN M ≤ mN M' → H1[q]? = some ce → ce.vm = .none → s.vm.findClass (exN x) = some ce.cls → vx_W p (gl G) e R s m args below meth c H1 locs1 (cells + u) (slots + u) Q (F0 m pc lsr rest) q) :
    W p (gl G) e R s m args below meth c H locs cells slots Q (F0 m pc lsr stk) := by
  intro T hT X
  rcases hr T hT X with ⟨v, st₀, t, T', L, h0, X', hL, e1, e2, ⟨r, ad', M', ho, hq, hRp, hex, hnn, hF, hok⟩, st⟩ | ⟨q, st₀, t, T', L, E, ce, h0, X', hL, e1, e2, ⟨x, ad', M', hE, hx2, hq, hRp, hex, hnn, hF⟩, hce, hcv, hcl, st⟩
  · cases ho
    obtain ⟨-, -, k3⟩ := vx_keep h0 e1 hS (fun q _ h => h) (fun q h => h) hL hF
    obtain ⟨t2, a1, b1⟩ := K r M' ad' T'.heap (locs ++ L) hq (by rw [e1]; exact hRp) k3 hex hnn hok T' rfl X'
    exact ⟨t2, st t2 a1, b1⟩
  · subst hE
    obtain ⟨-, -, k3⟩ := vx_keep h0 e1 hS (fun q _ h => h) (fun q h => h) hL hF
    obtain ⟨t2, a1, b1⟩ := KX x M' ad' T'.heap (locs ++ L) q ce hx2 hq (by rw [e1]; exact hRp) k3 hex hnn (by rw [e1]; exact hce) hcv hcl T' rfl X'
    exact ⟨t2, st.trans a1, b1⟩
/-- an exception leaves this method: no row of its table takes it -/
theorem out_go {p : Program} {e : Env} {R : Room} {s : State} {m : MethodId} {args : Array Value} {below : List Frame} {meth : Method} {c : Code} {U : Nat} {ad0 : Nat → Nat} {n0 : Nat} {ad' : Nat → Nat} {M' : Mem} {H1 : Heap} {locs1 : List Loc} {q : Addr} {ce : Cell} {x cells slots : Nat} {lsr : Array Slot} {rest : List Value}
    (hC : GoC G d k U p R s m args meth c) (hx : x < 2) (hno : hdl k pc x = none) (hcl : mH k ≠ [] → mO k = 13) (hq : qx x M') (hR : Rep G ad' M' H1) (hS : va_S (AA G) s.heap H1 locs1) (ha : ∀ i, i < n0 → ad' i = ad0 i) (hn : n0 ≤ mN M') (hce : H1[q]? = some ce) (hcv : ce.vm = .none) (hcc : s.vm.findClass (exN x) = some ce.cls) (hc1 : cells ≤ U) (hc2 : slots ≤ U)
    (hlk : ∀ z ∈ mH k, ∃ nm, (Jvm.Cond.classLink (mC k) z.2.2.2 nm).before args s = true ∧ nm = exN (exTy z) ∧ z.2.2.2 ≠ 0) :
    vx_W p (gl G) e R s m args below meth c H1 locs1 cells slots (vx_MQ below (QcE G ad0 n0 qr) (XcE G ad0 n0 qx) args s U U (AA G)) (F0 m pc lsr rest) q := by
  refine vx_outP (E := exN x) (own := mC k) hC.2.2.2.2.1 hC.2.2.2.2.2.2.1 ?_ hce hcv hcc (fun t ht hW => ⟨x, ad', M', rfl, hx, hq, by rw [ht]; exact hR, ha, hn, hS.F ht⟩) hS.2.2 hc1 hc2
  rw [hC.2.2.2.2.2.2.2.1]
  intro z hz
  obtain ⟨h, hm, rfl⟩ := List.mem_map.mp hz
  by_cases hcov : h.1 ≤ pc ∧ pc < h.2.1
  · right
    obtain ⟨nm, hl1, hnm, hz0⟩ := hlk h hm
    refine ⟨hz0, nm, hl1, ?_⟩
    have hne : exTy h ≠ x := by
      intro e
      have h9 : (mH k).find? (fun h => decide (h.1 ≤ pc ∧ pc < h.2.1) && decide (exTy h = x)) = none := Option.map_eq_none_iff.mp hno
      have := List.find?_eq_none.mp h9 h hm
      simp [hcov, e] at this
    rw [hnm]
    obtain ⟨-, -, -, -, -, -, -, -, n1, n2⟩ := (envK hC).1
    have hty : exTy h = 0 ∨ exTy h = 1 := by unfold exTy; split <;> simp
    rcases (by omega : x = 0 ∨ x = 1) with e | e <;> subst e
    · rw [show exTy h = 1 by omega]; exact n1
    · rw [show exTy h = 0 by omega]; exact n2
  · left
    show (decide (h.1 ≤ pc) && decide (pc < h.2.1)) = false
    rw [Bool.and_eq_false_iff]
    by_cases h1 : h.1 ≤ pc
    · right; simp; exact Nat.not_lt.mp fun h2 => hcov ⟨h1, h2⟩
    · left; simp; omega
end

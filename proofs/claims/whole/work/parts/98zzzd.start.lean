/-! THE CLAIM OUT OF ONE WALK OF THE LAW'S BODY. Your part is whole_start (and what it stands on); all else here is the same for every law, but numbers. -/
def R_law : String := "DogTrialsLaw"
def lw_P (b : Addr) (xs : List Int32) (args : Array Value) (s : State) : Prop := args = #[.ref b] ∧ s.IntsAt b xs ∧ xs.length ≤ 3072 ∧ (Jvm.Cond.and given_1 narrow_1).before args s = true
def lw_Q (_ : Array Value) (s : State) (o : Outcome) (t : State) : Prop := o = .returned (some (.int 1)) ∧ Framed s o t [] 601024 7293034
def lw_Z (below : List Frame) (a : Array Value) (s : State) : State → Prop := fun t => ∃ o, t.status = .running ∧ Ended t below o ∧ lw_Q a s o t
/-- what holds at the law's entry: the machine, the code, the tables' words (any of lw_tbl by 'hts w (by decide +kernel)'), the script of L ints xs at the cell b, what the Statement gives of the start (any of its parts by flat_of_before) -/
def lw_At (p : Program) (s : State) (m : MethodId) (meth : Method) (c : Code) (b L : Nat) (xs : Nat → Int32) : Prop :=
  p.tables.exec = Jvm.exec ∧ c.code = code ∧ meth.sig.returnType = ret ∧ c.maxLocals = 8 ∧ s.vm.findClass R_law = some m.cls ∧ (∀ w ∈ lw_tbl, w.before #[Value.ref b] s = true) ∧ va_X b L xs s s.heap ∧ b < s.heap.size ∧ meth.locks = false ∧ (Jvm.Cond.and given_1 narrow_1).before #[Value.ref b] s = true ∧ c.exceptionTable.toList = tableOf (mH 254) ∧ meth.name = (mY 254).name
/-- the memory at the law's entry, and where its constants lie -/
def mem0 : Mem := (fun _ _ => 0, fun _ _ => 0, fun _ _ => none, fun _ => (0, 0), 61)
theorem mem0_B : Bd mem0 61 0 0 := by
  refine ⟨rfl, fun i q hq h => ?_, fun i q h => absurd h (by omega), fun c j _ _ _ => rfl, fun i q h => absurd h (by omega), Nat.le_refl _⟩
  have := sk_at i q hq
  exact absurd h (by omega)
def ad0 (G : GE) : Nat → Nat := fun i => if i < 30 then gS G i else if i < 60 then gV G (i - 30) else gb G
theorem ad0_R {G : GE} {H : Heap} : Rep G (ad0 G) mem0 H := by
  refine ⟨⟨fun i hi => if_pos hi, fun i hi => ?_, rfl⟩, ⟨Nat.le_refl _, fun a j r h => by cases h⟩, fun k q h => ?_, fun i j q r h => ?_, fun k q h => ?_⟩
  · unfold ad0
    rw [if_neg (by omega), if_pos (by omega), Nat.add_sub_cancel]
  · exact absurd h (by show ¬ ([] : va_W)[k]? = some q; simp)
  · exact absurd h (by show ¬ ([] : va_W)[i]? = some q; simp)
  · exact absurd h (by show ¬ ([] : va_W)[k]? = some q; simp)
/-- what is new need not be named -/
theorem sbn_new {s s' : State} {L : List Loc} {k n : Nat} (h : s.sameButNew s' L k n) (hL : ∀ z ∈ L, s.heap.size ≤ z.base) : s.sameButNew s' [] k n := by
  obtain ⟨h1, h2, h3, h4, h5, h6⟩ := h
  refine ⟨h1, h2, h3, h4, h5, fun a c hc => ?_⟩
  obtain ⟨c', q1, q2, q3, q4⟩ := h6 a c hc
  refine ⟨c', q1, q2, q3, fun i _ => q4 i (fun hz => ?_)⟩
  have := hL _ hz
  have hlt : a < s.heap.size := (Array.getElem?_eq_some_iff.mp hc).1
  exact absurd this (Nat.not_le.mpr hlt)
/-- from the entry, for every script of at most 3072 ints, the law comes to its end with true ('hflags': the launch's flags, for a law that throws: no stack traces) -/
theorem whole_start {p : Program} {e : Env} {s : State} {m : MethodId} {below : List Frame} {meth : Method} {c : Code} (l : Launch) (hflags : l.flags = flags0) {b L : Nat} {xs : Nat → Int32} (hL : L ≤ 3072) (C0 : lw_At p s m meth c b L xs) : W p l e room_1 s m #[Value.ref b] below meth c s.heap [] 0 0 (lw_Z below #[Value.ref b] s) (entryFrame m ([Value.ref b] : List Value).toArray 8) := by
  obtain ⟨hx, hc, hr, hml, hown, hts, hX, hb, hlk, hgv, hex, hnm⟩ := C0
  obtain ⟨G, g1, g2, g3, g4, g5, hE⟩ := ev_all (l := l) hts (flat_of_before _ hgv) hX hb hL
  have hst : (gl G).stackTraces = false := by rw [g1]; unfold Launch.stackTraces; rw [hflags]; decide +kernel
  have hB : Bd mem0 61 0 0 := mem0_B
  have hw : wp (WCo G (0 + 60) 254 (fun r _ => r = some (aI (iZ 1))) nX) 254 (0 + 300) 0 [aR (some 60), aU, aU, aU, aU, aU, aU, aU] [] mem0 601024 := law_start (d := 0) (m := 0) hst hB (fun M' n hB' hn => law_loop (d := 0) (P := Inv) hst (by rw [g3]; omega) (fun M h => h.1) (fun M _ => rfl) (op0_ hst) (op1_ hst) (op2_ hst) (op3_ hst) (op4_ hst) (op5_ hst) (op6_ hst) (op7_ hst) (op8_ hst) (op9_ hst) (op10_ hst) (op11_ hst) (op12_ hst) (op13_ hst) (op14_ hst) (op15_ hst) (op16_ hst) (op17_ hst) (op18_ hst) (op19_ hst) (op20_ hst) (op21_ hst) (op22_ hst) (op23_ hst) (op24_ hst) 512 0 n M' aU aU aU (Inv_first hB') (by rw [g3]; omega) (by omega) (by omega))
  have hg := wp_go _ _ _ _ _ _ hw
  have hC : GoC G (0 + 60) 254 601024 p room_1 s m #[Value.ref b] meth c := ⟨hx, hc, hr, hml, hown, fun w hw => hts w (List.mem_filter.mp hw).1, hlk, hex, hnm, hE, by decide, by decide, by decide, by decide, hst⟩
  have hR : Rep G (ad0 G) mem0 s.heap := ad0_R
  have hl := lv_entry ([Value.ref b] : List Value) (n := 8) (by show 1 ≤ 8; decide)
  rw [lg_entry_eq]
  generalize (lg_sl [Value.ref b] ++ List.replicate (8 - (lg_sl [Value.ref b]).length) Slot.unset).toArray = lsr at hl ⊢
  have eA : ([Value.ref b] : List Value) = ([aR (some 60)] : List AV).map (rv (ad0 G)) := by
    show [Value.ref b] = [Value.ref (ad0 G 60)]
    rw [show ad0 G 60 = gb G from rfl, g2]
  rw [eA] at hl
  have h := hg 601024 p e room_1 s m #[Value.ref b] below meth c (ad0 G) 61 hC (ad0 G) s.heap [] lsr hR va_S.rf (fun _ _ => rfl) (Nat.le_refl _) (lv_less hl (ent_mem (n := 8) (args := [aR (some 60)]))) (fun v hv => ent_ok (n := 8) (args := [aR (some 60)]) (q := 61) (fun w hw => by rw [List.mem_singleton.mp hw]; show 60 < 61; decide) v hv) (fun v hv => by cases hv) (Nat.le_refl _)
  rw [Nat.sub_self, g1] at h
  intro T hT X
  obtain ⟨t, a1, o, b1, b2, b3⟩ := h T hT X
  refine ⟨t, a1, o, b1, b2, ?_⟩
  rcases b3 with ⟨⟨r, ad', M', ho, hr', _⟩, Lc, ⟨f1, f2, f3⟩, hfree⟩ | ⟨q, _, E, ce, Lc, ⟨x, ad', M', _, _, hF, _⟩, _⟩
  · refine ⟨?_, f1, f2, (sbn_new f3 (fun z hz => by have := hfree z hz; unfold AA at this; rw [g5] at this; exact this)).mono (Nat.le_refl _) (by decide)⟩
    rw [ho, show r = some (aI (iZ 1)) from hr']
    rfl
  · exact False.elim hF
set_option maxHeartbeats 4000000 in
theorem lw_walk (l : Launch) (hflags : l.flags = flags0) (b : Addr) (xs : List Int32) : MetFree l x (headSpec (Jvm.Cond.code x code maxLocals ret :: tables_1) room_1) (lw_P b xs) (fun _ _ _ _ _ => True) lw_Q := by
  refine MetFree.of_bodyS (code := code) (maxLocals := maxLocals) (ret := ret) (by decide) ?_ ?_
  · intro args s m h hn
    obtain ⟨meth, c, h1, h2, h3, h4, h5, h6, -, -⟩ := Cond.code_spec hn (atoms_spec (ws := Jvm.Cond.code x code maxLocals ret :: tables_1) h _ List.mem_cons_self)
    exact ⟨meth, c, h1, h2, h3, h4, h5, h6⟩
  · intro p e s m args below meth c s₁ B hml0 hP _
    obtain ⟨rfl, hx, hbd, hgv⟩ := hP
    obtain ⟨scr, harrAt, hlist, hof, hsmall⟩ := hx
    obtain ⟨hcb, hkn, -, -⟩ := State.arrayAt?_spec harrAt
    have hown : s.vm.findClass R_law = some m.cls := findClass_of_methodNamed B.named
    have hts0 : ∀ c ∈ (Jvm.Cond.code x code maxLocals ret :: tables_1), c.before #[Value.ref b] s = true := atoms_spec (ws := Jvm.Cond.code x code maxLocals ret :: tables_1) B.pre
    have hts : ∀ w ∈ lw_tbl, w.before #[Value.ref b] s = true := k2_hts_sels lw_privs (fun w hw => hts0 w (List.mem_cons_of_mem _ hw)) lw_privs_ok
    have hml : c.maxLocals = 8 := B.maxLocals_eq (hts0 _ List.mem_cons_self)
    have X₀ : Stand p l e room_1 s m #[Value.ref b] below meth c s₁ [] 0 0 := Stand.of_body B
    have hh0 : s₁.heap = s.heap := by rw [B.state]; rfl
    have hsz : scr.slots.size = xs.length := by rw [← Array.length_toList, hlist, List.length_map]
    have hval : ∀ j : Nat, j < xs.length → scr.slots[j]? = some (.int (xs.getD j 0)) := fun j hj => by
      rw [← Array.getElem?_toList, hlist]
      simp [hj]
    have hbl : b < s.heap.size := (Array.getElem?_eq_some_iff.mp hcb).1
    have hX : va_X b xs.length (fun j => xs.getD j 0) s s.heap := ⟨scr, hcb, hof, hkn, hsz, hval⟩
    have K : W p l e room_1 s m #[Value.ref b] below meth c s₁.heap [] 0 0 (lw_Z below #[Value.ref b] s) (entryFrame m ([Value.ref b] : List Value).toArray 8) := by
      rw [hh0]
      refine whole_start l hflags hbd ⟨B.exec, B.bytes, B.returns, hml, hown, hts, hX, hbl, B.notSynchronized, hgv, ?_, (name_of_methodNamed B.named B.method).1⟩
      obtain ⟨meth9, c9, h1, h2, -, -, -, -, h7, -⟩ := Cond.code_spec B.named (hts0 _ List.mem_cons_self)
      cases Option.some.inj (h1.symm.trans B.method)
      cases Option.some.inj (h2.symm.trans X₀.code)
      rw [Array.isEmpty_iff.mp h7]
      rfl
    obtain ⟨t, a1, o, b1, b2, b3⟩ := K s₁ rfl X₀
    exact ⟨t, o, a1, b1, b2, b3⟩
theorem lw_pre_spec {args : Array Value} {s : State} (h : (Jvm.Cond.and given_1 narrow_1).before args s = true) (hr : rest_1_c.before args s = true) : ∃ (b : Addr) (xs : List Int32), lw_P b xs args s := by
  have hs := flat_of_before _ h
  have hq := flat_of_before _ hr
  have hc : (Cond.count 1).before args s = true := hs _ (by decide +kernel)
  have harr : (Cond.arrayOf (.arg 0) .int).before args s = true := hs _ (by decide +kernel)
  have hle : (Cond.le (.length (.arg 0)) (.int 3072)).before args s = true := hs _ (by decide +kernel)
  have hlen : (Cond.isInt (.length (.arg 0))).before args s = true := hq _ (by decide +kernel)
  have hall : (Cond.all (.arg 0) (.isInt (.elem (.arg 0) (.index 0)))).before args s = true := hq _ (by decide +kernel)
  obtain ⟨b, xs, hb, hx⟩ := State.ints_of_pre rfl harr hlen hall
  have hsm : xs.length < 2 ^ 31 := hx.choose_spec.2.2.2
  have hev : (Term.length (.arg 0)).eval args s none [] s = some (.int xs.length.toInt32) := hx.length_eval hb
  have hv := Cond.le_ints hev (show (Term.int 3072).eval args s none [] s = some (.int 3072) from rfl)
  have hd : xs.length.toInt32 ≤ 3072 := by
    simpa [Cond.before, Cond.holds, hv] using hle
  have hN : xs.length ≤ 3072 := (Int32.ofNat_le_ofNat hsm (by decide)).mp (show Int32.ofNat xs.length ≤ Int32.ofNat 3072 from hd)
  exact ⟨b, xs, Cond.one_arg hc (show args[0]? = some (.ref b) from hb), hx, hN, h⟩
theorem lw_comes (l : Launch) (hflags : l.flags = flags0) : Comes l x (Jvm.Cond.code x code maxLocals ret :: tables_1) room_1 (fun tb e args s => Calls_1 tb e args s ∧ rest_1 tb e args s ∧ Pre_1 tb e args s)
    (fun _ _ args s o t => lw_Q args s o t) := by
  intro p e ha hc hk s m args below hf hfit hheap happ hpre
  obtain ⟨b, xs, hP⟩ := lw_pre_spec hpre.2.2 hpre.2.1
  obtain ⟨k, o, h1, h2, h3, hQ⟩ := lw_walk l hflags b xs p e ha hc hk s m args below hf ((Spec.applies_iff_loose hf).mp happ).1 hP trivial
  exact ⟨k, o, h1, h2, h3, hQ⟩
theorem lw_frame {s t : State} {o : Outcome} {args : Array Value} (h : Framed s o t [] 601024 7293034) :
    Framed s o t (fieldLocs frame_1_writes args s ++ arrayLocs frame_1_arrays args s ++ staticLocs frame_1_statics s) 601024 7293034 := h
theorem lw_limb (L : Cond) (hL : ∀ (args : Array Value) (s t : State), L.after args s (.returned (some (.int 1))) t = true) :
    ArmFor flags0 classFile x code maxLocals ret World_1 tables_1 room_1 Calls_1 rest_1 Pre_1
      (fun tb e a s o t => postC L tb e a s o t ∧ Framed s o t (fieldLocs frame_1_writes a s ++ arrayLocs frame_1_arrays a s ++ staticLocs frame_1_statics s) 601024 7293034) := by
  intro l hflags _ _ p e ha hc hk s m args below hf hfit hheap happ hpre
  obtain ⟨k, o, h1, h2, h3, rfl, hF⟩ := lw_comes l hflags p e ha hc hk s m args below hf hfit hheap happ hpre
  exact ⟨k, _, h1, h2, h3, hL args s _, lw_frame hF⟩
theorem i_vc : Claimed_1_1 ∧ Claimed_1_2 := ⟨lw_limb limb_1_1 (fun args s t => by simp [limb_1_1, Cond.after, Cond.holds, Cond.value]), lw_limb limb_1_2 (fun args s t => Cond.after_iff.mpr (by
  first | (rw [show limb_1_2 = Cond.eq .result (.int 1) from rfl, Cond.eq_ints (x := 1) (y := 1) rfl rfl]; simp; done) | (simp [limb_1_2, Cond.value, Term.eval]; done)))⟩

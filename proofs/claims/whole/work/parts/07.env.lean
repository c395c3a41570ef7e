/-! What holds of the machine in every method: the environment. -/
def tysG (G : GE) : List (ClassId × FieldType) := [(gA G 20, .int), (gA G 21, .long), (gA G 22, .boolean), (gA G 23, .object "DogTrials$RuleBook"), (gA G 24, .object "DogTrials$Run"), (gA G 25, .array .int), (gA G 26, .array .long), (gA G 27, .object "java/lang/String")]
def isNw : Jvm.Cond → Bool
  | .declares _ => true
  | .castable .. => true
  | .methodLinkNest .. => true
  | _ => false
def NwS (U : State) : Prop := ∀ w ∈ lw_tbl, isNw w = true → va_Nw w U
theorem NwS.warm {s U : State} (hW : s.WarmedH U.vm) (h : NwS s) : NwS U := by
  intro w hw hi
  have h1 := h w hw hi
  cases w <;> first | exact va_Nw.warmD hW h1 | exact va_Nw.warmC hW h1 | exact va_Nw.warmM hW h1 | (exact absurd hi (by simp [isNw]))
def aSt : String := "java/lang/String"
def EnvK (G : GE) (U : State) : Prop := va_K (gC G, gI G) vwCl (tysG G) U ∧ (∀ i, i < 30 → ∀ q, sTx[i]? = some q → vk_R (cN q.1) q.2.1 q.2.2.1 (gS G i) U) ∧ NwS U ∧ va_AO "DogTrials$RuleBook" U ∧ va_AO "DogTrials$Run" U ∧ va_AO aSt U ∧ va_AOA .int U ∧ va_AOA .long U ∧ va_Nc (exN 0) (exN 1) U ∧ va_Nc (exN 1) (exN 0) U
def EnvH (G : GE) (U : State) (H : Heap) : Prop := (∀ i, i < 30 → va_O aSt (gS G i) (AA G) U H ∧ va_OF aSt "coder" "B" (.int 0) (gS G i) (AA G) U H ∧ va_OF aSt "value" "[B" (.ref (gV G i)) (gS G i) (AA G) U H ∧ va_T .byte (gV G i) (sLen i) (fun j => .int (sByt i j)) (AA G) U H) ∧
  (va_X (gb G) (gLn G) (gx G) U H ∧ gb G < gh G ∧ gb G < H.size) ∧ va_Z aSt "COMPACT_STRINGS" "Z" (.int 1) (AA G) U H ∧ va_Zq "jdk/internal/util/Preconditions" "SIOOBE_FORMATTER" "Ljava/util/function/BiFunction;" (AA G) U H ∧
  vx_Zq Bundle.tN "UNASSIGNED_STACK" Bundle.steD (AA G) U H ∧ vx_Zq Bundle.tN "SUPPRESSED_SENTINEL" Bundle.listD (AA G) U H
def EnvS (G : GE) (U : State) : Prop := EnvK G U ∧ EnvH G U U.heap ∧ gh G ≤ U.heap.size ∧ gLn G < 2 ^ 31
theorem va_Z.kept9 {C n d : String} {v : Value} {A : Nat → Prop} {U : State} {H H1 : Heap} (h : va_Z C n d v A U H) (hq : ∀ a : Nat, a < H.size → ¬ A a → H1[a]? = H[a]?) : va_Z C n d v A U H1 := va_Z.kept h hq
theorem EnvH.kept {G : GE} {U : State} {H H1 : Heap} (h : EnvH G U H) (hz : H.size ≤ H1.size) (hq : ∀ a : Nat, a < H.size → ¬ AA G a → H1[a]? = H[a]?) : EnvH G U H1 := by
  obtain ⟨h1, ⟨h2, h3, h4⟩, h5, h6, h7, h8⟩ := h
  exact ⟨fun i hi => ⟨(h1 i hi).1.kept hq, (h1 i hi).2.1.kept hq, (h1 i hi).2.2.1.kept hq, (h1 i hi).2.2.2.kept hq⟩, ⟨h2.kept (hq _ h4 (Nat.not_le.mpr h3)), h3, Nat.lt_of_lt_of_le h4 hz⟩, h5.kept hq, h6.kept hq, h7.kept hq, h8.kept hq⟩
theorem EnvH.moved {G : GE} {u U : State} {H : Heap} (hvm : u.vm.Alike U.vm) (h : EnvH G u H) : EnvH G U H := by
  obtain ⟨h1, ⟨h2, h3, h4⟩, h5, h6, h7, h8⟩ := h
  exact ⟨fun i hi => ⟨va_O.moved hvm (h1 i hi).1, va_OF.moved hvm (h1 i hi).2.1, va_OF.moved hvm (h1 i hi).2.2.1, va_T.moved hvm (h1 i hi).2.2.2⟩, ⟨va_X.moved hvm h2, h3, h4⟩, va_Z.moved hvm h5, va_Zq.moved hvm h6, vx_Zq.moved hvm h7, vx_Zq.moved hvm h8⟩
theorem EnvK.warm {G : GE} {s U : State} (hW : s.WarmedH U.vm) (h : EnvK G s) : EnvK G U := by
  obtain ⟨h1, h2, h3, h4, h5, h6, h7, h8, h9, h10⟩ := h
  exact ⟨va_K.moved hW.alike h1, fun i hi q hq => (h2 i hi q hq).warm hW, h3.warm hW, va_AO.moved hW.alike h4, va_AO.moved hW.alike h5, va_AO.moved hW.alike h6, va_AOA.moved hW.alike h7, va_AOA.moved hW.alike h8, va_Nc.moved hW.alike h9, va_Nc.moved hW.alike h10⟩
/-- from a method's start to a callee's -/
theorem EnvS.warm {G : GE} {s U : State} {H : Heap} {locs : List Loc} (hW : s.WarmedH U.vm) (hU : U.heap = H) (hS : va_S (AA G) s.heap H locs) (h : EnvS G s) : EnvS G U := by
  obtain ⟨h1, h2, h3, h4⟩ := h
  refine ⟨h1.warm hW, ?_, by rw [hU]; exact Nat.le_trans h3 hS.1, h4⟩
  rw [hU]
  exact (h2.kept hS.1 hS.2.1).moved hW.alike
/-- a state with the same tables and heap -/
theorem EnvS.calling {G : GE} {U : State} (g : JFrame) (mk : MethodId) (a : Array Value) (h : EnvS G U) : EnvS G (U.calling g mk a) := by
  obtain ⟨h1, h2, h3, h4⟩ := h
  have hW : U.WarmedH (U.calling g mk a).vm := State.WarmedH.refl U
  exact ⟨h1.warm hW, h2.moved hW.alike, h3, h4⟩
def rmE (d u : Nat) : Room := { frames := d + 16, cells := u, slots := u, locals := 45 * d + 300 }
def wsM (j : Nat) : List Jvm.Cond := cWd j :: gT
def okO (n : Nat) (r : Option AV) : Prop := ∀ v, r = some v → okV n v
/-- behind a return; behind a throw -/
def QcE (G : GE) (ad0 : Nat → Nat) (n0 : Nat) (qr : QR) : Array Value → State → Outcome → State → Prop := fun _ st o t => ∃ r ad' M', o = .returned (r.map (rv ad')) ∧ qr r M' ∧ Rep G ad' M' t.heap ∧ (∀ i, i < n0 → ad' i = ad0 i) ∧ n0 ≤ mN M' ∧ va_F (AA G) st t ∧ okO (mN M') r
def XcE (G : GE) (ad0 : Nat → Nat) (n0 : Nat) (qx : QX) : String → State → State → Prop := fun E st t => ∃ x ad' M', E = exN x ∧ x < 2 ∧ qx x M' ∧ Rep G ad' M' t.heap ∧ (∀ i, i < n0 → ad' i = ad0 i) ∧ n0 ≤ mN M' ∧ va_F (AA G) st t
/-- a method's contract over the memory: at depth d, method j, these arguments, this memory, at most u made; what holds at its return, at its throw -/
def Ev (G : GE) (d j : Nat) (args : List AV) (M : Mem) (u : Nat) (qr : QR) (qx : QX) : Prop :=
  ∀ ad : Nat → Nat, vx_Met (gl G) (mY j) (wsM j) (rmE d u) (fun a U => a = (args.map (rv ad)).toArray ∧ EnvS G U ∧ Rep G ad M U.heap ∧ ∀ v ∈ args, okV (mN M) v) (QcE G ad (mN M) qr) (XcE G ad (mN M) qx) u u (AA G)
def GoC (G : GE) (d k U : Nat) (p : Program) (R : Room) (s : State) (m : MethodId) (args : Array Value) (meth : Method) (c : Code) : Prop :=
  p.tables.exec = Jvm.exec ∧ c.code = mB k ∧ meth.sig.returnType = mR k ∧ c.maxLocals = mL k ∧ s.vm.findClass (mC k) = some m.cls ∧ (∀ w ∈ gT, w.before args s = true) ∧ meth.locks = false ∧ c.exceptionTable.toList = tableOf (mH k) ∧ meth.name = (mY k).name ∧ EnvS G s ∧ d + 17 ≤ R.frames ∧ 45 * d + 345 ≤ R.locals ∧ U ≤ R.cells ∧ U ≤ R.slots ∧ (gl G).stackTraces = false
/-- from pc on, with these locals, this stack, this memory, b still to be made -/
def Go (G : GE) (d k : Nat) (qr : QR) (qx : QX) (pc : Nat) (ls st : List AV) (M : Mem) (b : Nat) : Prop :=
  ∀ (U : Nat) (p : Program) (e : Env) (R : Room) (s : State) (m : MethodId) (args : Array Value) (below : List Frame) (meth : Method) (c : Code) (ad0 : Nat → Nat) (n0 : Nat), GoC G d k U p R s m args meth c →
  ∀ (ad : Nat → Nat) (H : Heap) (locs : List Loc) (lsr : Array Slot), Rep G ad M H → va_S (AA G) s.heap H locs → (∀ i, i < n0 → ad i = ad0 i) → n0 ≤ mN M → lv_has lsr (mL k) (lpr ad 0 ls) → (∀ v ∈ ls, okV (mN M) v) → (∀ v ∈ st, okV (mN M) v) → b ≤ U →
  W p (gl G) e R s m args below meth c H locs (U - b) (U - b) (vx_MQ below (QcE G ad0 n0 qr) (XcE G ad0 n0 qx) args s U U (AA G)) (F0 m pc lsr (st.map (rv ad)))
/-- a step that moves the stack alone -/
theorem Go_pure {G : GE} {d k : Nat} {qr : QR} {qx : QX} {pc pc' : Nat} {ls st st' : List AV} {M : Mem} {b : Nat}
    (hst : ∀ (p : Program) (e : Env) (R : Room) (s : State) (m : MethodId) (args : Array Value) (below : List Frame) (meth : Method) (c : Code) (U : Nat) (ad : Nat → Nat) (H : Heap) (locs : List Loc) (lsr : Array Slot) (cells slots : Nat) (Q : State → Prop), GoC G d k U p R s m args meth c → Rep G ad M H → va_S (AA G) s.heap H locs → lv_has lsr (mL k) (lpr ad 0 ls) →
      W p (gl G) e R s m args below meth c H locs cells slots Q (F0 m pc' lsr (st'.map (rv ad))) → W p (gl G) e R s m args below meth c H locs cells slots Q (F0 m pc lsr (st.map (rv ad))))
    (hok : ∀ n, WF M → n = mN M → (∀ v ∈ ls, okV n v) → (∀ v ∈ st, okV n v) → ∀ v ∈ st', okV n v)
    (g : Go G d k qr qx pc' ls st' M b) : Go G d k qr qx pc ls st M b := by
  intro U p e R s m args below meth c ad0 n0 hC ad H locs lsr hR hS ha hn hl hol hos hb
  exact hst p e R s m args below meth c U ad H locs lsr _ _ _ hC hR hS hl (g U p e R s m args below meth c ad0 n0 hC ad H locs lsr hR hS ha hn hl hol (hok _ hR.2.1 rfl hol hos) hb)

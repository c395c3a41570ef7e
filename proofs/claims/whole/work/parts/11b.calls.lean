/-! The rows of calls, returns and throws. -/
theorem lo9 {a d R : Nat} (h1 : 45 * d + 345 ≤ R) (h2 : a ≤ 26) : 8 + (a + 11) + (45 * d + 300) ≤ R := by
  have h3 : 8 + (a + 11) ≤ 45 := by omega
  refine Nat.le_trans (Nat.add_le_add_right h3 _) ?_
  rw [Nat.add_comm, Nat.add_assoc]
  exact h1
theorem mH_tab : ((List.range 255).all fun k => (mH k).all fun z => decide (mO k = 13 ∧ (z.2.2.2 = 13 ∨ z.2.2.2 = 26))) = true := by decide +kernel
theorem mH_own : ((List.range 233).all fun k => decide (mH k = [])) = true := by decide +kernel
theorem mH_nil {k : Nat} (h : k < 233) : mH k = [] := of_decide_eq_true (List.all_eq_true.mp mH_own k (List.mem_range.mpr h))
theorem lawLk : Jvm.Cond.classLink (cN 13) 13 (exN 0) ∈ gT ∧ Jvm.Cond.classLink (cN 13) 26 (exN 1) ∈ gT := by
  have key : ∀ {i e : Nat}, (eL_.any fun q => q.1 == 13 && q.2.1 == i && q.2.2.1 == e) = true → Jvm.Cond.classLink (cN 13) i (exN e) ∈ gT := by
    intro i e h
    obtain ⟨q, hq, hb⟩ := List.any_eq_true.mp h
    simp only [Bool.and_eq_true, beq_iff_eq] at hb
    have h2 := of_decide_eq_true (List.all_eq_true.mp eL_ok q hq)
    rw [hb.1.1, hb.1.2, hb.2] at h2
    exact gT_of h2.1 rfl
  exact ⟨key (by decide +kernel), key (by decide +kernel)⟩
theorem lawNe : (exN 0 : String) ≠ exN 1 := by decide
section
variable {G : GE} {d k : Nat} {qr : QR} {qx : QX} {pc : Nat} {ls st : List AV} {M : Mem} {b : Nat}
theorem hlk_of {U : Nat} {p : Program} {R : Room} {s : State} {m : MethodId} {args : Array Value} {meth : Method} {c : Code} (hC : GoC G d k U p R s m args meth c) (hk : k < 255) : ∀ z ∈ mH k, ∃ nm, (Jvm.Cond.classLink (mC k) z.2.2.2 nm).before args s = true ∧ nm = exN (exTy z) ∧ z.2.2.2 ≠ 0 := by
  intro z hz
  have h1 := of_decide_eq_true (List.all_eq_true.mp (List.all_eq_true.mp mH_tab k (List.mem_range.mpr hk)) z hz)
  have hc : mC k = cN 13 := by unfold mC; rw [h1.1]
  rcases h1.2 with h | h
  · refine ⟨exN 0, by rw [hc, h]; exact hC.2.2.2.2.2.1 _ lawLk.1, by unfold exTy; rw [h]; rfl, by omega⟩
  · refine ⟨exN 1, by rw [hc, h]; exact hC.2.2.2.2.2.1 _ lawLk.2, by unfold exTy; rw [h]; rfl, by omega⟩
/-- the callee's start, from here -/
def PcE (G : GE) (ad : Nat → Nat) (M : Mem) (as : List AV) : Array Value → State → Prop := fun a U => a = (as.map (rv ad)).toArray ∧ EnvS G U ∧ Rep G ad M U.heap ∧ ∀ v ∈ as, okV (mN M) v
theorem PcE_blind (ad : Nat → Nat) (as : List AV) : FrameBlind (PcE G ad M as) := fun a U g mk h => ⟨h.1, h.2.1.calling g mk a, h.2.2.1, h.2.2.2⟩
theorem tk_split {st : List AV} {n : Nat} (h : n ≤ st.length) : st = (tk n st).reverse ++ st.drop n := by unfold tk; rw [List.reverse_reverse, List.take_append_drop]
theorem tk_len {st : List AV} {n : Nat} (h : n ≤ st.length) : (tk n st).length = n := by unfold tk; simp; omega
theorem tk_ok {st : List AV} {n q : Nat} (h : ∀ v ∈ st, okV q v) : ∀ v ∈ tk n st, okV q v := fun v hv => h v (List.mem_of_mem_take (List.mem_reverse.mp hv))
theorem drop_ok {st : List AV} {n q : Nat} (h : ∀ v ∈ st, okV q v) : ∀ v ∈ st.drop n, okV q v := fun v hv => h v (List.mem_of_mem_drop hv)
theorem tk_this {st : List AV} {n a : Nat} (h : st[n]? = some (aR (some a))) : tk (n + 1) st = aR (some a) :: tk n st := by
  unfold tk
  have hl := (List.getElem?_eq_some_iff.mp h).1
  rw [List.take_succ, h, List.reverse_append]; rfl
theorem stk_map {ad : Nat → Nat} {st : List AV} {n : Nat} (h : n ≤ st.length) : st.map (rv ad) = ((tk n st).map (rv ad)).reverse ++ (st.drop n).map (rv ad) := by
  rw [← List.map_reverse, ← List.map_append, ← tk_split h]
theorem stk_this {ad : Nat → Nat} {st : List AV} {n a : Nat} (h : st[n]? = some (aR (some a))) : st.map (rv ad) = ((tk n st).map (rv ad)).reverse ++ .ref (ad a) :: (st.drop (n + 1)).map (rv ad) := by
  have hl := (List.getElem?_eq_some_iff.mp h).1
  rw [stk_map (ad := ad) (n := n + 1) (by omega), tk_this h, List.map_cons, List.reverse_cons, List.append_assoc]; rfl
/-- what follows a call: the return -/
theorem ret_go {ad0 ad : Nat → Nat} {n0 : Nat} {U u : Nat} {p : Program} {e : Env} {R : Room} {s : State} {m : MethodId} {args : Array Value} {below : List Frame} {meth : Method} {c : Code} {lsr : Array Slot} {rest : List AV} {qr' : QR}
    (hC : GoC G d k U p R s m args meth c) (ha : ∀ i, i < n0 → ad i = ad0 i) (hn : n0 ≤ mN M) (hl : lv_has lsr (mL k) (lpr ad 0 ls)) (hol : ∀ v ∈ ls, okV (mN M) v) (hos : ∀ v ∈ rest, okV (mN M) v) (hu : u ≤ b) (hb : b ≤ U)
    (K : ∀ r M', qr' r M' → match r with | none => Go G d k qr qx (pc + 3) ls rest M' (b - u) | some v => Go G d k qr qx (pc + 3) ls (v :: rest) M' (b - u)) :
    ∀ (r : Option AV) (M' : Mem) (ad' : Nat → Nat) (H1 : Heap) (locs1 : List Loc), qr' r M' → Rep G ad' M' H1 → va_S (AA G) s.heap H1 locs1 → (∀ i, i < mN M → ad' i = ad i) → mN M ≤ mN M' → okO (mN M') r → W p (gl G) e R s m args below meth c H1 locs1 (U - b + u) (U - b + u) (vx_MQ below (QcE G ad0 n0 qr) (XcE G ad0 n0 qx) args s U U (AA G)) (F0 m (pc + 3) lsr ((r.map (rv ad')).toList ++ rest.map (rv ad))) := by
  intro r M' ad' H1 locs1 hq hR hS had hN hok
  have e1 : U - b + u = U - (b - u) := by omega
  rw [e1]
  have hl' : lv_has lsr (mL k) (lpr ad' 0 ls) := by rw [lpr_congr had 0 hol]; exact hl
  have hk := K r M' hq
  cases r with
  | none =>
    have h := hk U p e R s m args below meth c ad0 n0 hC ad' H1 locs1 lsr hR hS (fun i hi => (had i (by omega)).trans (ha i hi)) (by omega) hl' (fun v hv => okV_mono hN (hol v hv)) (fun v hv => okV_mono hN (hos v hv)) (by omega)
    rw [rv_map had hos] at h
    exact h
  | some v =>
    have h := hk U p e R s m args below meth c ad0 n0 hC ad' H1 locs1 lsr hR hS (fun i hi => (had i (by omega)).trans (ha i hi)) (by omega) hl' (fun v hv => okV_mono hN (hol v hv)) (okc (hok v rfl) (fun v hv => okV_mono hN (hos v hv))) (by omega)
    rw [List.map_cons, rv_map had hos] at h
    exact h
theorem mLw {o i j kd p1 p2 p3 : Nat} (h : (o, i, j, kd, p1, p2, p3) ∈ mL_) : Jvm.Cond.methodLink (cN o) i (mY j) ∈ gT ∧ (if kd = 0 then Jvm.Cond.static (mY j) else .instanceMethod (mY j)) ∈ gT ∧ (kd = 2 → Jvm.Cond.selects (mC j) (mY j) (mY j) ∈ gT) ∧ (kd = 1 → (mY j).name = "<init>") := by
  have h1 := List.all_eq_true.mp mL_ok _ h
  simp only [mLp, Bool.and_eq_true, decide_eq_true_eq, Bool.or_eq_true, Bool.not_eq_true', beq_eq_false_iff_ne] at h1
  refine ⟨gT_of h1.1.1.1 rfl, gT_of h1.1.1.2 (by split <;> rfl), fun e => ?_, fun e => ?_⟩
  · exact gT_of (h1.1.2.resolve_left (fun q => q e)) rfl
  · exact beq_iff_eq.mp (h1.2.resolve_left (fun q => q e))
theorem g_static {i j n p1 p2 p3 u : Nat} {qr' : QR} {qx' : QX} (hd : decode (mB k) pc = .ok (.invokestatic i, 3)) (hlk : (mO k, i, j, 0, p1, p2, p3) ∈ mL_) (hk : k < 255) (hk0 : mH k = []) (hj : j < 254) (hn9 : n = (mPn[j]?).getD 0) (hlen : n ≤ st.length) (hs : stW (st.drop n) ≤ 8) (hev : Ev G d j (tk n st) M u qr' qx') (hu : u ≤ b)
    (K : ∀ r M', qr' r M' → match r with | none => Go G d k qr qx (pc + 3) ls (st.drop n) M' (b - u) | some v => Go G d k qr qx (pc + 3) ls (v :: st.drop n) M' (b - u)) (KX : ∀ x M', qx' x M' → qx x M') : Go G d k qr qx pc ls st M b := by
  intro U p e R s m args below meth c ad0 n0 hC ad H locs lsr hR hS ha hn hl hol hos hb
  obtain ⟨w1, w2, -, -⟩ := mLw hlk
  obtain ⟨v1, v2, v3⟩ := cL_w hj
  have hts := hC.2.2.2.2.2.1
  have hfr : (rmE d u).frames + 1 ≤ R.frames := hC.2.2.2.2.2.2.2.2.2.2.1
  have hlo : 8 + (mL j + 11) + (rmE d u).locals ≤ R.locals := by
    have h1 := hC.2.2.2.2.2.2.2.2.2.2.2.1
    have h2 := mL_26 (show j < 255 by omega)
    exact lo9 h1 h2
  have hU := hC.2.2.2.2.2.2.2.2.2.2.2.2.1
  have hU2 := hC.2.2.2.2.2.2.2.2.2.2.2.2.2.1
  have hcat := stW_cat ad (st.drop n)
  have hpay := pay_in hts (wsM_good hj)
  have hpre : PreS s H (PcE G ad M (tk n st)) ((tk n st).map (rv ad)) := ⟨PcE_blind ad _, fun U9 hU9 hW9 => ⟨rfl, (envK hC).warm hW9 hU9 hS, by rw [hU9]; exact hR, tk_ok hos⟩⟩
  have hS0 : CallFix p m c (mB k) (mL k) s args gT (mC k) := ⟨hC.1, hC.2.1, hC.2.2.2.1, hC.2.2.2.2.1, hts⟩
  have hrun : vx_Run p (gl G) e R s m args below meth c H locs (U - b) (U - b) u u (F0 m pc lsr (st.map (rv ad))) ((st.drop n).map (rv ad)) (QcE G ad (mN M) qr' ((tk n st).map (rv ad)).toArray) (XcE G ad (mN M) qx') (AA G) := by
    by_cases hh : mH j = []
    · have hcd := cWd_code hh
      refine vx_runS (y := mY j) (bytes := mB j) (maxL := mL j) (ret := mR j) (n := n) hS0 (hev ad) ⟨⟨rfl, rfl, hfr, hlo, hpay, by rw [← hcd]; exact List.mem_cons_self, by rw [← hcd]; exact hts _ (cW_g hj), by rw [v2]; exact hts _ v1, by rw [v2]; exact v3, mPn_len (by omega) hn9, hts _ w1⟩, hts _ w2⟩ hpre rfl (by rw [List.length_map, tk_len hlen]) hl.1 (stk_map hlen) (by show 2 * 0 + _ ≤ _; omega) hd ⟨by omega, by omega⟩
    · have hcd : cWd j = .codeWith (mY j) (mB j) (mL j) (mR j) (mH j) := by
        unfold cWd
        rw [if_neg (by intro h; exact hh (List.isEmpty_iff.mp h))]
      refine vx_runSX (y := mY j) (bytes := mB j) (maxL := mL j) (ret := mR j) (hh := mH j) (n := n) hS0 (hev ad) ⟨⟨rfl, rfl, hfr, hlo, hpay, by rw [← hcd]; exact List.mem_cons_self⟩, by rw [← hcd]; exact hts _ (cW_g hj), by rw [v2]; exact hts _ v1, by rw [v2]; exact v3, mPn_len (by omega) hn9, hts _ w1, hts _ w2⟩ hpre rfl (by rw [List.length_map, tk_len hlen]) hl.1 (stk_map hlen) (by show 2 * 0 + _ ≤ _; omega) hd ⟨by omega, by omega⟩
  refine run_go hrun hS (ret_go hC ha hn hl hol (drop_ok hos) hu hb K) (fun x M' ad' H1 locs1 q ce hx hq hR1 hS1 had hN hce hcv hcc => ?_)
  exact out_go hC hx (by unfold hdl; rw [hk0]; rfl) (fun h => absurd hk0 h) (KX x M' hq) hR1 hS1 (fun i hi => (had i (by omega)).trans (ha i hi)) (by omega) hce hcv hcc (by omega) (by omega) (hlk_of hC hk)
theorem g_special {i j n u a : Nat} {qr' : QR} {qx' : QX} (hd : decode (mB k) pc = .ok (.invokespecial i, 3)) (hlk : (∃ p1 p2 p3, (mO k, i, j, 1, p1, p2, p3) ∈ mL_) ∨ ∃ p1 p2, (mO k, i, j, p1, p2) ∈ nL_) (hk : k < 255) (hk0 : mH k = []) (hj : j < 233) (hn9 : n = (mPn[j]?).getD 0) (hthis : st[n]? = some (aR (some a))) (hret : mR j = none) (hs : stW (st.drop (n + 1)) ≤ 8) (hev : Ev G d j (tk (n + 1) st) M u qr' qx') (hu : u ≤ b)
    (K : ∀ r M', qr' r M' → match r with | none => Go G d k qr qx (pc + 3) ls (st.drop (n + 1)) M' (b - u) | some v => Go G d k qr qx (pc + 3) ls (v :: st.drop (n + 1)) M' (b - u)) (KX : ∀ x M', qx' x M' → qx x M') : Go G d k qr qx pc ls st M b := by
  intro U p e R s m args below meth c ad0 n0 hC ad H locs lsr hR hS ha hn hl hol hos hb
  have hts := hC.2.2.2.2.2.1
  have hW : ((Cond.methodLink (mC k) i (mY j)).before args s = true ∨ ∃ host, (Cond.methodLinkNest (mC k) i (mY j) host).before args s = true) ∧ (Cond.instanceMethod (mY j)).before args s = true ∧ (mY j).name = "<init>" := by
    rcases hlk with ⟨p1, p2, p3, h⟩ | ⟨p1, p2, h⟩
    · obtain ⟨w1, w2, -, w4⟩ := mLw h
      exact ⟨Or.inl (hts _ w1), hts _ w2, w4 rfl⟩
    · have h1 := of_decide_eq_true (List.all_eq_true.mp nL_ok _ h)
      refine ⟨Or.inr ⟨"DogTrials", va_Nw.use rfl ((envK hC).1.2.2.1 _ (List.mem_of_getElem? h1.1) rfl)⟩, hts _ (gT_of h1.2.1 rfl), h1.2.2⟩
  obtain ⟨v1, v2, v3⟩ := cL_w (show j < 254 by omega)
  have hl9 := (List.getElem?_eq_some_iff.mp hthis).1
  have hfr : (rmE d u).frames + 1 ≤ R.frames := hC.2.2.2.2.2.2.2.2.2.2.1
  have hlo : 8 + (mL j + 11) + (rmE d u).locals ≤ R.locals := by
    have h1 := hC.2.2.2.2.2.2.2.2.2.2.2.1
    have h2 := mL_26 (show j < 255 by omega)
    exact lo9 h1 h2
  have hU := hC.2.2.2.2.2.2.2.2.2.2.2.2.1
  have hU2 := hC.2.2.2.2.2.2.2.2.2.2.2.2.2.1
  have hcat := stW_cat ad (st.drop (n + 1))
  have hpay := pay_in hts (wsM_good (show j < 254 by omega))
  have hcd : cWd j = .code (mY j) (mB j) (mL j) none := by rw [cWd_code (mH_nil hj), hret]
  have htk := tk_this hthis
  have hpre : PreS s H (PcE G ad M (tk (n + 1) st)) (.ref (ad a) :: (tk n st).map (rv ad)) := ⟨PcE_blind ad _, fun U9 hU9 hW9 => ⟨by rw [htk]; rfl, (envK hC).warm hW9 hU9 hS, by rw [hU9]; exact hR, tk_ok hos⟩⟩
  have hS0 : CallFix p m c (mB k) (mL k) s args gT (mC k) := ⟨hC.1, hC.2.1, hC.2.2.2.1, hC.2.2.2.2.1, hts⟩
  have hrun : vx_Run p (gl G) e R s m args below meth c H locs (U - b) (U - b) u u (F0 m pc lsr (st.map (rv ad))) ((st.drop (n + 1)).map (rv ad)) (QcE G ad (mN M) qr' (Value.ref (ad a) :: (tk n st).map (rv ad)).toArray) (XcE G ad (mN M) qx') (AA G) :=
    vy_runI (y := mY j) (bytes := mB j) (maxL := mL j) (n := n) hS0 (hev ad) rfl rfl hfr hlo hpay (by rw [← hcd]; exact List.mem_cons_self) (by rw [← hcd]; exact hts _ (cW_g (by omega))) (by rw [v2]; exact hts _ v1) (by rw [v2]; exact v3) (mPn_len (by omega) hn9) hW.1 hW.2.2 hW.2.1 hpre rfl (by rw [List.length_map, tk_len (by omega)]) hl.1 (stk_this hthis) (by show 2 * 0 + _ ≤ _; omega) hd ⟨by omega, by omega⟩
  refine run_go hrun hS (ret_go hC ha hn hl hol (drop_ok hos) hu hb K) (fun x M' ad' H1 locs1 q ce hx hq hR1 hS1 had hN hce hcv hcc => ?_)
  exact out_go hC hx (by unfold hdl; rw [hk0]; rfl) (fun h => absurd hk0 h) (KX x M' hq) hR1 hS1 (fun i hi => (had i (by omega)).trans (ha i hi)) (by omega) hce hcv hcc (by omega) (by omega) (hlk_of hC hk)
theorem g_virtual {i j n p1 p2 p3 u a : Nat} {qr' : QR} {qx' : QX} (hd : decode (mB k) pc = .ok (.invokevirtual i, 3)) (hlk : (mO k, i, j, 2, p1, p2, p3) ∈ mL_) (hk : k < 255) (hj : j < 233) (hn9 : n = (mPn[j]?).getD 0) (hthis : st[n]? = some (aR (some a))) (hrc : if mO j < 13 then oB M a (mO j) else mO j = 14 ∧ a < 30) (hs : stW (st.drop (n + 1)) ≤ 8) (hev : Ev G d j (tk (n + 1) st) M u qr' qx') (hu : u ≤ b)
    (K : ∀ r M', qr' r M' → match r with | none => Go G d k qr qx (pc + 3) ls (st.drop (n + 1)) M' (b - u) | some v => Go G d k qr qx (pc + 3) ls (v :: st.drop (n + 1)) M' (b - u))
    (KX : ∀ x M', qx' x M' → match hdl k pc x with | none => qx x M' | some h => ∀ q : Nat, Go G d k qr qx h ls [aX q] M' 0) : Go G d k qr qx pc ls st M b := by
  intro U p e R s m args below meth c ad0 n0 hC ad H locs lsr hR hS ha hn hl hol hos hb
  have hts := hC.2.2.2.2.2.1
  obtain ⟨w1, w2, w3, -⟩ := mLw hlk
  obtain ⟨v1, v2, v3⟩ := cL_w (show j < 254 by omega)
  have hl9 := (List.getElem?_eq_some_iff.mp hthis).1
  have hfr : (rmE d u).frames + 1 ≤ R.frames := hC.2.2.2.2.2.2.2.2.2.2.1
  have hlo : 8 + (mL j + 11) + (rmE d u).locals ≤ R.locals := by
    have h1 := hC.2.2.2.2.2.2.2.2.2.2.2.1
    have h2 := mL_26 (show j < 255 by omega)
    exact lo9 h1 h2
  have hU := hC.2.2.2.2.2.2.2.2.2.2.2.2.1
  have hU2 := hC.2.2.2.2.2.2.2.2.2.2.2.2.2.1
  have hcat := stW_cat ad (st.drop (n + 1))
  have hpay := pay_in hts (wsM_good (show j < 254 by omega))
  have hcd := cWd_code (mH_nil hj)
  have htk := tk_this hthis
  have hrec : ∃ cellB : Cell, H[ad a]? = some cellB ∧ cellB.vm.isStatics = false ∧ s.vm.findClass (mC j) = some cellB.cls := by
    by_cases h13 : mO j < 13
    · rw [if_pos h13] at hrc
      have := va_recv (envV hC) hR.2.2.1 (vC_at h13) (by rw [wsO_get hrc.1 hrc.2.1, entO_obj hrc.2.2 h13])
      rw [vC_own' h13] at this
      exact this
    · rw [if_neg h13] at hrc
      obtain ⟨cell, h1, h2, h3, -⟩ := ((envK hC).2.1.1 a hrc.2).1.kept hS.2.1
      refine ⟨cell, by rw [hR.1.1 a hrc.2]; exact h1, h2, ?_⟩
      have : mC j = aSt := by unfold mC; rw [hrc.1]; rfl
      rw [this]; exact h3
  have hpre : PreV s H (mC j) (ad a) (PcE G ad M (tk (n + 1) st)) ((tk n st).map (rv ad)) := ⟨PcE_blind ad _, hrec, fun U9 hU9 hW9 => ⟨by rw [htk]; rfl, (envK hC).warm hW9 hU9 hS, by rw [hU9]; exact hR, tk_ok hos⟩⟩
  have hS0 : CallFix p m c (mB k) (mL k) s args gT (mC k) := ⟨hC.1, hC.2.1, hC.2.2.2.1, hC.2.2.2.2.1, hts⟩
  have hrun : vx_Run p (gl G) e R s m args below meth c H locs (U - b) (U - b) u u (F0 m pc lsr (st.map (rv ad))) ((st.drop (n + 1)).map (rv ad)) (QcE G ad (mN M) qr' (Value.ref (ad a) :: (tk n st).map (rv ad)).toArray) (XcE G ad (mN M) qx') (AA G) :=
    vx_runV (C := mC j) (y := mY j) (bytes := mB j) (maxL := mL j) (ret := mR j) (n := n) hS0 (hev ad) ⟨⟨rfl, rfl, hfr, hlo, hpay, by rw [← hcd]; exact List.mem_cons_self, by rw [← hcd]; exact hts _ (cW_g (by omega)), by rw [v2]; exact hts _ v1, by rw [v2]; exact v3, mPn_len (by omega) hn9, hts _ w1⟩, hts _ w2, hts _ (w3 rfl)⟩ hpre rfl (by rw [List.length_map, tk_len (by omega)]) hl.1 (stk_this hthis) (by show 2 * 0 + _ ≤ _; omega) hd ⟨by omega, by omega⟩
  refine run_go hrun hS (ret_go hC ha hn hl hol (drop_ok hos) hu hb K) (fun x M' ad' H1 locs1 q ce hx hq hR1 hS1 had hN hce hcv hcc => ?_)
  have hk9 := KX x M' hq
  cases hh : hdl k pc x with
  | none =>
    rw [hh] at hk9
    exact out_go hC hx hh (fun h => by
      obtain ⟨z, hz⟩ := List.exists_mem_of_ne_nil _ h
      exact (of_decide_eq_true (List.all_eq_true.mp (List.all_eq_true.mp mH_tab k (List.mem_range.mpr hk)) z hz)).1) hk9 hR1 hS1 (fun i hi => (had i (by omega)).trans (ha i hi)) (by omega) hce hcv hcc (by omega) (by omega) (hlk_of hC hk)
  | some h =>
    rw [hh] at hk9
    obtain ⟨z, hz, rfl⟩ := Option.map_eq_some_iff.mp hh
    obtain ⟨hz1, pre, suf, hsp, hpre9⟩ := List.find?_eq_some_iff_append.mp hz
    simp only [Bool.and_eq_true, decide_eq_true_eq] at hz1
    have hmem : z ∈ mH k := by rw [hsp]; exact List.mem_append_right _ List.mem_cons_self
    have hlks := hlk_of hC hk
    obtain ⟨nm, hl1, hnm, hz0⟩ := hlks z hmem
    rw [hz1.2] at hnm
    subst hnm
    have hcast : (Cond.castable (exN x) (exN x)).before args s = true := by
      have hin : Jvm.Cond.castable (exN x) (exN x) ∈ lw_tbl := by
        rcases (by omega : x = 0 ∨ x = 1) with e | e <;> subst e
        · have := of_decide_eq_true (Bool.and_eq_true_iff.mp (List.all_eq_true.mp tw_64_66 (Jvm.Cond.castable (exN 0) (exN 0)) (by decide +kernel))).1
          exact this
        · have := of_decide_eq_true (Bool.and_eq_true_iff.mp (List.all_eq_true.mp tw_127_129 (Jvm.Cond.castable (exN 1) (exN 1)) (by decide +kernel))).1
          exact this
      exact va_Nw.use rfl ((envK hC).1.2.2.1 _ hin rfl)
    have g9 := hk9 q U p e R s m args below meth c ad0 n0 hC ad' H1 locs1 lsr hR1 hS1 (fun i hi => (had i (by omega)).trans (ha i hi)) (by omega) (by rw [lpr_congr had 0 hol]; exact hl) (fun v hv => okV_mono hN (hol v hv)) (okc (by exact trivial) (by intro v hv; cases hv)) (by omega)
    refine vx_catch (own := mC k) (name := exN x) (E := exN x) hC.2.2.2.2.1 (tableOf pre) ⟨z.1, z.2.1, z.2.2.1, z.2.2.2⟩ (tableOf suf) (by rw [hC.2.2.2.2.2.2.2.1, hsp]; unfold tableOf; rw [List.map_append]; rfl) ?_ ?_ hz0 hl1 hcast hce hcv hcc (W.widen (k := U - 0) (n := U - 0) (by omega) (by omega) g9)
    · intro w hw
      obtain ⟨y, hy, rfl⟩ := List.mem_map.mp hw
      have hy1 := hpre9 y hy
      have hmy : y ∈ mH k := by rw [hsp]; exact List.mem_append_left _ hy
      by_cases hcov : y.1 ≤ pc ∧ pc < y.2.1
      · right
        obtain ⟨nm, hl2, hnm2, hz2⟩ := hlks y hmy
        refine ⟨hz2, nm, hl2, ?_⟩
        have hne : exTy y ≠ x := by
          intro e9
          simp [hcov, e9] at hy1
        rw [hnm2]
        obtain ⟨-, -, -, -, -, -, -, -, n1, n2⟩ := (envK hC).1
        have hty : exTy y = 0 ∨ exTy y = 1 := by unfold exTy; split <;> simp
        rcases (by omega : x = 0 ∨ x = 1) with e9 | e9 <;> subst e9
        · rw [show exTy y = 1 by omega]; exact n1
        · rw [show exTy y = 0 by omega]; exact n2
      · left
        show (decide (y.1 ≤ pc) && decide (pc < y.2.1)) = false
        rw [Bool.and_eq_false_iff]
        by_cases h1 : y.1 ≤ pc
        · right; simp; exact Nat.not_lt.mp fun h2 => hcov ⟨h1, h2⟩
        · left; simp; omega
    · show (decide (z.1 ≤ pc) && decide (pc < z.2.1)) = true
      simp [hz1.1]
-- returns
theorem ret9 {ad0 : Nat → Nat} {n0 U : Nat} {p : Program} {e : Env} {R : Room} {s : State} {m : MethodId} {args : Array Value} {below : List Frame} {meth : Method} {c : Code} {H : Heap} {locs : List Loc} {g : JFrame} (hb : b ≤ U)
    (h : W p (gl G) e R s m args below meth c H locs U U (MQ below (QcE G ad0 n0 qr) args s U U (AA G)) g) : W p (gl G) e R s m args below meth c H locs (U - b) (U - b) (vx_MQ below (QcE G ad0 n0 qr) (XcE G ad0 n0 qx) args s U U (AA G)) g :=
  W.widen (k := U) (n := U) (by omega) (by omega) (vx_ret h)
theorem g_ireturn {v : Int32} (hd : decode (mB k) pc = .ok (.ireturn, 1)) (hr : retI k v) (hq : qr (some (aI v)) M) : Go G d k qr qx pc ls [aI v] M b := by
  intro U p e R s m args below meth c ad0 n0 hC ad H locs lsr hR hS ha hn hl hol hos hb
  obtain ⟨ty, h1, h2⟩ := hr
  exact ret9 hb (W.zret hC.1 hC.2.1 (hC.2.2.1.trans h1) h2 (fun t ht hW => ⟨some (aI v), ad, M, rfl, hq, by rw [ht]; exact hR, ha, hn, hS.F ht, fun w hw => by cases hw; trivial⟩) hS.2.2 hd hC.2.2.2.2.2.2.1)
theorem g_lreturn {v : Int64} (hd : decode (mB k) pc = .ok (.lreturn, 1)) (hr : mR k = some .long) (hq : qr (some (aL v)) M) : Go G d k qr qx pc ls [aL v] M b := by
  intro U p e R s m args below meth c ad0 n0 hC ad H locs lsr hR hS ha hn hl hol hos hb
  exact ret9 hb (W.lret hC.1 hC.2.1 (hC.2.2.1.trans hr) (fun t ht hW => ⟨some (aL v), ad, M, rfl, hq, by rw [ht]; exact hR, ha, hn, hS.F ht, fun w hw => by cases hw; trivial⟩) hS.2.2 hd hC.2.2.2.2.2.2.1)
theorem g_areturn {r : Option Nat} (hd : decode (mB k) pc = .ok (.areturn, 1)) (hr : retA k) (hq : qr (some (aR r)) M) : Go G d k qr qx pc ls [aR r] M b := by
  intro U p e R s m args below meth c ad0 n0 hC ad H locs lsr hR hS ha hn hl hol hos hb
  obtain ⟨ty, h1, h2⟩ := hr
  exact ret9 hb (W.aret hC.1 hC.2.1 (hC.2.2.1.trans h1) h2 (by cases r with
    | none => exact Or.inl rfl
    | some a => exact Or.inr ⟨_, rfl⟩) (fun t ht hW => ⟨some (aR r), ad, M, rfl, hq, by rw [ht]; exact hR, ha, hn, hS.F ht, fun w hw => by cases hw; exact okh hos⟩) hS.2.2 hd hC.2.2.2.2.2.2.1)
theorem g_return (hd : decode (mB k) pc = .ok (.return_, 1)) (hr : mR k = none) (hq : qr none M) : Go G d k qr qx pc ls [] M b := by
  intro U p e R s m args below meth c ad0 n0 hC ad H locs lsr hR hS ha hn hl hol hos hb
  exact ret9 hb (W.vret hC.1 hC.2.1 (hC.2.2.1.trans hr) (fun t ht hW => ⟨none, ad, M, rfl, hq, by rw [ht]; exact hR, ha, hn, hS.F ht, fun w hw => by cases hw⟩) hS.2.2 hd hC.2.2.2.2.2.2.1)
theorem atW {ic x : Nat} {args : Array Value} {s : State} (hall : ((vx_at0 "DogTrials" ic (exN x) ["java/lang/RuntimeException", "java/lang/Exception"]).all fun w => decide (w ∈ lw_tbl) && (goodWord w || isNw w)) = true) (hts : ∀ w ∈ gT, w.before args s = true) (hN : NwS s) :
    (∀ w ∈ vx_at0 "DogTrials" ic (exN x) ["java/lang/RuntimeException", "java/lang/Exception"], w.before args s = true) ∧ ∀ w ∈ vx_at0 "DogTrials" ic (exN x) ["java/lang/RuntimeException", "java/lang/Exception"], vx_ot w = true := by
  have h9 : ∀ w ∈ vx_at0 "DogTrials" ic (exN x) ["java/lang/RuntimeException", "java/lang/Exception"], w ∈ lw_tbl ∧ (goodWord w = true ∨ isNw w = true) := fun w hw => by
    have := List.all_eq_true.mp hall w hw
    simp only [Bool.and_eq_true, decide_eq_true_eq, Bool.or_eq_true] at this
    exact this
  refine ⟨fun w hw => ?_, fun w hw => ?_⟩
  · obtain ⟨h1, h2 | h2⟩ := h9 w hw
    · exact hts w (List.mem_filter.mpr ⟨h1, h2⟩)
    · have hot : w.onTables = true := by cases w <;> first | rfl | (simp [isNw] at h2)
      exact va_Nw.use hot (hN w h1 h2)
  · obtain ⟨h1, h2 | h2⟩ := h9 w hw
    · unfold vx_ot; rw [h2, Bool.or_true]
    · have hot : w.onTables = true := by cases w <;> first | rfl | (simp [isNw] at h2)
      unfold vx_ot; rw [hot, Bool.true_or]
theorem g_throw {ik ic x : Nat} (hd : decode (mB k) pc = .ok (.new ik, 3)) (ht : (k, pc, ik, ic, x) ∈ tL) (hb6 : 6 ≤ b) (hs : stW st ≤ 8) (hq : qx x M) : Go G d k qr qx pc ls st M b := by
  intro U p e R s m args below meth c ad0 n0 hC ad H locs lsr hR hS ha hn hl hol hos hb
  obtain ⟨d3, d4, d7, hmh, ho, hx⟩ := of_decide_eq_true (List.all_eq_true.mp tL_ok _ ht)
  have hown : mC k = "DogTrials" := by unfold mC; rw [ho]; rfl
  have hts := hC.2.2.2.2.2.1
  have hU := hC.2.2.2.2.2.2.2.2.2.2.2.2.1
  have hU2 := hC.2.2.2.2.2.2.2.2.2.2.2.2.2.1
  have hcat := stW_cat ad st
  have hR1 := hC.2.2.2.2.2.2.2.2.2.2.1
  have hR2 := hC.2.2.2.2.2.2.2.2.2.2.2.1
  have htp : (ik = 64 ∧ ic = 66 ∧ x = 0) ∨ (ik = 127 ∧ ic = 129 ∧ x = 1) := by
    have := List.all_eq_true.mp tL_tP _ ht
    simp [tP] at this
    omega
  have hw : (Jvm.Cond.classLink "DogTrials" ik (exN x)) ∈ gT ∧ (Jvm.Cond.initialized (exN x)) ∈ gT ∧ Bundle.fit (exN x) = true ∧ ((vx_at0 "DogTrials" ic (exN x) ["java/lang/RuntimeException", "java/lang/Exception"]).all fun w => decide (w ∈ lw_tbl) && (goodWord w || isNw w)) = true := by
    rcases htp with ⟨rfl, rfl, rfl⟩ | ⟨rfl, rfl, rfl⟩
    · exact ⟨gT_of tk_64_66.1 rfl, gT_of tk_64_66.2 rfl, by decide +kernel, tw_64_66⟩
    · exact ⟨gT_of tk_127_129.1 rfl, gT_of tk_127_129.2 rfl, by decide +kernel, tw_127_129⟩
  obtain ⟨w1, w2, w3, w4⟩ := hw
  obtain ⟨a1, a2⟩ := atW w4 hts (envK hC).1.2.2.1
  have htab : ∀ z ∈ c.exceptionTable.toList, covers z (pc + 7) = false := by rw [hC.2.2.2.2.2.2.2.1, hmh]; intro z hz; cases hz
  exact vx_throw0 (own := "DogTrials") (cls := exN x) (names := ["java/lang/RuntimeException", "java/lang/Exception"]) (A := AA G) hC.1 hC.2.1 hC.2.2.2.2.2.2.2.2.2.2.2.2.2.2 (by rw [← hown]; exact hC.2.2.2.2.1) w3 (by decide +kernel) (hts _ w1) (hts _ w2) a1
    (fun w hw => by
      rcases List.mem_cons.mp hw with e1 | hw
      · rw [e1]; rfl
      · rcases List.mem_cons.mp hw with e1 | hw
        · rw [e1]; rfl
        · exact a2 w hw) (envK hC).2.1.2.2.2.2.1 (envK hC).2.1.2.2.2.2.2 hS (by rw [hC.2.2.2.1]; exact hl.1) hd d3 d4 d7 htab (by show 2 + 3 < _; omega) (by show _ + (13 * (2 + 1) + 42) ≤ _; omega) (by omega) (by omega) hC.2.2.2.2.2.2.1
    (fun t hW hsz hkeep => ⟨x, ad, M, rfl, hx, hq, ⟨hR.1, hR.2.1, hR.2.2.1.kept (fun k9 x9 hx9 => hkeep _ ((hR.2.2.1 k9 x9 hx9).lt)), hR.2.2.2⟩, ha, hn, ⟨Nat.le_trans hS.1 hsz, fun q h1 h2 => (hkeep q (Nat.lt_of_lt_of_le h1 hS.1)).trans (hS.2.1 q h1 h2)⟩⟩) hS.2.2 (by omega) (by omega)
end

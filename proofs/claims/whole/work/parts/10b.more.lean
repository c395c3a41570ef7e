/-! Arrays of arrays, System.arraycopy, statics, Object's constructor. -/
theorem nr_N (M : Mem) (k sz : Nat) : ∀ n, mN (newRows M k sz n) = mN M + n
  | 0 => rfl
  | n + 1 => by show mN (newRows M k sz n) + 1 = _; rw [nr_N M k sz n]; omega
theorem nr_old (M : Mem) (k sz : Nat) {a : Nat} : ∀ n, a < mN M → mK (newRows M k sz n) a = mK M a ∧ mI (newRows M k sz n) a = mI M a ∧ mJ (newRows M k sz n) a = mJ M a ∧ mP (newRows M k sz n) a = mP M a
  | 0, _ => ⟨rfl, rfl, rfl, rfl⟩
  | n + 1, h => by
    obtain ⟨h1, h2, h3, h4⟩ := nr_old M k sz n h
    have hN := nr_N M k sz n
    have e : a ≠ mN (newRows M k sz n) := by omega
    exact ⟨(fu_ne _ _ e).trans h1, (fu_ne _ _ e).trans h2, (fu_ne _ _ e).trans h3, (fu_ne _ _ e).trans h4⟩
theorem nr_new (M : Mem) (k sz : Nat) {i : Nat} : ∀ n, i < n → mK (newRows M k sz n) (mN M + i) = (k, sz) ∧ mI (newRows M k sz n) (mN M + i) = (fun _ => 0) ∧ mJ (newRows M k sz n) (mN M + i) = (fun _ => 0) ∧ mP (newRows M k sz n) (mN M + i) = (fun _ => none)
  | 0, h => absurd h (by omega)
  | n + 1, h => by
    have hN := nr_N M k sz n
    by_cases e : i = n
    · subst e
      have e2 : mN M + i = mN (newRows M k sz i) := hN.symm
      show mK (newC (newRows M k sz i) k sz) (mN M + i) = _ ∧ mI (newC (newRows M k sz i) k sz) (mN M + i) = _ ∧ mJ (newC (newRows M k sz i) k sz) (mN M + i) = _ ∧ mP (newC (newRows M k sz i) k sz) (mN M + i) = _
      rw [e2]
      exact ⟨mK_newC _ _ _, mI_newC _ _ _, mJ_newC _ _ _, mP_newC _ _ _⟩
    · obtain ⟨h1, h2, h3, h4⟩ := nr_new M k sz n (i := i) (by omega)
      have e2 : mN M + i ≠ mN (newRows M k sz n) := by omega
      exact ⟨(fu_ne _ _ e2).trans h1, (fu_ne _ _ e2).trans h2, (fu_ne _ _ e2).trans h3, (fu_ne _ _ e2).trans h4⟩
theorem ng_N (M : Mem) (ko k n sz : Nat) : mN (newG M ko k n sz) = mN M + 1 + n := by unfold newG; rw [nr_N]; rfl
theorem ng_old (M : Mem) (ko k n sz : Nat) {a : Nat} (h : a < mN M) : mK (newG M ko k n sz) a = mK M a ∧ mI (newG M ko k n sz) a = mI M a ∧ mJ (newG M ko k n sz) a = mJ M a ∧ mP (newG M ko k n sz) a = mP M a := by
  unfold newG
  obtain ⟨h1, h2, h3, h4⟩ := nr_old (rowP (newC M ko n) (mN M) (fun j => if j < n then some (mN M + 1 + j) else none)) k sz n (a := a) (show a < mN M + 1 by omega)
  have e : a ≠ mN M := by omega
  refine ⟨h1.trans (fu_ne _ _ e), h2.trans (fu_ne _ _ e), h3.trans (fu_ne _ _ e), h4.trans ?_⟩
  rw [mP_rowP, if_neg e]
  exact fu_ne _ _ e
theorem ng_out (M : Mem) (ko k n sz : Nat) : mK (newG M ko k n sz) (mN M) = (ko, n) ∧ mP (newG M ko k n sz) (mN M) = fun j => if j < n then some (mN M + 1 + j) else none := by
  unfold newG
  obtain ⟨h1, h2, h3, h4⟩ := nr_old (rowP (newC M ko n) (mN M) (fun j => if j < n then some (mN M + 1 + j) else none)) k sz n (a := mN M) (show mN M < mN M + 1 by omega)
  exact ⟨h1.trans (mK_newC M ko n), h4.trans (rP_self _ _ _)⟩
theorem ng_row (M : Mem) (ko k n sz : Nat) {i : Nat} (h : i < n) : mK (newG M ko k n sz) (mN M + 1 + i) = (k, sz) ∧ mI (newG M ko k n sz) (mN M + 1 + i) = (fun _ => 0) ∧ mJ (newG M ko k n sz) (mN M + 1 + i) = (fun _ => 0) ∧ mP (newG M ko k n sz) (mN M + 1 + i) = (fun _ => none) :=
  nr_new (rowP (newC M ko n) (mN M) (fun j => if j < n then some (mN M + 1 + j) else none)) k sz n h
theorem WF_ng {M : Mem} (hw : WF M) (ko k n sz : Nat) : WF (newG M ko k n sz) := by
  have hN := ng_N M ko k n sz
  refine ⟨by have := hw.1; omega, fun a j r hr => ?_⟩
  rw [hN]
  rcases Nat.lt_trichotomy a (mN M) with h | h | h
  · rw [(ng_old M ko k n sz h).2.2.2] at hr
    have := hw.2 a j r hr
    omega
  · subst h
    rw [(ng_out M ko k n sz).2] at hr
    dsimp only at hr
    split at hr
    · cases hr; omega
    · cases hr
  · by_cases h2 : a - mN M - 1 < n
    · rw [show a = mN M + 1 + (a - mN M - 1) by omega, (ng_row M ko k n sz h2).2.2.2] at hr
      cases hr
    · have : ∀ m, a ≥ mN M + 1 + m → mP (newRows (rowP (newC M ko n) (mN M) (fun j => if j < n then some (mN M + 1 + j) else none)) k sz m) a = mP M a := by
        intro m
        induction m with
        | zero =>
          intro _
          show mP (rowP (newC M ko n) (mN M) _) a = _
          rw [mP_rowP, if_neg (by omega)]
          exact fu_ne _ _ (by omega)
        | succ m ih =>
          intro hm
          rw [← ih (by omega)]
          refine fu_ne _ _ ?_
          rw [nr_N]
          show a ≠ mN M + 1 + m
          omega
      have e := this n (by omega)
      unfold newG at hr
      rw [e] at hr
      have := hw.2 a j r hr
      omega
section
variable {G : GE} {d k : Nat} {qr : QR} {qx : QX} {pc : Nat} {ls st : List AV} {M : Mem} {b : Nat}
theorem wsO_ng {ad ad' : Nat → Nat} {κo κ n sz q : Nat} {r : Nat → Nat} {z : vp_A} (hw : WF M) (had : ∀ i, i < mN M → ad' i = ad i) (hq : ad' (mN M) = q) (hr : ∀ i, i < n → ad' (mN M + 1 + i) = r i) (hκ : 23 ≤ κo)
    (hz : ∀ i, i < n → entO G ad' (newG M κo κ n sz) (mN M + 1 + i) = .inl (gA G κ, z)) :
    (wsO G ad M ++ [(q, .inl (gA G κo, n, .inr (.inr (.inr (.inr (fun i => if i < n then some (r i) else none))))))]) ++ va_pl ([] ++ (List.range n).map r) (vr_up (fun _ => .inr (0, [])) ((List.range n).map r) (.inl (gA G κ, z))) = wsO G ad' (newG M κo κ n sz) := by
  have hN := ng_N M κo κ n sz
  have h61 := hw.1
  have hpl : va_pl ([] ++ (List.range n).map r) (vr_up (fun _ => .inr (0, [])) ((List.range n).map r) (.inl (gA G κ, z))) = (List.range n).map (fun i => (r i, (.inl (gA G κ, z) : va_E))) := by
    unfold va_pl
    rw [List.nil_append, List.map_map]
    apply List.map_congr_left
    intro i hi
    show (r i, vr_up _ _ _ (r i)) = _
    rw [vr_up_in (List.mem_map.mpr ⟨i, hi, rfl⟩)]
  rw [hpl]
  apply List.ext_getElem?
  intro j
  by_cases h1 : j < mN M - 61
  · rw [List.append_assoc, List.getElem?_append_left (by rw [wsO_len]; exact h1)]
    have g1 := wsO_get (G := G) (ad := ad) (M := M) (a := 61 + j) (by omega) (by omega)
    have g2 := wsO_get (G := G) (ad := ad') (M := newG M κo κ n sz) (a := 61 + j) (by omega) (by omega)
    rw [show 61 + j - 61 = j by omega] at g1 g2
    obtain ⟨e1, e2, e3, e4⟩ := ng_old M κo κ n sz (a := 61 + j) (by omega)
    rw [g1, g2, had _ (by omega), entO_congr e1 e2 e3 e4 had (fun j r hr => hw.2 _ j r hr)]
  · by_cases h2 : j = mN M - 61
    · subst h2
      have g2 := wsO_get (G := G) (ad := ad') (M := newG M κo κ n sz) (a := mN M) (by omega) (by omega)
      rw [g2, List.append_assoc, List.getElem?_append_right (by rw [wsO_len]; omega), wsO_len, Nat.sub_self, hq]
      obtain ⟨e1, e2⟩ := ng_out M κo κ n sz
      have e0 : (mK (newG M κo κ n sz) (mN M)).1 = κo := by rw [e1]
      rw [entO_ref e0 hκ, e1, e2]
      refine congrArg some (Prod.ext rfl ?_)
      have : (fun i => if i < n then some (r i) else none) = fun j => Option.map ad' (if j < n then some (mN M + 1 + j) else none) := by
        funext i
        by_cases hi : i < n
        · rw [if_pos hi, if_pos hi, Option.map_some, hr i hi]
        · rw [if_neg hi, if_neg hi]; rfl
      rw [this]
    · rw [List.getElem?_append_right (by rw [List.length_append, wsO_len]; simp; omega), List.length_append, wsO_len]
      by_cases h3 : j < mN M - 61 + 1 + n
      · have hi : j - (mN M - 61 + 1) < n := by omega
        have g2 := wsO_get (G := G) (ad := ad') (M := newG M κo κ n sz) (a := mN M + 1 + (j - (mN M - 61 + 1))) (by omega) (by omega)
        rw [show mN M + 1 + (j - (mN M - 61 + 1)) - 61 = j by omega] at g2
        rw [g2, show [(q, (Sum.inl (gA G κo, n, .inr (.inr (.inr (.inr (fun i => if i < n then some (r i) else none))))) : va_E))].length = 1 from rfl, List.getElem?_map, List.getElem?_range hi, Option.map_some, hr _ hi, hz _ hi]
      · rw [List.getElem?_eq_none (by simp; omega), List.getElem?_eq_none (by rw [wsO_len]; omega)]
/-- the addresses behind 'new T[n][m]' -/
def adG (ad r : Nat → Nat) (N n q : Nat) : Nat → Nat := fun i => if i < N then ad i else if i = N then q else if i < N + 1 + n then r (i - N - 1) else ad i
theorem multi_go {i o κ p1 : Nat} {n m : Int32} {ty : FieldType} {z : vp_A} (hd : decode (mB k) pc = .ok (.multianewarray i 2, 4)) (hf : (o, i, κ, p1) ∈ aL_) (ho : mO k = o) (hκ : κ = 25 ∨ κ = 26) (hs : "[" ++ (FieldType.array ty).toString = aNm κ)
    (htI : (tysG G)[κ - 20]? = some (gA G κ, .array ty)) (htR : (tysG G)[κ - 5 - 20]? = some (gA G (κ - 5), ty)) (hpr : ∀ (s : State) (cA : ClassId), va_RA s cA ty → s.vm.findClass (FieldType.array ty).toString = some cA) (hcb : componentBytes ty ≤ 8) (hdf : fits ty (defaultValue ty) = true) (hdd : (defaultValue ty).isDefault = true) (hao : ∀ s, EnvS G s → va_AOA ty s) (hw9 : Jvm.Cond.arrayClass ty ∈ gT)
    (hn0 : 0 ≤ n.toInt) (hn1 : n.toInt ≤ 1000) (hm0 : 0 ≤ m.toInt) (hm1 : m.toInt ≤ 1000) (hbu : iN n * (iN m + 1) + iN n + 1 ≤ b) (hz : ∀ c : ClassId, Jvm.Free.Multi.innerC c (iN m) (defaultValue ty) = vp_cell c z)
    (hze : ∀ ad j, j < iN n → entO G ad (newG M κ (κ - 5) (iN n) (iN m)) (mN M + 1 + j) = .inl (gA G (κ - 5), z))
    (g : Go G d k qr qx (pc + 4) ls (aR (some (mN M)) :: st) (newG M κ (κ - 5) (iN n) (iN m)) (b - (iN n * (iN m + 1) + iN n + 1))) : Go G d k qr qx pc ls (aI m :: aI n :: st) M b := by
  intro U p e R s m9 args below meth c ad0 n0 hC ad H locs lsr hR hS ha hn hl hol hos hb
  have hU := hC.2.2.2.2.2.2.2.2.2.2.2.2.1
  have hU2 := hC.2.2.2.2.2.2.2.2.2.2.2.2.2.1
  have hle : iN n ≤ 1000 := by show n.toInt.toNat ≤ 1000; omega
  have hle2 : iN m ≤ 1000 := by show m.toInt.toNat ≤ 1000; omega
  subst ho
  have hw := aL_w hf
  rw [← hs] at hw
  have hmul : iN n * (iN m + 1) = iN n * iN m + iN n := Nat.mul_succ _ _
  have hP0 : va_P (gC G, gI G) vwCl (wsO G ad M ++ va_pl [] (fun _ => .inr (0, []))) H := by rw [show va_pl [] (fun _ => (.inr (0, []) : va_E)) = [] from rfl, List.append_nil]; exact hR.2.2.1
  have hD0 : va_D (AA G) (wsO G ad M ++ va_pl [] (fun _ => .inr (0, []))) := by rw [show va_pl [] (fun _ => (.inr (0, []) : va_E)) = [] from rfl, List.append_nil]; exact hR.2.2.2
  refine va_mna (cy := gA G (κ - 5)) hC.1 hC.2.1 hC.2.2.2.2.1 (hC.2.2.2.2.2.1 _ hw) (hao s (envK hC)) (hC.2.2.2.2.2.1 _ hw9) (hpr s _ ((envV hC).2 _ _ htR).2) (envV hC) hP0 hD0 hS (fun q hq => Nat.le_trans (envK hC).2.2.1 hq) (N' := iN n) (K' := iN m) (nIclamp n hn0) (nIclamp m hm0) rfl rfl (by omega) ?_ (by omega) hdf hdd (by omega) (by omega) hz hd (fun q r cA H1 hri hrl hK hP hD hS1 => ?_)
  · exact Nat.le_trans (Nat.mul_le_mul hle2 hcb) (Nat.le_of_ble_eq_true rfl)
  · have ec : cA = gA G κ := va_same (by omega) (by omega) htI (envV hC) hK
    subst ec
    have a1 : ∀ j, j < mN M → adG ad r (mN M) (iN n) q j = ad j := fun j hj => if_pos hj
    have a2 : adG ad r (mN M) (iN n) q (mN M) = q := by unfold adG; rw [if_neg (by omega), if_pos rfl]
    have a3 : ∀ j, j < iN n → adG ad r (mN M) (iN n) q (mN M + 1 + j) = r j := fun j hj => by unfold adG; rw [if_neg (by omega), if_neg (by omega), if_pos (by omega)]; congr 1; omega
    rw [wsO_ng hR.2.1 a1 a2 a3 (by omega) (hze _)] at hP hD
    have h61 := hR.2.1.1
    refine W.widen (k := U - (b - (iN n * (iN m + 1) + iN n + 1))) (n := U - (b - (iN n * (iN m + 1) + iN n + 1))) (by omega) (by omega) ?_
    exact Go_made hC ha hn hl hol (okt (okt hos)) (adG ad r (mN M) (iN n) q) a1 (by rw [ng_N]; omega) a2 ⟨⟨fun j hj => (a1 _ (by omega)).trans (hR.1.1 j hj), fun j hj => (a1 _ (by omega)).trans (hR.1.2.1 j hj), (a1 _ (by omega)).trans hR.1.2.2⟩, WF_ng hR.2.1 _ _ _ _, hP, hD⟩ hS1 (by omega) g
theorem g_multi {i o κ p1 : Nat} {n m : Int32} (hd : decode (mB k) pc = .ok (.multianewarray i 2, 4)) (hf : (o, i, κ, p1) ∈ aL_) (ho : mO k = o) (hκ : κ = 25 ∨ κ = 26)
    (hn0 : 0 ≤ n.toInt) (hn1 : n.toInt ≤ 1000) (hm0 : 0 ≤ m.toInt) (hm1 : m.toInt ≤ 1000) (hbu : iN n * (iN m + 1) + iN n + 1 ≤ b)
    (g : Go G d k qr qx (pc + 4) ls (aR (some (mN M)) :: st) (newG M κ (κ - 5) (iN n) (iN m)) (b - (iN n * (iN m + 1) + iN n + 1))) : Go G d k qr qx pc ls (aI m :: aI n :: st) M b := by
  rcases hκ with h | h
  · subst h
    exact multi_go (ty := .int) (z := (iN m, .inl (fun _ => 0))) hd hf ho (Or.inl rfl) rfl rfl rfl (fun s cA h => h) (by decide) rfl rfl (fun s h => h.1.2.2.2.2.2.2.1) wArr.1 hn0 hn1 hm0 hm1 hbu (fun c => arrV_new _ _ _) (fun ad j hj => by
      obtain ⟨e1, e2, -⟩ := ng_row M 25 20 (iN n) (iN m) hj
      rw [entO_int (k := 20) (by rw [e1]) (Or.inl rfl), e1, e2]) g
  · subst h
    exact multi_go (ty := .long) (z := (iN m, .inr (.inl (fun _ => 0)))) hd hf ho (Or.inr rfl) rfl rfl rfl (fun s cA h => h) (by decide) rfl rfl (fun s h => h.1.2.2.2.2.2.2.2.1) wArr.2.1 hn0 hn1 hm0 hm1 hbu (fun c => arrV_new _ _ _) (fun ad j hj => by
      obtain ⟨e1, -, e3, -⟩ := ng_row M 26 21 (iN n) (iN m) hj
      rw [entO_long (by rw [e1]), e1, e3]) g
theorem stW_cat (ad : Nat → Nat) : ∀ st : List AV, ((st.map (rv ad)).map fun v => v.category).sum ≤ stW st
  | [] => Nat.le_refl 0
  | v :: t => by
    have ih := stW_cat ad t
    rw [List.map_cons, List.map_cons, List.sum_cons]
    rcases v with x | x | r | q
    · show 1 + _ ≤ stW t + 1; omega
    · show 2 + _ ≤ stW t + 2; omega
    · have : (rv ad (aR r)).category = 1 := by cases r <;> rfl
      show (rv ad (aR r)).category + _ ≤ stW t + 1; omega
    · have : (rv ad (.inr (.inr (.inr q)))).category = 1 := by cases q <;> rfl
      show (rv ad (.inr (.inr (.inr q)))).category + _ ≤ stW t + 1; omega
theorem g_objInit {i p1 a : Nat} (hd : decode (mB k) pc = .ok (.invokespecial i, 3)) (hf : (mO k, i, p1) ∈ oiL) (hs : stW st ≤ 8) (g : Go G d k qr qx (pc + 3) ls st M b) : Go G d k qr qx pc ls (aR (some a) :: st) M b := by
  have hw := gT_of (of_decide_eq_true (List.all_eq_true.mp oiL_ok _ hf)) rfl
  refine Go_pure (fun p e R s m args below meth c U ad H locs lsr cells slots Q hC hR hS hl h => ?_) (fun n hw hn hol ho => okt ho) g
  have hcat := stW_cat ad st
  refine W.objInit hC.1 hC.2.1 hC.2.2.2.2.1 (hC.2.2.2.2.2.1 _ hw) (hC.2.2.2.2.2.1 _ (gT_of oi_inst rfl)) (hC.2.2.2.2.2.1 _ (gT_of oi_code rfl)) rfl (by rw [hC.2.2.2.1]; exact hl.1) rfl hd (by have := hC.2.2.2.2.2.2.2.2.2.2.1; omega) ?_ h
  have := hC.2.2.2.2.2.2.2.2.2.2.2.1
  show 2 * 0 + _ + 12 ≤ _
  omega
theorem g_getstatic0 {i p1 : Nat} (hd : decode (mB k) pc = .ok (.getstatic i, 3)) (hf : (mO k, i, 0, p1) ∈ gsL) (g : Go G d k qr qx (pc + 3) ls (aI 1 :: st) M b) : Go G d k qr qx pc ls st M b := by
  have hw := gT_of (of_decide_eq_true (List.all_eq_true.mp gsL_ok _ hf)).1 rfl
  exact Go_pure (fun p e R s m args below meth c U ad H locs lsr cells slots Q hC hR hS hl h => va_gets (C := aSt) (ref := aSt) (n := "COMPACT_STRINGS") (d := "Z") hC.1 hC.2.1 (envK hC).2.1.2.2.1 hS hC.2.2.2.2.1 (hC.2.2.2.2.2.1 _ hw) (fun x hx => hx) hd h) (fun n hw hn hol ho => okc (by exact trivial) ho) g
theorem g_getstatic1 {i p1 : Nat} (hd : decode (mB k) pc = .ok (.getstatic i, 3)) (hf : (mO k, i, 1, p1) ∈ gsL) (g0 : Go G d k qr qx (pc + 3) ls (aR none :: st) M b) (g1 : ∀ q, Go G d k qr qx (pc + 3) ls (aX q :: st) M b) : Go G d k qr qx pc ls st M b := by
  have hw := gT_of (of_decide_eq_true (List.all_eq_true.mp gsL_ok _ hf)).1 rfl
  intro U p e R s m args below meth c ad0 n0 hC ad H locs lsr hR hS ha hn hl hol hos hb
  rcases (envK hC).2.1.2.2.2.1 with hZ | ⟨t, hZ⟩
  · exact va_gets (ref := "jdk/internal/util/Preconditions") (n := "SIOOBE_FORMATTER") hC.1 hC.2.1 hZ hS hC.2.2.2.2.1 (hC.2.2.2.2.2.1 _ hw) (fun x hx => hx) hd (g0 U p e R s m args below meth c ad0 n0 hC ad H locs lsr hR hS ha hn hl hol (okc (by exact trivial) hos) hb)
  · exact va_gets (ref := "jdk/internal/util/Preconditions") (n := "SIOOBE_FORMATTER") hC.1 hC.2.1 hZ hS hC.2.2.2.2.1 (hC.2.2.2.2.2.1 _ hw) (fun x hx => hx) hd (g1 t U p e R s m args below meth c ad0 n0 hC ad H locs lsr hR hS ha hn hl hol (okc (by exact trivial) hos) hb)
theorem g_arraycopy {i p1 a a0 : Nat} {sp dp n : Int32} (hd : decode (mB k) pc = .ok (.invokestatic i, 3)) (hf : (mO k, i, p1) ∈ acL) (hs : stW st ≤ 8) (hk0 : oB M a0 20) (hk : oB M a 20) (h1 : 0 ≤ sp.toInt) (h2 : 0 ≤ dp.toInt) (h3 : 0 ≤ n.toInt) (h4 : sp.toInt + n.toInt ≤ (mK M a0).2) (h5 : dp.toInt + n.toInt ≤ (mK M a).2)
    (g : Go G d k qr qx (pc + 3) ls st (rowI M a (fun j => if iN dp ≤ j ∧ j < iN dp + iN n then mI M a0 (iN sp + (j - iN dp)) else mI M a j)) b) : Go G d k qr qx pc ls (aI n :: aI dp :: aR (some a) :: aI sp :: aR (some a0) :: st) M b := by
  have hw := gT_of (of_decide_eq_true (List.all_eq_true.mp acL_ok _ hf)) rfl
  intro U p e R s m args below meth c ad0 n0 hC ad H locs lsr hR hS ha hn hl hol hos hb
  have hcat := stW_cat ad st
  have hR1 := hC.2.2.2.2.2.2.2.2.2.2.1
  have hR2 := hC.2.2.2.2.2.2.2.2.2.2.2.1
  have hnw : nativeFrameWords "java/lang/System" "arraycopy" 5 ≤ 200 := by decide +kernel
  have q1 : sp.toNatClampNeg + n.toNatClampNeg ≤ (mK M a0).2 := by show sp.toInt.toNat + n.toInt.toNat ≤ _; omega
  have q2 : dp.toNatClampNeg + n.toNatClampNeg ≤ (mK M a).2 := by show dp.toInt.toNat + n.toInt.toNat ≤ _; omega
  refine va_copyi (f := mI M a0) (g := mI M a) hC.1 hC.2.1 (by rw [hC.2.2.2.1]; exact hl.1.symm) hC.2.2.2.2.1 (hC.2.2.2.2.2.1 _ hw) (hC.2.2.2.2.2.1 _ (gT_of ac_words.1 rfl)) (hC.2.2.2.2.2.1 _ (gT_of ac_words.2.1 rfl)) (hC.2.2.2.2.2.1 _ (gT_of ac_words.2.2 rfl)) (envV hC) hR.2.2.1 hR.2.2.2 hS (a0 - 61) (a - 61) 0 0
    (by rw [wsO_get hk0.1 hk0.2.1, entO_int hk0.2.2 (Or.inl rfl)]) (by rw [wsO_get hk.1 hk.2.1, entO_int hk.2.2 (Or.inl rfl)]) rfl rfl rfl (nIclamp _ h1) (nIclamp _ h2) (nIclamp _ h3) q1 q2 (fun i hi => rfl) (by omega) (by omega) hd (fun H1 locs1 hP hD hS1 => ?_)
  have he : entO G ad (rowI M a (fun j => if iN dp ≤ j ∧ j < iN dp + iN n then mI M a0 (iN sp + (j - iN dp)) else mI M a j)) a = .inl (gA G 20, (mK M a).2, .inl (va_cpy (mI M a0) (mI M a) sp.toNatClampNeg dp.toNatClampNeg n.toNatClampNeg)) := by
    have e0 : (mK (rowI M a (fun j => if iN dp ≤ j ∧ j < iN dp + iN n then mI M a0 (iN sp + (j - iN dp)) else mI M a j)) a).1 = 20 := hk.2.2
    rw [entO_int e0 (Or.inl rfl), rI_self]
    rfl
  exact g U p e R s m args below meth c ad0 n0 hC ad H1 locs1 lsr (Rep_set hR hk.1 rfl he (apartI _) hR.2.1 hP hD) hS1 ha hn hl hol (okt (okt (okt (okt (okt hos))))) hb
end

/-! putfield, arrays, strings. -/
section
variable {G : GE} {d k : Nat} {qr : QR} {qx : QX} {pc : Nat} {ls st : List AV} {M : Mem} {b : Nat}
theorem fV_I {M : Mem} {a ci f : Nat} (h : fTy ci f = 0 ∨ fTy ci f = 3) : fV M a ci f = aI (mI M a f) := by unfold fV; rw [if_neg (by omega), if_neg (by omega)]
theorem fV_J {M : Mem} {a ci f : Nat} (h : fTy ci f = 1) : fV M a ci f = aL (mJ M a f) := by unfold fV; rw [if_pos h]
theorem fV_P {M : Mem} {a ci f : Nat} (h : fTy ci f = 2) : fV M a ci f = aR (mP M a f) := by unfold fV; rw [if_neg (by omega), if_pos h]
theorem tyC_0 {ty : FieldType} (h : tyC 0 ty = true) : ty = .int := of_decide_eq_true h
theorem tyC_1 {ty : FieldType} (h : tyC 1 ty = true) : ty = .long := of_decide_eq_true h
theorem tyC_3 {ty : FieldType} (h : tyC 3 ty = true) : ty = .boolean := of_decide_eq_true h
theorem tyC_2 {ty : FieldType} (h : tyC 2 ty = true) : (∃ n, ty = .object n) ∨ ∃ t, ty = .array t := by
  cases ty <;> first | exact Or.inl ⟨_, rfl⟩ | exact Or.inr ⟨_, rfl⟩ | (simp [tyC] at h)
theorem isB_narrow {x : Int32} (h : isB x) : narrow .boolean (.int x) = .int x := by rcases h with h | h <;> subst h <;> rfl
theorem isB_fits {x : Int32} (h : isB x) : fits .boolean (.int x) = true := by rcases h with h | h <;> subst h <;> rfl
theorem fV_setI {M : Mem} {a ci f f' : Nat} {x : Int32} (hf : f' ≠ f) : fV (setI M a f x) a ci f' = fV M a ci f' := by
  unfold fV setI; rw [rI_self, fu_ne _ _ hf]; rfl
theorem fV_setJ {M : Mem} {a ci f f' : Nat} {x : Int64} (hf : f' ≠ f) : fV (setJ M a f x) a ci f' = fV M a ci f' := by
  unfold fV setJ; rw [rJ_self, fu_ne _ _ hf]; rfl
theorem fV_setP {M : Mem} {a ci f f' : Nat} {x : Option Nat} (hf : f' ≠ f) : fV (setP M a f x) a ci f' = fV M a ci f' := by
  unfold fV setP; rw [rP_self, fu_ne _ _ hf]; rfl
theorem g_putfield {i o ci f pl a : Nat} {v : AV} (hd : decode (mB k) pc = .ok (.putfield i, 3)) (hf : (o, i, ci, f, pl) ∈ fL) (ho : mO k = o) (hk : oB M a ci)
    (hfin : ((vC ci).2.1 f).2.2.2 = false ∨ ((mY k).name = "<init>" ∧ ci = mO k))
    (g : putV M a ci f v fun M' => Go G d k qr qx (pc + 3) ls st M' b) : Go G d k qr qx pc ls (v :: aR (some a) :: st) M b := by
  have hty := tyG_f (fL_w hf).1 (fL_w hf).2.1
  unfold putV at g
  split at g
  · next h1 =>
    rw [h1] at hty
    have e := tyC_1 hty
    rcases v with x | x | r | q
    · cases g
    · refine putfield_go (v := aL x) (M' := setJ M a f x) hd hf ho hk hfin (fun ad => by rw [e]; rfl) (fun ad => by rw [e]; rfl) rfl rfl (apartJ _) ?_ (fun f' h => fV_setJ h) (fun hw _ => hw) g
      rw [fV_J h1]; unfold setJ; rw [rJ_self, fu_self]
    · cases g
    · cases g
  · split at g
    · next h1 =>
      rw [h1] at hty
      rcases v with x | x | r | q
      · cases g
      · cases g
      · refine putfield_go (v := aR r) (M' := setP M a f r) hd hf ho hk hfin ?_ ?_ rfl rfl (apartP _) ?_ (fun f' h => fV_setP h) (fun hw hv => WF_setP hw (fun x hx => by subst hx; exact hv)) g
        · intro ad; rcases tyC_2 hty with ⟨n, e⟩ | ⟨t, e⟩ <;> rw [e] <;> cases r <;> rfl
        · intro ad; rcases tyC_2 hty with ⟨n, e⟩ | ⟨t, e⟩ <;> rw [e] <;> cases r <;> rfl
        · rw [fV_P h1]; unfold setP; rw [rP_self, fu_self]
      · cases g
    · split at g
      · next h1 =>
        rw [h1] at hty
        have e := tyC_3 hty
        rcases v with x | x | r | q
        · obtain ⟨hb, g⟩ := g
          refine putfield_go (v := aI x) (M' := setI M a f x) hd hf ho hk hfin (fun ad => by rw [e]; exact isB_narrow hb) (fun ad => by rw [e]; exact isB_fits hb) rfl rfl (apartI _) ?_ (fun f' h => fV_setI h) (fun hw _ => hw) g
          rw [fV_I (Or.inr h1)]; unfold setI; rw [rI_self, fu_self]
        · cases g
        · cases g
        · cases g
      · split at g
        · next h1 =>
          rw [h1] at hty
          have e := tyC_0 hty
          rcases v with x | x | r | q
          · refine putfield_go (v := aI x) (M' := setI M a f x) hd hf ho hk hfin (fun ad => by rw [e]; rfl) (fun ad => by rw [e]; rfl) rfl rfl (apartI _) ?_ (fun f' h => fV_setI h) (fun hw _ => hw) g
            rw [fV_I (Or.inl h1)]; unfold setI; rw [rI_self, fu_self]
          · cases g
          · cases g
          · cases g
        · cases g
theorem envK {U : Nat} {p : Program} {R : Room} {s : State} {m : MethodId} {args : Array Value} {meth : Method} {c : Code} (hC : GoC G d k U p R s m args meth c) : EnvS G s := hC.2.2.2.2.2.2.2.2.2.1
theorem envV {U : Nat} {p : Program} {R : Room} {s : State} {m : MethodId} {args : Array Value} {meth : Method} {c : Code} (hC : GoC G d k U p R s m args meth c) : va_K (gC G, gI G) vwCl (tysG G) s := (envK hC).1.1
theorem g_iaload {a : Nat} {i : Int32} (hd : decode (mB k) pc = .ok (.iaload, 1)) (hk : iA M a 20 i) (g : Go G d k qr qx (pc + 1) ls (aI (mI M a (iN i)) :: st) M b) : Go G d k qr qx pc ls (aI i :: aR (some a) :: st) M b :=
  Go_pure (fun p e R s m args below meth c U ad H locs lsr cells slots Q hC hR hS hl h => va_iald (f := mI M a) hC.1 hC.2.1 (envV hC) hR.2.2.1 (a - 61) 0 (by rw [wsO_get hk.1.1 hk.1.2.1, entO_int hk.1.2.2 (Or.inl rfl)]) rfl (inb_vp.mp hk.2) hd h) (fun n hw hn hol ho => okc (by exact trivial) (okt (okt ho))) g
theorem g_zaload {a : Nat} {i : Int32} (hd : decode (mB k) pc = .ok (.baload, 1)) (hk : iA M a 22 i) (g : Go G d k qr qx (pc + 1) ls (aI (mI M a (iN i)) :: st) M b) : Go G d k qr qx pc ls (aI i :: aR (some a) :: st) M b :=
  Go_pure (fun p e R s m args below meth c U ad H locs lsr cells slots Q hC hR hS hl h => va_zald (f := mI M a) hC.1 hC.2.1 (envV hC) hR.2.2.1 (a - 61) 2 (by rw [wsO_get hk.1.1 hk.1.2.1, entO_int hk.1.2.2 (Or.inr rfl)]) rfl (inb_vp.mp hk.2) hd h) (fun n hw hn hol ho => okc (by exact trivial) (okt (okt ho))) g
theorem g_laload {a : Nat} {i : Int32} (hd : decode (mB k) pc = .ok (.laload, 1)) (hk : iA M a 21 i) (g : Go G d k qr qx (pc + 1) ls (aL (mJ M a (iN i)) :: st) M b) : Go G d k qr qx pc ls (aI i :: aR (some a) :: st) M b :=
  Go_pure (fun p e R s m args below meth c U ad H locs lsr cells slots Q hC hR hS hl h => va_lald (f := mJ M a) hC.1 hC.2.1 (envV hC) hR.2.2.1 (a - 61) 1 (by rw [wsO_get hk.1.1 hk.1.2.1, entO_long hk.1.2.2]) rfl (inb_vp.mp hk.2) hd h) (fun n hw hn hol ho => okc (by exact trivial) (okt (okt ho))) g
theorem g_saload {i : Int32} (hd : decode (mB k) pc = .ok (.iaload, 1)) (hk : inb i (gLn G)) (g : Go G d k qr qx (pc + 1) ls (aI (gx G (iN i)) :: st) M b) : Go G d k qr qx pc ls (aI i :: aR (some 60) :: st) M b :=
  Go_pure (fun p e R s m args below meth c U ad H locs lsr cells slots Q hC hR hS hl h => by
    show W _ _ _ _ _ _ _ _ _ _ _ _ _ _ _ (F0 m pc lsr (.int i :: .ref (ad 60) :: st.map (rv ad)))
    rw [hR.1.2.2]
    exact va_sld hC.1 hC.2.1 (envK hC).2.1.2.1.1 (envK hC).2.1.2.1.2.2 (Nat.not_le.mpr (envK hC).2.1.2.1.2.1) hS (inb_vp.mp hk) hd h) (fun n hw hn hol ho => okc (by exact trivial) (okt (okt ho))) g
theorem g_slen (hd : decode (mB k) pc = .ok (.arraylength, 1)) (g : Go G d k qr qx (pc + 1) ls (aI (iZ (gLn G : Nat)) :: st) M b) : Go G d k qr qx pc ls (aR (some 60) :: st) M b :=
  Go_pure (fun p e R s m args below meth c U ad H locs lsr cells slots Q hC hR hS hl h => by
    show W _ _ _ _ _ _ _ _ _ _ _ _ _ _ _ (F0 m pc lsr (.ref (ad 60) :: st.map (rv ad)))
    rw [hR.1.2.2]
    exact va_slen hC.1 hC.2.1 (envK hC).2.1.2.1.1 (envK hC).2.1.2.1.2.2 (Nat.not_le.mpr (envK hC).2.1.2.1.2.1) hS hd h) (fun n hw hn hol ho => okc (by exact trivial) (okt ho)) g
theorem g_baload {a : Nat} {i : Int32} (hd : decode (mB k) pc = .ok (.baload, 1)) (h1 : 30 ≤ a) (h2 : a < 60) (hk : inb i (sLen (a - 30))) (g : Go G d k qr qx (pc + 1) ls (aI (sByt (a - 30) (iN i)) :: st) M b) : Go G d k qr qx pc ls (aI i :: aR (some a) :: st) M b :=
  Go_pure (fun p e R s m args below meth c U ad H locs lsr cells slots Q hC hR hS hl h => by
    show W _ _ _ _ _ _ _ _ _ _ _ _ _ _ _ (F0 m pc lsr (.int i :: .ref (ad a) :: st.map (rv ad)))
    rw [show a = (a - 30) + 30 by omega, hR.1.2.1 (a - 30) (by omega)]
    exact va_tb hC.1 hC.2.1 ((envK hC).2.1.1 (a - 30) (by omega)).2.2.2 hS (inb_vp.mp hk) rfl hd h) (fun n hw hn hol ho => okc (by exact trivial) (okt (okt ho))) g
theorem g_blen {a : Nat} (hd : decode (mB k) pc = .ok (.arraylength, 1)) (h1 : 30 ≤ a) (h2 : a < 60) (g : Go G d k qr qx (pc + 1) ls (aI (iZ (sLen (a - 30) : Nat)) :: st) M b) : Go G d k qr qx pc ls (aR (some a) :: st) M b :=
  Go_pure (fun p e R s m args below meth c U ad H locs lsr cells slots Q hC hR hS hl h => by
    show W _ _ _ _ _ _ _ _ _ _ _ _ _ _ _ (F0 m pc lsr (.ref (ad a) :: st.map (rv ad)))
    have e1 : ad a = gV G (a - 30) := by rw [← hR.1.2.1 (a - 30) (by omega)]; congr 1; omega
    rw [e1]
    exact va_tlen hC.1 hC.2.1 ((envK hC).2.1.1 (a - 30) (by omega)).2.2.2 hS rfl hd h) (fun n hw hn hol ho => okc (by exact trivial) (okt ho)) g
/-- a cell that is an array: its number in the kit's list of types -/
theorem tysG_at {κ : Nat} (h1 : 20 ≤ κ) (h2 : κ ≤ 27) : ∃ ty, (tysG G)[κ - 20]? = some (gA G κ, ty) ∧ (23 ≤ κ → ty.isReference = true) := by
  match κ, h1, h2 with
  | 20, _, _ => exact ⟨_, rfl, fun h => absurd h (by omega)⟩
  | 21, _, _ => exact ⟨_, rfl, fun h => absurd h (by omega)⟩
  | 22, _, _ => exact ⟨_, rfl, fun h => absurd h (by omega)⟩
  | 23, _, _ | 24, _, _ | 25, _, _ | 26, _, _ | 27, _, _ => exact ⟨_, rfl, fun _ => rfl⟩
  | n + 28, _, h => exact absurd h (by omega)
theorem entO_arr {G : GE} {ad : Nat → Nat} {M : Mem} {a κ : Nat} (hk : (mK M a).1 = κ) (h : 20 ≤ κ) : ∃ x : vp_A, entO G ad M a = .inl (gA G κ, x) ∧ x.1 = (mK M a).2 := by
  subst hk
  unfold entO
  rw [if_neg (by omega)]
  split
  · next e => exact ⟨_, by rw [e], rfl⟩
  · split
    · exact ⟨_, rfl, rfl⟩
    · exact ⟨_, rfl, rfl⟩
theorem g_alen {a κ : Nat} (hd : decode (mB k) pc = .ok (.arraylength, 1)) (h0 : 61 ≤ a) (h9 : a < mN M) (hk : (mK M a).1 = κ) (h1 : 20 ≤ κ) (h2 : κ ≤ 27) (g : Go G d k qr qx (pc + 1) ls (aI (iZ ((mK M a).2 : Nat)) :: st) M b) : Go G d k qr qx pc ls (aR (some a) :: st) M b :=
  Go_pure (fun p e R s m args below meth c U ad H locs lsr cells slots Q hC hR hS hl h => by
    obtain ⟨ty, ht, -⟩ := tysG_at (G := G) h1 h2
    obtain ⟨x, hx, hx2⟩ := entO_arr (G := G) (ad := ad) (M := M) (a := a) hk h1
    exact va_alen (cA := gA G κ) (x := x) hC.1 hC.2.1 (envV hC) hR.2.2.1 (a - 61) (κ - 20) (by rw [wsO_get h0 h9, hx]) ht (by rw [hx2]; rfl) hd h) (fun n hw hn hol ho => okc (by exact trivial) (okt ho)) g
theorem g_aaload {a κ : Nat} {i : Int32} (hd : decode (mB k) pc = .ok (.aaload, 1)) (hk : iA M a κ i) (h1 : 23 ≤ κ) (h2 : κ ≤ 27) (g : Go G d k qr qx (pc + 1) ls (aR (mP M a (iN i)) :: st) M b) : Go G d k qr qx pc ls (aI i :: aR (some a) :: st) M b :=
  Go_pure (fun p e R s m args below meth c U ad H locs lsr cells slots Q hC hR hS hl h => by
    obtain ⟨ty, ht, hr⟩ := tysG_at (G := G) (κ := κ) (by omega) h2
    have hin := inb_vp.mp hk.2
    have hlt : i.toNatClampNeg < (mK M a).2 := Nat.not_le.mp fun q => hin (Or.inr q)
    have ha : (wsO G ad M)[a - 61]? = some (ad a, .inl (gA G κ, (mK M a).2, .inr (.inr (.inr (.inr (fun j => (mP M a j).map ad)))))) := by rw [wsO_get hk.1.1 hk.1.2.1, entO_ref hk.1.2.2 h1]
    have h9 : W p (gl G) e R s m args below meth c H locs cells slots Q (F0 m (pc + 1) lsr (va_rf ((mP M a (iN i)).map ad) :: st.map (rv ad))) := by rw [← rv_rf]; exact h
    exact W.aald (v := va_rf ((mP M a (iN i)).map ad)) (ty := ty) hC.1 hC.2.1 (hR.2.2.1 _ _ ha) (((envV hC).2 _ _ ht).1 _ (fun j => va_rf ((mP M a j).map ad))) (hr h1) (fun q => by cases q) (by show ¬ (i < 0 ∨ (arrV _ _ _).slots.size ≤ _); rw [arrV_size]; exact hin) (by show (arrV _ _ _).slots[_]? = _; rw [arrV_read _ _ hlt]; rfl) rfl rfl hd h9) (fun n hw hn hol ho => okc (by
      cases h : mP M a (iN i) with
      | none => trivial
      | some r => rw [hn]; exact hw.2 _ _ _ h) (okt (okt ho))) g
theorem upd_fu (f : Nat → Int32) (i : Nat) (x : Int32) : upd f i x = fu f i x := rfl
theorem updL_fu (f : Nat → Int64) (i : Nat) (x : Int64) : vp_updL f i x = fu f i x := rfl
theorem up_map (f : Nat → Option Nat) (ad : Nat → Nat) (i : Nat) (r : Nat) : va_up (fun j => (f j).map ad) i (some (ad r)) = fun j => (fu f i (some r) j).map ad := by
  funext j; unfold va_up fu; split <;> rfl
theorem g_iastore {a : Nat} {i x : Int32} (hd : decode (mB k) pc = .ok (.iastore, 1)) (hk : iA M a 20 i) (g : Go G d k qr qx (pc + 1) ls st (setI M a (iN i) x) b) : Go G d k qr qx pc ls (aI x :: aI i :: aR (some a) :: st) M b := by
  intro U p e R s m args below meth c ad0 n0 hC ad H locs lsr hR hS ha hn hl hol hos hb
  refine va_iast (f := mI M a) hC.1 hC.2.1 (envV hC) hR.2.2.1 hR.2.2.2 hS (a - 61) 0 (by rw [wsO_get hk.1.1 hk.1.2.1, entO_int hk.1.2.2 (Or.inl rfl)]) rfl (inb_vp.mp hk.2) hd (fun H1 locs1 hP hD hS1 => ?_)
  exact g U p e R s m args below meth c ad0 n0 hC ad H1 locs1 lsr (Rep_set hR hk.1.1 rfl (by rw [entO_int (M := setI M a (iN i) x) hk.1.2.2 (Or.inl rfl)]; unfold setI; rw [rI_self]; rfl) (apartI _) hR.2.1 hP hD) hS1 ha hn hl hol (okt (okt (okt hos))) hb
theorem g_bastore {a : Nat} {i x : Int32} (hd : decode (mB k) pc = .ok (.bastore, 1)) (hk : iA M a 22 i) (hx : isB x) (g : Go G d k qr qx (pc + 1) ls st (setI M a (iN i) x) b) : Go G d k qr qx pc ls (aI x :: aI i :: aR (some a) :: st) M b := by
  intro U p e R s m args below meth c ad0 n0 hC ad H locs lsr hR hS ha hn hl hol hos hb
  have e1 : vp_nar .boolean x = x := by rcases hx with hx | hx <;> subst hx <;> rfl
  refine va_zast (f := mI M a) (x := x) hC.1 hC.2.1 (envV hC) hR.2.2.1 hR.2.2.2 hS (a - 61) 2 (by rw [wsO_get hk.1.1 hk.1.2.1, entO_int hk.1.2.2 (Or.inr rfl)]) rfl (inb_vp.mp hk.2) hd (fun H1 locs1 hP hD hS1 => ?_)
  rw [e1] at hP hD
  exact g U p e R s m args below meth c ad0 n0 hC ad H1 locs1 lsr (Rep_set hR hk.1.1 rfl (by rw [entO_int (M := setI M a (iN i) x) hk.1.2.2 (Or.inr rfl)]; unfold setI; rw [rI_self]; rfl) (apartI _) hR.2.1 hP hD) hS1 ha hn hl hol (okt (okt (okt hos))) hb
theorem g_lastore {a : Nat} {i : Int32} {x : Int64} (hd : decode (mB k) pc = .ok (.lastore, 1)) (hk : iA M a 21 i) (g : Go G d k qr qx (pc + 1) ls st (setJ M a (iN i) x) b) : Go G d k qr qx pc ls (aL x :: aI i :: aR (some a) :: st) M b := by
  intro U p e R s m args below meth c ad0 n0 hC ad H locs lsr hR hS ha hn hl hol hos hb
  refine va_last (f := mJ M a) hC.1 hC.2.1 (envV hC) hR.2.2.1 hR.2.2.2 hS (a - 61) 1 (by rw [wsO_get hk.1.1 hk.1.2.1, entO_long hk.1.2.2]) rfl (inb_vp.mp hk.2) hd (fun H1 locs1 hP hD hS1 => ?_)
  exact g U p e R s m args below meth c ad0 n0 hC ad H1 locs1 lsr (Rep_set hR hk.1.1 rfl (by rw [entO_long (M := setJ M a (iN i) x) hk.1.2.2]; unfold setJ; rw [rJ_self]; rfl) (apartJ _) hR.2.1 hP hD) hS1 ha hn hl hol (okt (okt (okt hos))) hb
theorem any_obj {s : State} {H : Heap} {ad : Nat → Nat} {r ci : Nat} (hV : va_K (gC G, gI G) vwCl (tysG G) s) (hR : Rep G ad M H) (hk : oB M r ci) (h : ci < 13) : va_Any (vC ci).1 s H (ad r) :=
  va_rAny hV hR.2.2.1 (by rw [wsO_get hk.1 hk.2.1, entO_obj hk.2.2 h]) (vC_at h) (fun comp c0 h1 h2 => by rw [h1] at h2; cases h2; exact va_asg _ _)
theorem any_str {s : State} {H : Heap} {locs : List Loc} {i : Nat} (hE : EnvS G s) (hS : va_S (AA G) s.heap H locs) (hi : i < 30) : va_Any aSt s H (gS G i) := by
  obtain ⟨cell, h1, h2, h3, -⟩ := ((hE.2.1.1 i hi).1).kept hS.2.1
  obtain ⟨kC, hkC, -⟩ := Vm.findClass_spec h3
  exact ⟨cell, h1, h2, ⟨kC, hkC⟩, fun comp h => by rw [h] at h3; cases h3; exact va_asg _ _⟩
theorem g_aastore {a r κ : Nat} {i : Int32} (hd : decode (mB k) pc = .ok (.aastore, 1)) (hk : iA M a κ i) (hr : (κ = 23 ∧ oB M r 6) ∨ (κ = 24 ∧ oB M r 7) ∨ (κ = 27 ∧ r < 30)) (g : Go G d k qr qx (pc + 1) ls st (setP M a (iN i) (some r)) b) : Go G d k qr qx pc ls (aR (some r) :: aI i :: aR (some a) :: st) M b := by
  intro U p e R s m args below meth c ad0 n0 hC ad H locs lsr hR hS ha hn hl hol hos hb
  have h23 : 23 ≤ κ := by omega
  have hget : (wsO G ad M)[a - 61]? = some (ad a, .inl (gA G κ, (mK M a).2, .inr (.inr (.inr (.inr (fun j => (mP M a j).map ad)))))) := by rw [wsO_get hk.1.1 hk.1.2.1, entO_ref hk.1.2.2 h23]
  have kk : ∀ (H1 : Heap) (locs1 : List Loc), va_P (gC G, gI G) vwCl ((wsO G ad M).set (a - 61) (ad a, .inl (gA G κ, (mK M a).2, .inr (.inr (.inr (.inr (va_up (fun j => (mP M a j).map ad) i.toNatClampNeg (some (ad r))))))))) H1 → va_D (AA G) ((wsO G ad M).set (a - 61) (ad a, .inl (gA G κ, (mK M a).2, .inr (.inr (.inr (.inr (va_up (fun j => (mP M a j).map ad) i.toNatClampNeg (some (ad r))))))))) → va_S (AA G) s.heap H1 locs1 →
      W p (gl G) e R s m args below meth c H1 locs1 (U - b) (U - b) (vx_MQ below (QcE G ad0 n0 qr) (XcE G ad0 n0 qx) args s U U (AA G)) (F0 m (pc + 1) lsr (st.map (rv ad))) := fun H1 locs1 hP hD hS1 =>
    g U p e R s m args below meth c ad0 n0 hC ad H1 locs1 lsr (Rep_set hR hk.1.1 rfl (by
      have e0 : (mK (setP M a (iN i) (some r)) a).1 = κ := hk.1.2.2
      rw [entO_ref e0 h23]
      unfold setP
      rw [rP_self, up_map]; rfl) (apartP _) (WF_setP hR.2.1 (fun x hx => by cases hx; exact okh hos)) hP hD) hS1 ha hn hl hol (okt (okt (okt hos))) hb
  rcases hr with ⟨e1, e2⟩ | ⟨e1, e2⟩ | ⟨e1, e2⟩
  · subst e1
    exact va_astqM hC.1 hC.2.1 (envV hC) hR.2.2.1 hR.2.2.2 hS (a - 61) 3 hget rfl (any_obj (envV hC) hR e2 (by omega)) (inb_vp.mp hk.2) hd kk
  · subst e1
    exact va_astqM hC.1 hC.2.1 (envV hC) hR.2.2.1 hR.2.2.2 hS (a - 61) 4 hget rfl (any_obj (envV hC) hR e2 (by omega)) (inb_vp.mp hk.2) hd kk
  · subst e1
    exact va_astqM hC.1 hC.2.1 (envV hC) hR.2.2.1 hR.2.2.2 hS (a - 61) 7 hget rfl (by rw [hR.1.1 r e2]; exact any_str (envK hC) hS e2) (inb_vp.mp hk.2) hd kk
theorem g_ldcS {i j : Nat} {q : Nat × Nat × String × Nat} (hd : decode (mB k) pc = .ok (.ldc i, 2)) (hj : sTx[j]? = some q) (h1 : q.1 = mO k) (h2 : q.2.1 = i) (g : Go G d k qr qx (pc + 2) ls (aR (some j) :: st) M b) : Go G d k qr qx pc ls st M b := by
  have hj30 : j < 30 := by
    have := (List.getElem?_eq_some_iff.mp hj).1
    have e : sTx.length = 30 := by decide +kernel
    omega
  refine Go_pure (fun p e R s m args below meth c U ad H locs lsr cells slots Q hC hR hS hl h => ?_) (fun n hw hn hol ho => okc (by have := hw.1; show j < n; omega) ho) g
  have h9 : W p (gl G) e R s m args below meth c H locs cells slots Q (F0 m (pc + 2) lsr (.ref (gS G j) :: st.map (rv ad))) := by rw [← hR.1.1 j hj30]; exact h
  have hZ := (envK hC).1.2.1 j hj30 q hj
  rw [h1, h2] at hZ
  exact va_ldcS hC.1 hC.2.1 hC.2.2.2.2.1 hZ hd h9
/-- a String's fields -/
theorem g_strF {i a : Nat} {v : AV} (hd : decode (mB k) pc = .ok (.getfield i, 3)) (ha : a < 30) (hv : (v = aR (some (a + 30)) ∧ Jvm.Cond.fieldLink (mC k) i aSt "value" "[B" ∈ gT) ∨ (v = aI 0 ∧ Jvm.Cond.fieldLink (mC k) i aSt "coder" "B" ∈ gT)) (g : Go G d k qr qx (pc + 3) ls (v :: st) M b) : Go G d k qr qx pc ls (aR (some a) :: st) M b := by
  refine Go_pure (fun p e R s m args below meth c U ad H locs lsr cells slots Q hC hR hS hl h => ?_) (fun n hw hn hol ho => okc (by
    rcases hv with ⟨e1, -⟩ | ⟨e1, -⟩ <;> subst e1
    · have := hw.1; show a + 30 < n; omega
    · trivial) (okt ho)) g
  show W _ _ _ _ _ _ _ _ _ _ _ _ _ _ _ (F0 m pc lsr (.ref (ad a) :: st.map (rv ad)))
  rw [hR.1.1 a ha]
  rcases hv with ⟨e1, hw9⟩ | ⟨e1, hw9⟩ <;> subst e1
  · have h9 : W p (gl G) e R s m args below meth c H locs cells slots Q (F0 m (pc + 3) lsr (.ref (gV G a) :: st.map (rv ad))) := by rw [← hR.1.2.1 a ha]; exact h
    exact vk_getf hC.1 hC.2.1 ((envK hC).2.1.1 a ha).2.2.1 hS hC.2.2.2.2.1 (hC.2.2.2.2.2.1 _ hw9) (fun x hx => hx) hd h9
  · exact vk_getf hC.1 hC.2.1 ((envK hC).2.1.1 a ha).2.1 hS hC.2.2.2.2.1 (hC.2.2.2.2.2.1 _ hw9) (fun x hx => hx) hd h
end

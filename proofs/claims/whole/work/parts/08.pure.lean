/-! One row an instruction: what the machine does is what the abstract machine does (printed by wip/whole/gen/gosound.py). -/
theorem okt {n : Nat} {v : AV} {t : List AV} (h : ∀ w ∈ v :: t, okV n w) : ∀ w ∈ t, okV n w := fun w hw => h w (List.mem_cons_of_mem _ hw)
theorem okc {n : Nat} {v : AV} {t : List AV} (hv : okV n v) (h : ∀ w ∈ t, okV n w) : ∀ w ∈ v :: t, okV n w := fun w hw => (List.mem_cons.mp hw).elim (fun e => by rw [e]; exact hv) (h w)
theorem okh {n : Nat} {v : AV} {t : List AV} (h : ∀ w ∈ v :: t, okV n w) : okV n v := h v List.mem_cons_self
theorem catI (ad : Nat → Nat) {v : AV} (h : c1 v) : (rv ad v).category = 1 := by
  rcases v with x | x | r | q
  · rfl
  · cases h
  · cases r <;> rfl
  · cases q with
    | none => cases h
    | some q => rfl
theorem g_aconst_null {G : GE} {d k : Nat} {qr : QR} {qx : QX} {pc : Nat} {ls st : List AV} {M : Mem} {b : Nat}  (hd : decode (mB k) pc = .ok (.aconst_null, 1)) (g : Go G d k qr qx (pc + 1) ls (aR none :: st) M b) : Go G d k qr qx pc ls (st) M b :=
  Go_pure (fun p e R s m args below meth c U ad H locs lsr cells slots Q hC hR hS hl h => lv_null hC.1 hC.2.1 hd h) (fun n hw hn hol ho => okc (by exact trivial) ho) g
theorem g_iconst {G : GE} {d k : Nat} {qr : QR} {qx : QX} {pc : Nat} {ls st : List AV} {M : Mem} {b : Nat} {z : Int} (hd : decode (mB k) pc = .ok (.iconst z, 1)) (g : Go G d k qr qx (pc + 1) ls (aI (iZ z) :: st) M b) : Go G d k qr qx pc ls (st) M b :=
  Go_pure (fun p e R s m args below meth c U ad H locs lsr cells slots Q hC hR hS hl h => lv_iconst hC.1 hC.2.1 hd rfl h) (fun n hw hn hol ho => okc (by exact trivial) ho) g
theorem g_bipush {G : GE} {d k : Nat} {qr : QR} {qx : QX} {pc : Nat} {ls st : List AV} {M : Mem} {b : Nat} {z : Int} (hd : decode (mB k) pc = .ok (.bipush z, 2)) (hv : (Int8.ofInt z).toInt32 = Int32.ofInt z) (g : Go G d k qr qx (pc + 2) ls (aI (iZ z) :: st) M b) : Go G d k qr qx pc ls (st) M b :=
  Go_pure (fun p e R s m args below meth c U ad H locs lsr cells slots Q hC hR hS hl h => lv_bipush hC.1 hC.2.1 hd hv h) (fun n hw hn hol ho => okc (by exact trivial) ho) g
theorem g_sipush {G : GE} {d k : Nat} {qr : QR} {qx : QX} {pc : Nat} {ls st : List AV} {M : Mem} {b : Nat} {z : Int} (hd : decode (mB k) pc = .ok (.sipush z, 3)) (hv : (Int16.ofInt z).toInt32 = Int32.ofInt z) (g : Go G d k qr qx (pc + 3) ls (aI (iZ z) :: st) M b) : Go G d k qr qx pc ls (st) M b :=
  Go_pure (fun p e R s m args below meth c U ad H locs lsr cells slots Q hC hR hS hl h => lv_sipush hC.1 hC.2.1 hd hv h) (fun n hw hn hol ho => okc (by exact trivial) ho) g
theorem g_lconst {G : GE} {d k : Nat} {qr : QR} {qx : QX} {pc : Nat} {ls st : List AV} {M : Mem} {b : Nat} {z : Fin 2} (hd : decode (mB k) pc = .ok (.lconst z, 1)) (g : Go G d k qr qx (pc + 1) ls (aL (jZ (z.val : Int)) :: st) M b) : Go G d k qr qx pc ls (st) M b :=
  Go_pure (fun p e R s m args below meth c U ad H locs lsr cells slots Q hC hR hS hl h => lv_lconst hC.1 hC.2.1 hd (by match z with | 0 => rfl | 1 => rfl) h) (fun n hw hn hol ho => okc (by exact trivial) ho) g
theorem g_ldcI {G : GE} {d k : Nat} {qr : QR} {qx : QX} {pc : Nat} {ls st : List AV} {M : Mem} {b : Nat} {i : Nat} {z : Int} (hd : decode (mB k) pc = .ok (.ldc i, 2)) (hw9 : Jvm.Cond.constant (mC k) i (iZ z) ∈ gT) (g : Go G d k qr qx (pc + 2) ls (aI (iZ z) :: st) M b) : Go G d k qr qx pc ls (st) M b :=
  Go_pure (fun p e R s m args below meth c U ad H locs lsr cells slots Q hC hR hS hl h => lv_ldc hC.1 hC.2.1 hC.2.2.2.2.1 (hC.2.2.2.2.2.1 _ hw9) hd h) (fun n hw hn hol ho => okc (by exact trivial) ho) g
theorem g_ldcwI {G : GE} {d k : Nat} {qr : QR} {qx : QX} {pc : Nat} {ls st : List AV} {M : Mem} {b : Nat} {i : Nat} {z : Int} (hd : decode (mB k) pc = .ok (.ldc_w i, 3)) (hw9 : Jvm.Cond.constant (mC k) i (iZ z) ∈ gT) (g : Go G d k qr qx (pc + 3) ls (aI (iZ z) :: st) M b) : Go G d k qr qx pc ls (st) M b :=
  Go_pure (fun p e R s m args below meth c U ad H locs lsr cells slots Q hC hR hS hl h => lv_ldcw hC.1 hC.2.1 hC.2.2.2.2.1 (hC.2.2.2.2.2.1 _ hw9) hd h) (fun n hw hn hol ho => okc (by exact trivial) ho) g
theorem g_ldc2 {G : GE} {d k : Nat} {qr : QR} {qx : QX} {pc : Nat} {ls st : List AV} {M : Mem} {b : Nat} {i : Nat} {z : Int} (hd : decode (mB k) pc = .ok (.ldc2_w i, 3)) (hw9 : Jvm.Cond.constantLong (mC k) i (jZ z) ∈ gT) (g : Go G d k qr qx (pc + 3) ls (aL (jZ z) :: st) M b) : Go G d k qr qx pc ls (st) M b :=
  Go_pure (fun p e R s m args below meth c U ad H locs lsr cells slots Q hC hR hS hl h => lv_ldc2 hC.1 hC.2.1 hC.2.2.2.2.1 (hC.2.2.2.2.2.1 _ hw9) hd h) (fun n hw hn hol ho => okc (by exact trivial) ho) g
theorem g_iload {G : GE} {d k : Nat} {qr : QR} {qx : QX} {pc : Nat} {ls st : List AV} {M : Mem} {b : Nat} {i : Nat} {x : Int32} (hd : decode (mB k) pc = .ok (.iload i, 2)) (hx : lg ls i = aI x) (g : Go G d k qr qx (pc + 2) ls (aI x :: st) M b) : Go G d k qr qx pc ls (st) M b :=
  Go_pure (fun p e R s m args below meth c U ad H locs lsr cells slots Q hC hR hS hl h => lv_iload hC.1 hC.2.1 hd (lv_of hl (lg_some hx rfl) rfl) h) (fun n hw hn hol ho => okc (by exact trivial) ho) g
theorem g_iload_n {G : GE} {d k : Nat} {qr : QR} {qx : QX} {pc : Nat} {ls st : List AV} {M : Mem} {b : Nat} {f : Fin 4} {x : Int32} (hd : decode (mB k) pc = .ok (.iload_n f, 1)) (hx : lg ls f.val = aI x) (g : Go G d k qr qx (pc + 1) ls (aI x :: st) M b) : Go G d k qr qx pc ls (st) M b :=
  Go_pure (fun p e R s m args below meth c U ad H locs lsr cells slots Q hC hR hS hl h => lv_iload_n hC.1 hC.2.1 hd rfl (lv_of hl (lg_some hx rfl) rfl) h) (fun n hw hn hol ho => okc (by exact trivial) ho) g
theorem g_lload {G : GE} {d k : Nat} {qr : QR} {qx : QX} {pc : Nat} {ls st : List AV} {M : Mem} {b : Nat} {i : Nat} {x : Int64} (hd : decode (mB k) pc = .ok (.lload i, 2)) (hx : lg ls i = aL x) (g : Go G d k qr qx (pc + 2) ls (aL x :: st) M b) : Go G d k qr qx pc ls (st) M b :=
  Go_pure (fun p e R s m args below meth c U ad H locs lsr cells slots Q hC hR hS hl h => lv_lload hC.1 hC.2.1 hd (lv_of hl (lg_some hx rfl) rfl) h) (fun n hw hn hol ho => okc (by exact trivial) ho) g
theorem g_lload_n {G : GE} {d k : Nat} {qr : QR} {qx : QX} {pc : Nat} {ls st : List AV} {M : Mem} {b : Nat} {f : Fin 4} {x : Int64} (hd : decode (mB k) pc = .ok (.lload_n f, 1)) (hx : lg ls f.val = aL x) (g : Go G d k qr qx (pc + 1) ls (aL x :: st) M b) : Go G d k qr qx pc ls (st) M b :=
  Go_pure (fun p e R s m args below meth c U ad H locs lsr cells slots Q hC hR hS hl h => lv_lload_n hC.1 hC.2.1 hd rfl (lv_of hl (lg_some hx rfl) rfl) h) (fun n hw hn hol ho => okc (by exact trivial) ho) g
theorem g_aload0 {G : GE} {d k : Nat} {qr : QR} {qx : QX} {pc : Nat} {ls st : List AV} {M : Mem} {b : Nat} {i : Nat} (hd : decode (mB k) pc = .ok (.aload i, 2)) (hx : lg ls i = aR none) (g : Go G d k qr qx (pc + 2) ls (aR none :: st) M b) : Go G d k qr qx pc ls (st) M b :=
  Go_pure (fun p e R s m args below meth c U ad H locs lsr cells slots Q hC hR hS hl h => lv_aloadN hC.1 hC.2.1 hd (lv_of hl (lg_some hx rfl) rfl) h) (fun n hw hn hol ho => okc (by exact trivial) ho) g
theorem g_aload1 {G : GE} {d k : Nat} {qr : QR} {qx : QX} {pc : Nat} {ls st : List AV} {M : Mem} {b : Nat} {i : Nat} {a : Nat} (hd : decode (mB k) pc = .ok (.aload i, 2)) (hx : lg ls i = aR (some a)) (g : Go G d k qr qx (pc + 2) ls (aR (some a) :: st) M b) : Go G d k qr qx pc ls (st) M b :=
  Go_pure (fun p e R s m args below meth c U ad H locs lsr cells slots Q hC hR hS hl h => lv_aload hC.1 hC.2.1 hd (lv_of hl (lg_some hx rfl) rfl) h) (fun n hw hn hol ho => okc (hol _ (List.mem_of_getElem? (lg_some hx rfl))) ho) g
theorem g_aload2 {G : GE} {d k : Nat} {qr : QR} {qx : QX} {pc : Nat} {ls st : List AV} {M : Mem} {b : Nat} {i : Nat} {q : Nat} (hd : decode (mB k) pc = .ok (.aload i, 2)) (hx : lg ls i = aX q) (g : Go G d k qr qx (pc + 2) ls (aX q :: st) M b) : Go G d k qr qx pc ls (st) M b :=
  Go_pure (fun p e R s m args below meth c U ad H locs lsr cells slots Q hC hR hS hl h => lv_aload hC.1 hC.2.1 hd (lv_of hl (lg_some hx rfl) rfl) h) (fun n hw hn hol ho => okc (by exact trivial) ho) g
theorem g_aload_n0 {G : GE} {d k : Nat} {qr : QR} {qx : QX} {pc : Nat} {ls st : List AV} {M : Mem} {b : Nat} {f : Fin 4} (hd : decode (mB k) pc = .ok (.aload_n f, 1)) (hx : lg ls f.val = aR none) (g : Go G d k qr qx (pc + 1) ls (aR none :: st) M b) : Go G d k qr qx pc ls (st) M b :=
  Go_pure (fun p e R s m args below meth c U ad H locs lsr cells slots Q hC hR hS hl h => lv_aload_nN hC.1 hC.2.1 hd rfl (lv_of hl (lg_some hx rfl) rfl) h) (fun n hw hn hol ho => okc (by exact trivial) ho) g
theorem g_aload_n1 {G : GE} {d k : Nat} {qr : QR} {qx : QX} {pc : Nat} {ls st : List AV} {M : Mem} {b : Nat} {f : Fin 4} {a : Nat} (hd : decode (mB k) pc = .ok (.aload_n f, 1)) (hx : lg ls f.val = aR (some a)) (g : Go G d k qr qx (pc + 1) ls (aR (some a) :: st) M b) : Go G d k qr qx pc ls (st) M b :=
  Go_pure (fun p e R s m args below meth c U ad H locs lsr cells slots Q hC hR hS hl h => lv_aload_n hC.1 hC.2.1 hd rfl (lv_of hl (lg_some hx rfl) rfl) h) (fun n hw hn hol ho => okc (hol _ (List.mem_of_getElem? (lg_some hx rfl))) ho) g
theorem g_aload_n2 {G : GE} {d k : Nat} {qr : QR} {qx : QX} {pc : Nat} {ls st : List AV} {M : Mem} {b : Nat} {f : Fin 4} {q : Nat} (hd : decode (mB k) pc = .ok (.aload_n f, 1)) (hx : lg ls f.val = aX q) (g : Go G d k qr qx (pc + 1) ls (aX q :: st) M b) : Go G d k qr qx pc ls (st) M b :=
  Go_pure (fun p e R s m args below meth c U ad H locs lsr cells slots Q hC hR hS hl h => lv_aload_n hC.1 hC.2.1 hd rfl (lv_of hl (lg_some hx rfl) rfl) h) (fun n hw hn hol ho => okc (by exact trivial) ho) g
theorem g_pop {G : GE} {d k : Nat} {qr : QR} {qx : QX} {pc : Nat} {ls st : List AV} {M : Mem} {b : Nat} {v : AV} (hd : decode (mB k) pc = .ok (.pop, 1)) (hv : c1 v) (g : Go G d k qr qx (pc + 1) ls st M b) : Go G d k qr qx pc ls (v :: st) M b :=
  Go_pure (fun p e R s m args below meth c U ad H locs lsr cells slots Q hC hR hS hl h => lv_pop hC.1 hC.2.1 hd (catI ad hv) h) (fun n hw hn hol ho => okt ho) g
theorem g_dup {G : GE} {d k : Nat} {qr : QR} {qx : QX} {pc : Nat} {ls st : List AV} {M : Mem} {b : Nat} {v : AV} (hd : decode (mB k) pc = .ok (.dup, 1)) (hv : c1 v) (g : Go G d k qr qx (pc + 1) ls (v :: v :: st) M b) : Go G d k qr qx pc ls (v :: st) M b :=
  Go_pure (fun p e R s m args below meth c U ad H locs lsr cells slots Q hC hR hS hl h => lv_dup hC.1 hC.2.1 hd (catI ad hv) h) (fun n hw hn hol ho => okc (okh ho) ho) g
theorem g_dup_x1 {G : GE} {d k : Nat} {qr : QR} {qx : QX} {pc : Nat} {ls st : List AV} {M : Mem} {b : Nat} {v w : AV} (hd : decode (mB k) pc = .ok (.dup_x1, 1)) (hv : c1 v) (hw1 : c1 w) (g : Go G d k qr qx (pc + 1) ls (v :: w :: v :: st) M b) : Go G d k qr qx pc ls (v :: w :: st) M b :=
  Go_pure (fun p e R s m args below meth c U ad H locs lsr cells slots Q hC hR hS hl h => lv_dup_x1 hC.1 hC.2.1 hd (catI ad hv) (catI ad hw1) h) (fun n hw hn hol ho => okc (okh ho) (okc (okh (okt ho)) (okc (okh ho) (okt (okt ho))))) g
theorem g_dup2 {G : GE} {d k : Nat} {qr : QR} {qx : QX} {pc : Nat} {ls st : List AV} {M : Mem} {b : Nat} {v w : AV} (hd : decode (mB k) pc = .ok (.dup2, 1)) (hv : c1 v) (hw1 : c1 w) (g : Go G d k qr qx (pc + 1) ls (v :: w :: v :: w :: st) M b) : Go G d k qr qx pc ls (v :: w :: st) M b :=
  Go_pure (fun p e R s m args below meth c U ad H locs lsr cells slots Q hC hR hS hl h => lv_dup2_11 hC.1 hC.2.1 hd (catI ad hv) (catI ad hw1) h) (fun n hw hn hol ho => okc (okh ho) (okc (okh (okt ho)) ho)) g
theorem g_dup2L {G : GE} {d k : Nat} {qr : QR} {qx : QX} {pc : Nat} {ls st : List AV} {M : Mem} {b : Nat} {v : Int64} (hd : decode (mB k) pc = .ok (.dup2, 1)) (g : Go G d k qr qx (pc + 1) ls (aL v :: aL v :: st) M b) : Go G d k qr qx pc ls (aL v :: st) M b :=
  Go_pure (fun p e R s m args below meth c U ad H locs lsr cells slots Q hC hR hS hl h => lv_dup2_2 hC.1 hC.2.1 hd rfl h) (fun n hw hn hol ho => okc (by exact trivial) ho) g
theorem g_iadd {G : GE} {d k : Nat} {qr : QR} {qx : QX} {pc : Nat} {ls st : List AV} {M : Mem} {b : Nat} {x y : Int32} (hd : decode (mB k) pc = .ok (.iadd, 1)) (g : Go G d k qr qx (pc + 1) ls (aI (x + y) :: st) M b) : Go G d k qr qx pc ls (aI y :: aI x :: st) M b :=
  Go_pure (fun p e R s m args below meth c U ad H locs lsr cells slots Q hC hR hS hl h => lv_iadd hC.1 hC.2.1 hd h) (fun n hw hn hol ho => okc (by exact trivial) (okt (okt ho))) g
theorem g_isub {G : GE} {d k : Nat} {qr : QR} {qx : QX} {pc : Nat} {ls st : List AV} {M : Mem} {b : Nat} {x y : Int32} (hd : decode (mB k) pc = .ok (.isub, 1)) (g : Go G d k qr qx (pc + 1) ls (aI (x - y) :: st) M b) : Go G d k qr qx pc ls (aI y :: aI x :: st) M b :=
  Go_pure (fun p e R s m args below meth c U ad H locs lsr cells slots Q hC hR hS hl h => lv_isub hC.1 hC.2.1 hd h) (fun n hw hn hol ho => okc (by exact trivial) (okt (okt ho))) g
theorem g_imul {G : GE} {d k : Nat} {qr : QR} {qx : QX} {pc : Nat} {ls st : List AV} {M : Mem} {b : Nat} {x y : Int32} (hd : decode (mB k) pc = .ok (.imul, 1)) (g : Go G d k qr qx (pc + 1) ls (aI (x * y) :: st) M b) : Go G d k qr qx pc ls (aI y :: aI x :: st) M b :=
  Go_pure (fun p e R s m args below meth c U ad H locs lsr cells slots Q hC hR hS hl h => lv_imul hC.1 hC.2.1 hd h) (fun n hw hn hol ho => okc (by exact trivial) (okt (okt ho))) g
theorem g_ishl {G : GE} {d k : Nat} {qr : QR} {qx : QX} {pc : Nat} {ls st : List AV} {M : Mem} {b : Nat} {x y : Int32} (hd : decode (mB k) pc = .ok (.ishl, 1)) (g : Go G d k qr qx (pc + 1) ls (aI (x <<< (y &&& 31)) :: st) M b) : Go G d k qr qx pc ls (aI y :: aI x :: st) M b :=
  Go_pure (fun p e R s m args below meth c U ad H locs lsr cells slots Q hC hR hS hl h => lv_ishl hC.1 hC.2.1 hd h) (fun n hw hn hol ho => okc (by exact trivial) (okt (okt ho))) g
theorem g_ishr {G : GE} {d k : Nat} {qr : QR} {qx : QX} {pc : Nat} {ls st : List AV} {M : Mem} {b : Nat} {x y : Int32} (hd : decode (mB k) pc = .ok (.ishr, 1)) (g : Go G d k qr qx (pc + 1) ls (aI (x >>> (y &&& 31)) :: st) M b) : Go G d k qr qx pc ls (aI y :: aI x :: st) M b :=
  Go_pure (fun p e R s m args below meth c U ad H locs lsr cells slots Q hC hR hS hl h => lv_ishr hC.1 hC.2.1 hd h) (fun n hw hn hol ho => okc (by exact trivial) (okt (okt ho))) g
theorem g_iand {G : GE} {d k : Nat} {qr : QR} {qx : QX} {pc : Nat} {ls st : List AV} {M : Mem} {b : Nat} {x y : Int32} (hd : decode (mB k) pc = .ok (.iand, 1)) (g : Go G d k qr qx (pc + 1) ls (aI (x &&& y) :: st) M b) : Go G d k qr qx pc ls (aI y :: aI x :: st) M b :=
  Go_pure (fun p e R s m args below meth c U ad H locs lsr cells slots Q hC hR hS hl h => lv_iand hC.1 hC.2.1 hd h) (fun n hw hn hol ho => okc (by exact trivial) (okt (okt ho))) g
theorem g_ior {G : GE} {d k : Nat} {qr : QR} {qx : QX} {pc : Nat} {ls st : List AV} {M : Mem} {b : Nat} {x y : Int32} (hd : decode (mB k) pc = .ok (.ior, 1)) (g : Go G d k qr qx (pc + 1) ls (aI (x ||| y) :: st) M b) : Go G d k qr qx pc ls (aI y :: aI x :: st) M b :=
  Go_pure (fun p e R s m args below meth c U ad H locs lsr cells slots Q hC hR hS hl h => lv_ior hC.1 hC.2.1 hd h) (fun n hw hn hol ho => okc (by exact trivial) (okt (okt ho))) g
theorem g_ixor {G : GE} {d k : Nat} {qr : QR} {qx : QX} {pc : Nat} {ls st : List AV} {M : Mem} {b : Nat} {x y : Int32} (hd : decode (mB k) pc = .ok (.ixor, 1)) (g : Go G d k qr qx (pc + 1) ls (aI (x ^^^ y) :: st) M b) : Go G d k qr qx pc ls (aI y :: aI x :: st) M b :=
  Go_pure (fun p e R s m args below meth c U ad H locs lsr cells slots Q hC hR hS hl h => lv_ixor hC.1 hC.2.1 hd h) (fun n hw hn hol ho => okc (by exact trivial) (okt (okt ho))) g
theorem g_iushr {G : GE} {d k : Nat} {qr : QR} {qx : QX} {pc : Nat} {ls st : List AV} {M : Mem} {b : Nat} {x y : Int32} (hd : decode (mB k) pc = .ok (.iushr, 1)) (g : Go G d k qr qx (pc + 1) ls (aI (x.toUInt32 >>> (y.toUInt32 &&& Int32.toUInt32 31)).toInt32 :: st) M b) : Go G d k qr qx pc ls (aI y :: aI x :: st) M b :=
  Go_pure (fun p e R s m args below meth c U ad H locs lsr cells slots Q hC hR hS hl h => lv_iushr hC.1 hC.2.1 hd rfl h) (fun n hw hn hol ho => okc (by exact trivial) (okt (okt ho))) g
theorem g_idiv {G : GE} {d k : Nat} {qr : QR} {qx : QX} {pc : Nat} {ls st : List AV} {M : Mem} {b : Nat} {x y : Int32} (hd : decode (mB k) pc = .ok (.idiv, 1)) (hne : ¬ y = 0) (g : Go G d k qr qx (pc + 1) ls (aI (x / y) :: st) M b) : Go G d k qr qx pc ls (aI y :: aI x :: st) M b :=
  Go_pure (fun p e R s m args below meth c U ad H locs lsr cells slots Q hC hR hS hl h => lv_idiv hC.1 hC.2.1 hd hne h) (fun n hw hn hol ho => okc (by exact trivial) (okt (okt ho))) g
theorem g_irem {G : GE} {d k : Nat} {qr : QR} {qx : QX} {pc : Nat} {ls st : List AV} {M : Mem} {b : Nat} {x y : Int32} (hd : decode (mB k) pc = .ok (.irem, 1)) (hne : ¬ y = 0) (g : Go G d k qr qx (pc + 1) ls (aI (x - x / y * y) :: st) M b) : Go G d k qr qx pc ls (aI y :: aI x :: st) M b :=
  Go_pure (fun p e R s m args below meth c U ad H locs lsr cells slots Q hC hR hS hl h => lv_irem hC.1 hC.2.1 hd hne h) (fun n hw hn hol ho => okc (by exact trivial) (okt (okt ho))) g
theorem g_ineg {G : GE} {d k : Nat} {qr : QR} {qx : QX} {pc : Nat} {ls st : List AV} {M : Mem} {b : Nat} {x : Int32} (hd : decode (mB k) pc = .ok (.ineg, 1)) (g : Go G d k qr qx (pc + 1) ls (aI (-x) :: st) M b) : Go G d k qr qx pc ls (aI x :: st) M b :=
  Go_pure (fun p e R s m args below meth c U ad H locs lsr cells slots Q hC hR hS hl h => lv_ineg hC.1 hC.2.1 hd h) (fun n hw hn hol ho => okc (by exact trivial) (okt ho)) g
theorem g_ladd {G : GE} {d k : Nat} {qr : QR} {qx : QX} {pc : Nat} {ls st : List AV} {M : Mem} {b : Nat} {x y : Int64} (hd : decode (mB k) pc = .ok (.ladd, 1)) (g : Go G d k qr qx (pc + 1) ls (aL (x + y) :: st) M b) : Go G d k qr qx pc ls (aL y :: aL x :: st) M b :=
  Go_pure (fun p e R s m args below meth c U ad H locs lsr cells slots Q hC hR hS hl h => lv_ladd hC.1 hC.2.1 hd h) (fun n hw hn hol ho => okc (by exact trivial) (okt (okt ho))) g
theorem g_lsub {G : GE} {d k : Nat} {qr : QR} {qx : QX} {pc : Nat} {ls st : List AV} {M : Mem} {b : Nat} {x y : Int64} (hd : decode (mB k) pc = .ok (.lsub, 1)) (g : Go G d k qr qx (pc + 1) ls (aL (x - y) :: st) M b) : Go G d k qr qx pc ls (aL y :: aL x :: st) M b :=
  Go_pure (fun p e R s m args below meth c U ad H locs lsr cells slots Q hC hR hS hl h => lv_lsub hC.1 hC.2.1 hd h) (fun n hw hn hol ho => okc (by exact trivial) (okt (okt ho))) g
theorem g_lmul {G : GE} {d k : Nat} {qr : QR} {qx : QX} {pc : Nat} {ls st : List AV} {M : Mem} {b : Nat} {x y : Int64} (hd : decode (mB k) pc = .ok (.lmul, 1)) (g : Go G d k qr qx (pc + 1) ls (aL (x * y) :: st) M b) : Go G d k qr qx pc ls (aL y :: aL x :: st) M b :=
  Go_pure (fun p e R s m args below meth c U ad H locs lsr cells slots Q hC hR hS hl h => lv_lmul hC.1 hC.2.1 hd h) (fun n hw hn hol ho => okc (by exact trivial) (okt (okt ho))) g
theorem g_land {G : GE} {d k : Nat} {qr : QR} {qx : QX} {pc : Nat} {ls st : List AV} {M : Mem} {b : Nat} {x y : Int64} (hd : decode (mB k) pc = .ok (.land, 1)) (g : Go G d k qr qx (pc + 1) ls (aL (x &&& y) :: st) M b) : Go G d k qr qx pc ls (aL y :: aL x :: st) M b :=
  Go_pure (fun p e R s m args below meth c U ad H locs lsr cells slots Q hC hR hS hl h => lv_land hC.1 hC.2.1 hd h) (fun n hw hn hol ho => okc (by exact trivial) (okt (okt ho))) g
theorem g_lor {G : GE} {d k : Nat} {qr : QR} {qx : QX} {pc : Nat} {ls st : List AV} {M : Mem} {b : Nat} {x y : Int64} (hd : decode (mB k) pc = .ok (.lor, 1)) (g : Go G d k qr qx (pc + 1) ls (aL (x ||| y) :: st) M b) : Go G d k qr qx pc ls (aL y :: aL x :: st) M b :=
  Go_pure (fun p e R s m args below meth c U ad H locs lsr cells slots Q hC hR hS hl h => lv_lor hC.1 hC.2.1 hd h) (fun n hw hn hol ho => okc (by exact trivial) (okt (okt ho))) g
theorem g_lxor {G : GE} {d k : Nat} {qr : QR} {qx : QX} {pc : Nat} {ls st : List AV} {M : Mem} {b : Nat} {x y : Int64} (hd : decode (mB k) pc = .ok (.lxor, 1)) (g : Go G d k qr qx (pc + 1) ls (aL (x ^^^ y) :: st) M b) : Go G d k qr qx pc ls (aL y :: aL x :: st) M b :=
  Go_pure (fun p e R s m args below meth c U ad H locs lsr cells slots Q hC hR hS hl h => lv_lxor hC.1 hC.2.1 hd h) (fun n hw hn hol ho => okc (by exact trivial) (okt (okt ho))) g
theorem g_ldiv {G : GE} {d k : Nat} {qr : QR} {qx : QX} {pc : Nat} {ls st : List AV} {M : Mem} {b : Nat} {x y : Int64} (hd : decode (mB k) pc = .ok (.ldiv, 1)) (hne : ¬ y = 0) (g : Go G d k qr qx (pc + 1) ls (aL (x / y) :: st) M b) : Go G d k qr qx pc ls (aL y :: aL x :: st) M b :=
  Go_pure (fun p e R s m args below meth c U ad H locs lsr cells slots Q hC hR hS hl h => lv_ldiv hC.1 hC.2.1 hd hne h) (fun n hw hn hol ho => okc (by exact trivial) (okt (okt ho))) g
theorem g_lrem {G : GE} {d k : Nat} {qr : QR} {qx : QX} {pc : Nat} {ls st : List AV} {M : Mem} {b : Nat} {x y : Int64} (hd : decode (mB k) pc = .ok (.lrem, 1)) (hne : ¬ y = 0) (g : Go G d k qr qx (pc + 1) ls (aL (x - x / y * y) :: st) M b) : Go G d k qr qx pc ls (aL y :: aL x :: st) M b :=
  Go_pure (fun p e R s m args below meth c U ad H locs lsr cells slots Q hC hR hS hl h => lv_lrem hC.1 hC.2.1 hd hne h) (fun n hw hn hol ho => okc (by exact trivial) (okt (okt ho))) g
theorem g_lneg {G : GE} {d k : Nat} {qr : QR} {qx : QX} {pc : Nat} {ls st : List AV} {M : Mem} {b : Nat} {x : Int64} (hd : decode (mB k) pc = .ok (.lneg, 1)) (g : Go G d k qr qx (pc + 1) ls (aL (-x) :: st) M b) : Go G d k qr qx pc ls (aL x :: st) M b :=
  Go_pure (fun p e R s m args below meth c U ad H locs lsr cells slots Q hC hR hS hl h => lv_lneg hC.1 hC.2.1 hd h) (fun n hw hn hol ho => okc (by exact trivial) (okt ho)) g
theorem g_lshl {G : GE} {d k : Nat} {qr : QR} {qx : QX} {pc : Nat} {ls st : List AV} {M : Mem} {b : Nat} {x : Int64} {y : Int32} (hd : decode (mB k) pc = .ok (.lshl, 1)) (g : Go G d k qr qx (pc + 1) ls (aL (x <<< (y.toInt64 &&& 63)) :: st) M b) : Go G d k qr qx pc ls (aI y :: aL x :: st) M b :=
  Go_pure (fun p e R s m args below meth c U ad H locs lsr cells slots Q hC hR hS hl h => lv_lshl hC.1 hC.2.1 hd rfl h) (fun n hw hn hol ho => okc (by exact trivial) (okt (okt ho))) g
theorem g_lshr {G : GE} {d k : Nat} {qr : QR} {qx : QX} {pc : Nat} {ls st : List AV} {M : Mem} {b : Nat} {x : Int64} {y : Int32} (hd : decode (mB k) pc = .ok (.lshr, 1)) (g : Go G d k qr qx (pc + 1) ls (aL (x >>> (y.toInt64 &&& 63)) :: st) M b) : Go G d k qr qx pc ls (aI y :: aL x :: st) M b :=
  Go_pure (fun p e R s m args below meth c U ad H locs lsr cells slots Q hC hR hS hl h => lv_lshr hC.1 hC.2.1 hd rfl h) (fun n hw hn hol ho => okc (by exact trivial) (okt (okt ho))) g
theorem g_lushr {G : GE} {d k : Nat} {qr : QR} {qx : QX} {pc : Nat} {ls st : List AV} {M : Mem} {b : Nat} {x : Int64} {y : Int32} (hd : decode (mB k) pc = .ok (.lushr, 1)) (g : Go G d k qr qx (pc + 1) ls (aL ((x.toUInt64 >>> (y.toInt64.toUInt64 &&& Int64.toUInt64 63)).toInt64) :: st) M b) : Go G d k qr qx pc ls (aI y :: aL x :: st) M b :=
  Go_pure (fun p e R s m args below meth c U ad H locs lsr cells slots Q hC hR hS hl h => lv_lushr hC.1 hC.2.1 hd rfl h) (fun n hw hn hol ho => okc (by exact trivial) (okt (okt ho))) g
theorem g_i2l {G : GE} {d k : Nat} {qr : QR} {qx : QX} {pc : Nat} {ls st : List AV} {M : Mem} {b : Nat} {x : Int32} (hd : decode (mB k) pc = .ok (.i2l, 1)) (g : Go G d k qr qx (pc + 1) ls (aL x.toInt64 :: st) M b) : Go G d k qr qx pc ls (aI x :: st) M b :=
  Go_pure (fun p e R s m args below meth c U ad H locs lsr cells slots Q hC hR hS hl h => lv_i2l hC.1 hC.2.1 hd rfl h) (fun n hw hn hol ho => okc (by exact trivial) (okt ho)) g
theorem g_l2i {G : GE} {d k : Nat} {qr : QR} {qx : QX} {pc : Nat} {ls st : List AV} {M : Mem} {b : Nat} {x : Int64} (hd : decode (mB k) pc = .ok (.l2i, 1)) (g : Go G d k qr qx (pc + 1) ls (aI x.toInt32 :: st) M b) : Go G d k qr qx pc ls (aL x :: st) M b :=
  Go_pure (fun p e R s m args below meth c U ad H locs lsr cells slots Q hC hR hS hl h => lv_l2i hC.1 hC.2.1 hd rfl h) (fun n hw hn hol ho => okc (by exact trivial) (okt ho)) g
theorem g_i2c {G : GE} {d k : Nat} {qr : QR} {qx : QX} {pc : Nat} {ls st : List AV} {M : Mem} {b : Nat} {x : Int32} (hd : decode (mB k) pc = .ok (.i2c, 1)) (g : Go G d k qr qx (pc + 1) ls (aI (x.toUInt32 % 65536).toInt32 :: st) M b) : Go G d k qr qx pc ls (aI x :: st) M b :=
  Go_pure (fun p e R s m args below meth c U ad H locs lsr cells slots Q hC hR hS hl h => lv_i2c hC.1 hC.2.1 hd rfl h) (fun n hw hn hol ho => okc (by exact trivial) (okt ho)) g
theorem g_i2b {G : GE} {d k : Nat} {qr : QR} {qx : QX} {pc : Nat} {ls st : List AV} {M : Mem} {b : Nat} {x : Int32} (hd : decode (mB k) pc = .ok (.i2b, 1)) (g : Go G d k qr qx (pc + 1) ls (aI x.toInt8.toInt32 :: st) M b) : Go G d k qr qx pc ls (aI x :: st) M b :=
  Go_pure (fun p e R s m args below meth c U ad H locs lsr cells slots Q hC hR hS hl h => lv_i2b hC.1 hC.2.1 hd rfl h) (fun n hw hn hol ho => okc (by exact trivial) (okt ho)) g
theorem g_lcmp {G : GE} {d k : Nat} {qr : QR} {qx : QX} {pc : Nat} {ls st : List AV} {M : Mem} {b : Nat} {x y : Int64} (hd : decode (mB k) pc = .ok (.lcmp, 1)) (g : Go G d k qr qx (pc + 1) ls (aI (lg_cmp x y) :: st) M b) : Go G d k qr qx pc ls (aL y :: aL x :: st) M b :=
  Go_pure (fun p e R s m args below meth c U ad H locs lsr cells slots Q hC hR hS hl h => W.lcmp hC.1 hC.2.1 hd h) (fun n hw hn hol ho => okc (by exact trivial) (okt (okt ho))) g
theorem g_goto {G : GE} {d k : Nat} {qr : QR} {qx : QX} {pc : Nat} {ls st : List AV} {M : Mem} {b : Nat} {off : Int} {tgt : Nat} (hd : decode (mB k) pc = .ok (.goto off, 3)) (ht : (pc : Int) + off = (tgt : Int)) (g : Go G d k qr qx tgt ls st M b) : Go G d k qr qx pc ls st M b :=
  Go_pure (fun p e R s m args below meth c U ad H locs lsr cells slots Q hC hR hS hl h => lv_goto hC.1 hC.2.1 hd ht h) (fun n hw hn hol ho => ho) g
theorem g_ifCond {G : GE} {d k : Nat} {qr : QR} {qx : QX} {pc : Nat} {ls st : List AV} {M : Mem} {b : Nat} {cc : ClassFile.Cond} {off : Int} {tgt : Nat} {x : Int32} (hd : decode (mB k) pc = .ok (.ifCond cc off, 3)) (ht : (pc : Int) + off = (tgt : Int)) (g1 : icond cc x 0 → Go G d k qr qx tgt ls st M b) (g2 : ¬ icond cc x 0 → Go G d k qr qx (pc + 3) ls st M b) : Go G d k qr qx pc ls (aI x :: st) M b := by
  intro U p e R s m args below meth c ad0 n0 hC ad H locs lsr hR hS ha hn hl hol hos hb
  cases cc
  · exact lv_if_eq hC.1 hC.2.1 hd ht (fun h => g1 h U p e R s m args below meth c ad0 n0 hC ad H locs lsr hR hS ha hn hl hol (okt hos) hb) (fun h => (g2 h) U p e R s m args below meth c ad0 n0 hC ad H locs lsr hR hS ha hn hl hol (okt hos) hb)
  · exact lv_if_ne hC.1 hC.2.1 hd ht (fun h => g1 h U p e R s m args below meth c ad0 n0 hC ad H locs lsr hR hS ha hn hl hol (okt hos) hb) (fun h => (g2 (fun q => q h)) U p e R s m args below meth c ad0 n0 hC ad H locs lsr hR hS ha hn hl hol (okt hos) hb)
  · exact lv_if_lt hC.1 hC.2.1 hd ht (fun h => g1 h U p e R s m args below meth c ad0 n0 hC ad H locs lsr hR hS ha hn hl hol (okt hos) hb) (fun h => (g2 h) U p e R s m args below meth c ad0 n0 hC ad H locs lsr hR hS ha hn hl hol (okt hos) hb)
  · exact lv_if_ge hC.1 hC.2.1 hd ht (fun h => g1 h U p e R s m args below meth c ad0 n0 hC ad H locs lsr hR hS ha hn hl hol (okt hos) hb) (fun h => (g2 h) U p e R s m args below meth c ad0 n0 hC ad H locs lsr hR hS ha hn hl hol (okt hos) hb)
  · exact lv_if_gt hC.1 hC.2.1 hd ht (fun h => g1 h U p e R s m args below meth c ad0 n0 hC ad H locs lsr hR hS ha hn hl hol (okt hos) hb) (fun h => (g2 h) U p e R s m args below meth c ad0 n0 hC ad H locs lsr hR hS ha hn hl hol (okt hos) hb)
  · exact lv_if_le hC.1 hC.2.1 hd ht (fun h => g1 h U p e R s m args below meth c ad0 n0 hC ad H locs lsr hR hS ha hn hl hol (okt hos) hb) (fun h => (g2 h) U p e R s m args below meth c ad0 n0 hC ad H locs lsr hR hS ha hn hl hol (okt hos) hb)
theorem g_icmp {G : GE} {d k : Nat} {qr : QR} {qx : QX} {pc : Nat} {ls st : List AV} {M : Mem} {b : Nat} {cc : ClassFile.Cond} {off : Int} {tgt : Nat} {x y : Int32} (hd : decode (mB k) pc = .ok (.if_icmp cc off, 3)) (ht : (pc : Int) + off = (tgt : Int)) (g1 : icond cc x y → Go G d k qr qx tgt ls st M b) (g2 : ¬ icond cc x y → Go G d k qr qx (pc + 3) ls st M b) : Go G d k qr qx pc ls (aI y :: aI x :: st) M b := by
  intro U p e R s m args below meth c ad0 n0 hC ad H locs lsr hR hS ha hn hl hol hos hb
  cases cc
  · exact lv_icmp_eq hC.1 hC.2.1 hd ht (fun h => g1 h U p e R s m args below meth c ad0 n0 hC ad H locs lsr hR hS ha hn hl hol (okt (okt hos)) hb) (fun h => (g2 h) U p e R s m args below meth c ad0 n0 hC ad H locs lsr hR hS ha hn hl hol (okt (okt hos)) hb)
  · exact lv_icmp_ne hC.1 hC.2.1 hd ht (fun h => g1 h U p e R s m args below meth c ad0 n0 hC ad H locs lsr hR hS ha hn hl hol (okt (okt hos)) hb) (fun h => (g2 (fun q => q h)) U p e R s m args below meth c ad0 n0 hC ad H locs lsr hR hS ha hn hl hol (okt (okt hos)) hb)
  · exact lv_icmp_lt hC.1 hC.2.1 hd ht (fun h => g1 h U p e R s m args below meth c ad0 n0 hC ad H locs lsr hR hS ha hn hl hol (okt (okt hos)) hb) (fun h => (g2 h) U p e R s m args below meth c ad0 n0 hC ad H locs lsr hR hS ha hn hl hol (okt (okt hos)) hb)
  · exact lv_icmp_ge hC.1 hC.2.1 hd ht (fun h => g1 h U p e R s m args below meth c ad0 n0 hC ad H locs lsr hR hS ha hn hl hol (okt (okt hos)) hb) (fun h => (g2 h) U p e R s m args below meth c ad0 n0 hC ad H locs lsr hR hS ha hn hl hol (okt (okt hos)) hb)
  · exact lv_icmp_gt hC.1 hC.2.1 hd ht (fun h => g1 h U p e R s m args below meth c ad0 n0 hC ad H locs lsr hR hS ha hn hl hol (okt (okt hos)) hb) (fun h => (g2 h) U p e R s m args below meth c ad0 n0 hC ad H locs lsr hR hS ha hn hl hol (okt (okt hos)) hb)
  · exact lv_icmp_le hC.1 hC.2.1 hd ht (fun h => g1 h U p e R s m args below meth c ad0 n0 hC ad H locs lsr hR hS ha hn hl hol (okt (okt hos)) hb) (fun h => (g2 h) U p e R s m args below meth c ad0 n0 hC ad H locs lsr hR hS ha hn hl hol (okt (okt hos)) hb)
theorem g_ifnull {G : GE} {d k : Nat} {qr : QR} {qx : QX} {pc : Nat} {ls st : List AV} {M : Mem} {b : Nat} {off : Int} {tgt : Nat} {r : Option Nat} (hd : decode (mB k) pc = .ok (.ifnull off, 3)) (ht : (pc : Int) + off = (tgt : Int)) (g1 : r = none → Go G d k qr qx tgt ls st M b) (g2 : ∀ a, r = some a → Go G d k qr qx (pc + 3) ls st M b) : Go G d k qr qx pc ls (aR r :: st) M b := by
  intro U p e R s m args below meth c ad0 n0 hC ad H locs lsr hR hS ha hn hl hol hos hb
  cases r with
  | none => exact lv_ifnullN hC.1 hC.2.1 hd ht (g1 rfl U p e R s m args below meth c ad0 n0 hC ad H locs lsr hR hS ha hn hl hol (okt hos) hb)
  | some a => exact lv_ifnull hC.1 hC.2.1 hd (g2 a rfl U p e R s m args below meth c ad0 n0 hC ad H locs lsr hR hS ha hn hl hol (okt hos) hb)
theorem g_ifnonnull {G : GE} {d k : Nat} {qr : QR} {qx : QX} {pc : Nat} {ls st : List AV} {M : Mem} {b : Nat} {off : Int} {tgt : Nat} {r : Option Nat} (hd : decode (mB k) pc = .ok (.ifnonnull off, 3)) (ht : (pc : Int) + off = (tgt : Int)) (g1 : ∀ a, r = some a → Go G d k qr qx tgt ls st M b) (g2 : r = none → Go G d k qr qx (pc + 3) ls st M b) : Go G d k qr qx pc ls (aR r :: st) M b := by
  intro U p e R s m args below meth c ad0 n0 hC ad H locs lsr hR hS ha hn hl hol hos hb
  cases r with
  | none => exact lv_ifnonnullN hC.1 hC.2.1 hd (g2 rfl U p e R s m args below meth c ad0 n0 hC ad H locs lsr hR hS ha hn hl hol (okt hos) hb)
  | some a => exact lv_ifnonnull hC.1 hC.2.1 hd ht (g1 a rfl U p e R s m args below meth c ad0 n0 hC ad H locs lsr hR hS ha hn hl hol (okt hos) hb)
theorem swt_go {x : Int32} {nx : Nat → Prop} {pc : Nat} : ∀ {lo : Int} {l : List Int} {i : Nat} {o : Int}, swt x nx pc lo l → l[i]? = some o → x.toInt = lo + i → nx ((pc : Int) + o).toNat
  | lo, [], i, o, _, h, _ => by simp at h
  | lo, w :: t, 0, o, hs, h, e => by cases h; exact hs.1 (by omega)
  | lo, w :: t, i + 1, o, hs, h, e => swt_go (lo := lo + 1) (l := t) (i := i) hs.2 h (by omega)
theorem g_tsw {G : GE} {d k : Nat} {qr : QR} {qx : QX} {pc : Nat} {ls st : List AV} {M : Mem} {b : Nat} {df lo hi : Int} {offs : Array Int} {len : Nat} {x : Int32} (hd : decode (mB k) pc = .ok (.tableswitch df lo hi offs, len)) (hp : ∀ o, o = df ∨ o ∈ offs.toList → 0 ≤ (pc : Int) + o) (g1 : x.toInt < lo ∨ hi < x.toInt → Go G d k qr qx (gt pc df) ls st M b) (hs : hi - lo + 1 = offs.size) (g2 : swt x (fun p => Go G d k qr qx p ls st M b) pc lo offs.toList) : Go G d k qr qx pc ls (aI x :: st) M b := by
  intro U p e R s m args below meth c ad0 n0 hC ad H locs lsr hR hS ha hn hl hol hos hb
  by_cases h : x.toInt < lo ∨ hi < x.toInt
  · exact lv_tableOut (tgt := gt pc df) hC.1 hC.2.1 hd h (by have := hp df (Or.inl rfl); unfold gt; omega) (g1 h U p e R s m args below meth c ad0 n0 hC ad H locs lsr hR hS ha hn hl hol (okt hos) hb)
  · have h1 : ¬ x.toInt < lo := fun q => h (Or.inl q)
    have h2 : ¬ hi < x.toInt := fun q => h (Or.inr q)
    have hlt : (x.toInt - lo).toNat < offs.size := by omega
    have ho : offs[(x.toInt - lo).toNat]? = some offs[(x.toInt - lo).toNat] := Array.getElem?_eq_getElem hlt
    have hm := hp _ (Or.inr (Array.mem_toList_iff.mpr (Array.getElem_mem hlt)))
    have g := swt_go (i := (x.toInt - lo).toNat) g2 (by rw [Array.getElem?_toList]; exact ho) (by omega)
    exact lv_tableIn (tgt := ((pc : Int) + offs[(x.toInt - lo).toNat]).toNat) hC.1 hC.2.1 hd h1 h2 ho (by omega) (g U p e R s m args below meth c ad0 n0 hC ad H locs lsr hR hS ha hn hl hol (okt hos) hb)
theorem g_istore {G : GE} {d k : Nat} {qr : QR} {qx : QX} {pc : Nat} {ls st : List AV} {M : Mem} {b : Nat} {i : Nat} {x : Int32} (hd : decode (mB k) pc = .ok (.istore i, 2)) (hi : i < mL k) (g : Go G d k qr qx (pc + 2) (ls1 ls i (aI x)) st M b) : Go G d k qr qx pc ls (aI x :: st) M b := by
  intro U p e R s m args below meth c ad0 n0 hC ad H locs lsr hR hS ha hn hl hol hos hb
  refine lv_istore hC.1 hC.2.1 hd hl hi rfl (fun ls9 hl9 => ?_)
  exact g U p e R s m args below meth c ad0 n0 hC ad H locs ls9 hR hS ha hn (lv_less hl9 lpr_ls1) (ok_ls1 hol (okh hos)) (okt hos) hb
theorem g_istore_n {G : GE} {d k : Nat} {qr : QR} {qx : QX} {pc : Nat} {ls st : List AV} {M : Mem} {b : Nat} {f : Fin 4} {x : Int32} (hd : decode (mB k) pc = .ok (.istore_n f, 1)) (hi : f.val < mL k) (g : Go G d k qr qx (pc + 1) (ls1 ls f.val (aI x)) st M b) : Go G d k qr qx pc ls (aI x :: st) M b := by
  intro U p e R s m args below meth c ad0 n0 hC ad H locs lsr hR hS ha hn hl hol hos hb
  refine lv_istore_n hC.1 hC.2.1 hd rfl hl hi rfl (fun ls9 hl9 => ?_)
  exact g U p e R s m args below meth c ad0 n0 hC ad H locs ls9 hR hS ha hn (lv_less hl9 lpr_ls1) (ok_ls1 hol (okh hos)) (okt hos) hb
theorem g_lstore {G : GE} {d k : Nat} {qr : QR} {qx : QX} {pc : Nat} {ls st : List AV} {M : Mem} {b : Nat} {i : Nat} {x : Int64} (hd : decode (mB k) pc = .ok (.lstore i, 2)) (hi : i + 1 < mL k) (g : Go G d k qr qx (pc + 2) (ls2 ls i (aL x)) st M b) : Go G d k qr qx pc ls (aL x :: st) M b := by
  intro U p e R s m args below meth c ad0 n0 hC ad H locs lsr hR hS ha hn hl hol hos hb
  refine lv_lstore hC.1 hC.2.1 hd hl hi rfl (fun ls9 hl9 => ?_)
  exact g U p e R s m args below meth c ad0 n0 hC ad H locs ls9 hR hS ha hn (lv_less hl9 lpr_ls2) (ok_ls2 hol (okh hos)) (okt hos) hb
theorem g_lstore_n {G : GE} {d k : Nat} {qr : QR} {qx : QX} {pc : Nat} {ls st : List AV} {M : Mem} {b : Nat} {f : Fin 4} {x : Int64} (hd : decode (mB k) pc = .ok (.lstore_n f, 1)) (hi : f.val + 1 < mL k) (g : Go G d k qr qx (pc + 1) (ls2 ls f.val (aL x)) st M b) : Go G d k qr qx pc ls (aL x :: st) M b := by
  intro U p e R s m args below meth c ad0 n0 hC ad H locs lsr hR hS ha hn hl hol hos hb
  refine lv_lstore_n hC.1 hC.2.1 hd rfl hl hi rfl (fun ls9 hl9 => ?_)
  exact g U p e R s m args below meth c ad0 n0 hC ad H locs ls9 hR hS ha hn (lv_less hl9 lpr_ls2) (ok_ls2 hol (okh hos)) (okt hos) hb
theorem g_astore0 {G : GE} {d k : Nat} {qr : QR} {qx : QX} {pc : Nat} {ls st : List AV} {M : Mem} {b : Nat} {i : Nat}  (hd : decode (mB k) pc = .ok (.astore i, 2)) (hi : i < mL k) (g : Go G d k qr qx (pc + 2) (ls1 ls i (aR none)) st M b) : Go G d k qr qx pc ls (aR none :: st) M b := by
  intro U p e R s m args below meth c ad0 n0 hC ad H locs lsr hR hS ha hn hl hol hos hb
  refine lv_astoreN hC.1 hC.2.1 hd hl hi rfl (fun ls9 hl9 => ?_)
  exact g U p e R s m args below meth c ad0 n0 hC ad H locs ls9 hR hS ha hn (lv_less hl9 lpr_ls1) (ok_ls1 hol (okh hos)) (okt hos) hb
theorem g_astore_n0 {G : GE} {d k : Nat} {qr : QR} {qx : QX} {pc : Nat} {ls st : List AV} {M : Mem} {b : Nat} {f : Fin 4}  (hd : decode (mB k) pc = .ok (.astore_n f, 1)) (hi : f.val < mL k) (g : Go G d k qr qx (pc + 1) (ls1 ls f.val (aR none)) st M b) : Go G d k qr qx pc ls (aR none :: st) M b := by
  intro U p e R s m args below meth c ad0 n0 hC ad H locs lsr hR hS ha hn hl hol hos hb
  refine lv_astore_nN hC.1 hC.2.1 hd rfl hl hi rfl (fun ls9 hl9 => ?_)
  exact g U p e R s m args below meth c ad0 n0 hC ad H locs ls9 hR hS ha hn (lv_less hl9 lpr_ls1) (ok_ls1 hol (okh hos)) (okt hos) hb
theorem g_astore1 {G : GE} {d k : Nat} {qr : QR} {qx : QX} {pc : Nat} {ls st : List AV} {M : Mem} {b : Nat} {i : Nat} {a : Nat} (hd : decode (mB k) pc = .ok (.astore i, 2)) (hi : i < mL k) (g : Go G d k qr qx (pc + 2) (ls1 ls i (aR (some a))) st M b) : Go G d k qr qx pc ls (aR (some a) :: st) M b := by
  intro U p e R s m args below meth c ad0 n0 hC ad H locs lsr hR hS ha hn hl hol hos hb
  refine lv_astore hC.1 hC.2.1 hd hl hi rfl (fun ls9 hl9 => ?_)
  exact g U p e R s m args below meth c ad0 n0 hC ad H locs ls9 hR hS ha hn (lv_less hl9 lpr_ls1) (ok_ls1 hol (okh hos)) (okt hos) hb
theorem g_astore_n1 {G : GE} {d k : Nat} {qr : QR} {qx : QX} {pc : Nat} {ls st : List AV} {M : Mem} {b : Nat} {f : Fin 4} {a : Nat} (hd : decode (mB k) pc = .ok (.astore_n f, 1)) (hi : f.val < mL k) (g : Go G d k qr qx (pc + 1) (ls1 ls f.val (aR (some a))) st M b) : Go G d k qr qx pc ls (aR (some a) :: st) M b := by
  intro U p e R s m args below meth c ad0 n0 hC ad H locs lsr hR hS ha hn hl hol hos hb
  refine lv_astore_n hC.1 hC.2.1 hd rfl hl hi rfl (fun ls9 hl9 => ?_)
  exact g U p e R s m args below meth c ad0 n0 hC ad H locs ls9 hR hS ha hn (lv_less hl9 lpr_ls1) (ok_ls1 hol (okh hos)) (okt hos) hb
theorem g_astore2 {G : GE} {d k : Nat} {qr : QR} {qx : QX} {pc : Nat} {ls st : List AV} {M : Mem} {b : Nat} {i : Nat} {a : Nat} (hd : decode (mB k) pc = .ok (.astore i, 2)) (hi : i < mL k) (g : Go G d k qr qx (pc + 2) (ls1 ls i (aX a)) st M b) : Go G d k qr qx pc ls (aX a :: st) M b := by
  intro U p e R s m args below meth c ad0 n0 hC ad H locs lsr hR hS ha hn hl hol hos hb
  refine lv_astore hC.1 hC.2.1 hd hl hi rfl (fun ls9 hl9 => ?_)
  exact g U p e R s m args below meth c ad0 n0 hC ad H locs ls9 hR hS ha hn (lv_less hl9 lpr_ls1) (ok_ls1 hol (okh hos)) (okt hos) hb
theorem g_astore_n2 {G : GE} {d k : Nat} {qr : QR} {qx : QX} {pc : Nat} {ls st : List AV} {M : Mem} {b : Nat} {f : Fin 4} {a : Nat} (hd : decode (mB k) pc = .ok (.astore_n f, 1)) (hi : f.val < mL k) (g : Go G d k qr qx (pc + 1) (ls1 ls f.val (aX a)) st M b) : Go G d k qr qx pc ls (aX a :: st) M b := by
  intro U p e R s m args below meth c ad0 n0 hC ad H locs lsr hR hS ha hn hl hol hos hb
  refine lv_astore_n hC.1 hC.2.1 hd rfl hl hi rfl (fun ls9 hl9 => ?_)
  exact g U p e R s m args below meth c ad0 n0 hC ad H locs ls9 hR hS ha hn (lv_less hl9 lpr_ls1) (ok_ls1 hol (okh hos)) (okt hos) hb
theorem g_iinc {G : GE} {d k : Nat} {qr : QR} {qx : QX} {pc : Nat} {ls st : List AV} {M : Mem} {b : Nat} {i : Nat} {z : Int} {x : Int32} (hd : decode (mB k) pc = .ok (.iinc i z, 3)) (hi : i < mL k) (hx : lg ls i = aI x) (g : Go G d k qr qx (pc + 3) (ls1 ls i (aI (x + iZ z))) st M b) : Go G d k qr qx pc ls st M b := by
  intro U p e R s m args below meth c ad0 n0 hC ad H locs lsr hR hS ha hn hl hol hos hb
  obtain ⟨j, hj⟩ := List.mem_iff_getElem?.mp (lpr_mem.mpr ⟨i, aI x, lg_some hx rfl, rfl, rfl⟩ : (0 + i, rv ad (aI x)) ∈ lpr ad 0 ls)
  rw [Nat.zero_add] at hj
  refine lv_iinc (v := x + iZ z) (k := j) hC.1 hC.2.1 hd hl hj rfl hi rfl (fun ls9 hl9 => ?_)
  exact g U p e R s m args below meth c ad0 n0 hC ad H locs ls9 hR hS ha hn (lv_less hl9 lpr_ls1) (ok_ls1 hol trivial) hos hb

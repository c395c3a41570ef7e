/-! The tables hold: decided by the kernel (printed by wip/whole/gen/checks.py). -/
def mi (k : Nat) : MI := (mTs[k]?).getD (⟨"", "", ""⟩, ⟨#[]⟩, 0, none, [], 0)
def mY (k : Nat) : MethodName := (mi k).1
def mB (k : Nat) : ByteArray := (mi k).2.1
def mL (k : Nat) : Nat := (mi k).2.2.1
def mR (k : Nat) : Option FieldType := (mi k).2.2.2.1
def mH (k : Nat) : List (Nat × Nat × Nat × Nat) := (mi k).2.2.2.2.1
def mO (k : Nat) : Nat := (mi k).2.2.2.2.2
def cN (i : Nat) : String := (cNs[i]?).getD ""
def mC (k : Nat) : String := cN (mO k)
def vC (i : Nat) : vw_C := (vwCl[i]?).getD ("", TX0, 0)
def isHd (k pc : Nat) : Bool := ((hTs[k]?).getD []).any (fun h => h == pc)
def xc (k pc : Nat) : Option XI := (((xTs[k]?).getD []).find? (fun q => q.1 == pc)).map (fun q => q.2)
def xo (x : XI) : Instr := x.1
def xl (x : XI) : Nat := x.2.1
def x1 (x : XI) : Nat := x.2.2.1
def x2 (x : XI) : Int := x.2.2.2
def akT (t : ArrayType) : Nat := match t with | .int => 20 | .long => 21 | .boolean => 22 | _ => 9999
/-- the resolved numbers say what the instruction says -/
def okX (k pc : Nat) (x : XI) : Bool := match x.1 with
  | .iconst n => x2 x == n && xl x == 1
  | .bipush n => x2 x == n && decide ((Int8.ofInt n).toInt32 = Int32.ofInt n) && xl x == 2
  | .sipush n => x2 x == n && decide ((Int16.ofInt n).toInt32 = Int32.ofInt n) && xl x == 3
  | .lconst n => x2 x == (n.val : Int) && xl x == 1
  | .ldc i => xl x == 2 && (if x1 x = 0 then kL_.any (fun q => q.1 == mO k && q.2.1 == i && q.2.2.1 == x2 x) else (match sTx[x1 x - 1]? with | some q => q.1 == mO k && q.2.1 == i | none => false))
  | .ldc_w i => xl x == 3 && x1 x == 0 && kL_.any (fun q => q.1 == mO k && q.2.1 == i && q.2.2.1 == x2 x)
  | .ldc2_w i => xl x == 3 && jL_.any (fun q => q.1 == mO k && q.2.1 == i && q.2.2.1 == x2 x)
  | .iload i | .lload i | .aload i | .istore i | .astore i => x1 x == i && decide (i < mL k) && xl x == 2
  | .lstore i => x1 x == i && decide (i + 1 < mL k) && xl x == 2
  | .iload_n i | .lload_n i | .aload_n i | .istore_n i | .astore_n i => x1 x == i.val && decide (i.val < mL k) && xl x == 1
  | .lstore_n i => x1 x == i.val && decide (i.val + 1 < mL k) && xl x == 1
  | .iinc i n => x1 x == i && x2 x == n && decide (i < mL k) && xl x == 3
  | .ifCond _ off | .if_icmp _ off | .goto off | .ifnull off | .ifnonnull off => decide ((pc : Int) + off = (x1 x : Int)) && xl x == 3
  | .tableswitch _ _ _ _ => true
  | .getfield i => xl x == 3 && (x1 x == 30 || x1 x == 999 || fL.any (fun q => q.1 == mO k && q.2.1 == i && q.2.2.1 == x1 x && (q.2.2.2.1 : Int) == x2 x))
  | .putfield i => xl x == 3 && (x1 x == 999 || fL.any (fun q => q.1 == mO k && q.2.1 == i && q.2.2.1 == x1 x && (q.2.2.2.1 : Int) == x2 x && ((vC (x1 x)).2.1 q.2.2.2.1).2.2.2 == false || q.1 == mO k && q.2.1 == i && q.2.2.1 == x1 x && (q.2.2.2.1 : Int) == x2 x && (mY k).name == "<init>" && q.2.2.1 == mO k))
  | .getstatic _ => xl x == 3
  | .invokestatic i => xl x == 3 && (x1 x == 9999 || x1 x == 1001 || mL_.any (fun q => q.1 == mO k && q.2.1 == i && q.2.2.1 == x1 x && q.2.2.2.1 == 0))
  | .invokevirtual i => xl x == 3 && (x1 x == 9999 || mL_.any (fun q => q.1 == mO k && q.2.1 == i && q.2.2.1 == x1 x && q.2.2.2.1 == 2))
  | .invokespecial i => xl x == 3 && (x1 x == 9999 || x1 x == 1000 || mL_.any (fun q => q.1 == mO k && q.2.1 == i && q.2.2.1 == x1 x && q.2.2.2.1 == 1) || nL_.any (fun q => q.1 == mO k && q.2.1 == i && q.2.2.1 == x1 x))
  | .new i => xl x == 3 && (x1 x == 9999 || oL_.any (fun q => q.1 == mO k && q.2.1 == i && q.2.2.1 == x1 x && decide (x1 x < 13)) || eL_.any (fun q => q.1 == mO k && q.2.1 == i && q.2.2.1 + 100 == x1 x))
  | .newarray t => xl x == 2 && x1 x == akT t
  | .anewarray i => xl x == 3 && (x1 x == 9999 || aL_.any (fun q => q.1 == mO k && q.2.1 == i && q.2.2.1 == x1 x && (x1 x == 23 || x1 x == 24 || x1 x == 27)))
  | .multianewarray i d => xl x == 4 && d == 2 && aL_.any (fun q => q.1 == mO k && q.2.1 == i && q.2.2.1 == x1 x && (x1 x == 25 || x1 x == 26))
  | _ => xl x == 1
def okq (k : Nat) (q : Nat × XI) : Bool := decide (decode (mB k) q.1 = .ok (q.2.1, q.2.2.1)) && okX k q.1 q.2
def okm (k : Nat) : Bool := ((xTs[k]?).getD []).all (okq k)
theorem okM0 : okm 0 = true := by decide +kernel
theorem okM1 : okm 1 = true := by decide +kernel
theorem okM2 : okm 2 = true := by decide +kernel
theorem okM3 : okm 3 = true := by decide +kernel
theorem okM4 : okm 4 = true := by decide +kernel
theorem okM5 : okm 5 = true := by decide +kernel
theorem okM6 : okm 6 = true := by decide +kernel
theorem okM7 : okm 7 = true := by decide +kernel
theorem okM8 : okm 8 = true := by decide +kernel
theorem okM9 : okm 9 = true := by decide +kernel
theorem okM10 : okm 10 = true := by decide +kernel
theorem okM11 : okm 11 = true := by decide +kernel
theorem okM12 : okm 12 = true := by decide +kernel
theorem okM13 : okm 13 = true := by decide +kernel
theorem okM14 : okm 14 = true := by decide +kernel
theorem okM15 : okm 15 = true := by decide +kernel
theorem okM16_0 : (((xT16).drop 0).take 60).all (okq 16) = true := by decide +kernel
theorem okM16_60 : (((xT16).drop 60).take 60).all (okq 16) = true := by decide +kernel
theorem okM16_120 : (((xT16).drop 120).take 60).all (okq 16) = true := by decide +kernel
theorem okM16_180 : (((xT16).drop 180).take 60).all (okq 16) = true := by decide +kernel
theorem okM16_240 : (((xT16).drop 240).take 60).all (okq 16) = true := by decide +kernel
theorem okM16_300 : (((xT16).drop 300).take 60).all (okq 16) = true := by decide +kernel
theorem okM16_360 : (((xT16).drop 360).take 60).all (okq 16) = true := by decide +kernel
theorem okM16 : okm 16 = true := by
  show (xT16).all (okq 16) = true
  have e : xT16 = ((xT16).drop 0).take 60 ++ ((xT16).drop 60).take 60 ++ ((xT16).drop 120).take 60 ++ ((xT16).drop 180).take 60 ++ ((xT16).drop 240).take 60 ++ ((xT16).drop 300).take 60 ++ ((xT16).drop 360).take 60 := by decide +kernel
  rw [e]; simp only [List.all_append, Bool.and_eq_true]
  exact ⟨⟨⟨⟨⟨⟨okM16_0, okM16_60⟩, okM16_120⟩, okM16_180⟩, okM16_240⟩, okM16_300⟩, okM16_360⟩
theorem okM17 : okm 17 = true := by decide +kernel
theorem okM18 : okm 18 = true := by decide +kernel
theorem okM19 : okm 19 = true := by decide +kernel
theorem okM20 : okm 20 = true := by decide +kernel
theorem okM21 : okm 21 = true := by decide +kernel
theorem okM22_0 : (((xT22).drop 0).take 60).all (okq 22) = true := by decide +kernel
theorem okM22_60 : (((xT22).drop 60).take 60).all (okq 22) = true := by decide +kernel
theorem okM22_120 : (((xT22).drop 120).take 60).all (okq 22) = true := by decide +kernel
theorem okM22 : okm 22 = true := by
  show (xT22).all (okq 22) = true
  have e : xT22 = ((xT22).drop 0).take 60 ++ ((xT22).drop 60).take 60 ++ ((xT22).drop 120).take 60 := by decide +kernel
  rw [e]; simp only [List.all_append, Bool.and_eq_true]
  exact ⟨⟨okM22_0, okM22_60⟩, okM22_120⟩
theorem okM23 : okm 23 = true := by decide +kernel
theorem okM24 : okm 24 = true := by decide +kernel
theorem okM25 : okm 25 = true := by decide +kernel
theorem okM26 : okm 26 = true := by decide +kernel
theorem okM27 : okm 27 = true := by decide +kernel
theorem okM28 : okm 28 = true := by decide +kernel
theorem okM29_0 : (((xT29).drop 0).take 60).all (okq 29) = true := by decide +kernel
theorem okM29_60 : (((xT29).drop 60).take 60).all (okq 29) = true := by decide +kernel
theorem okM29_120 : (((xT29).drop 120).take 60).all (okq 29) = true := by decide +kernel
theorem okM29 : okm 29 = true := by
  show (xT29).all (okq 29) = true
  have e : xT29 = ((xT29).drop 0).take 60 ++ ((xT29).drop 60).take 60 ++ ((xT29).drop 120).take 60 := by decide +kernel
  rw [e]; simp only [List.all_append, Bool.and_eq_true]
  exact ⟨⟨okM29_0, okM29_60⟩, okM29_120⟩
theorem okM30 : okm 30 = true := by decide +kernel
theorem okM31 : okm 31 = true := by decide +kernel
theorem okM32 : okm 32 = true := by decide +kernel
theorem okM33 : okm 33 = true := by decide +kernel
theorem okM34 : okm 34 = true := by decide +kernel
theorem okM35 : okm 35 = true := by decide +kernel
theorem okM36 : okm 36 = true := by decide +kernel
theorem okM37 : okm 37 = true := by decide +kernel
theorem okM38 : okm 38 = true := by decide +kernel
theorem okM39 : okm 39 = true := by decide +kernel
theorem okM40 : okm 40 = true := by decide +kernel
theorem okM41 : okm 41 = true := by decide +kernel
theorem okM42 : okm 42 = true := by decide +kernel
theorem okM43 : okm 43 = true := by decide +kernel
theorem okM44 : okm 44 = true := by decide +kernel
theorem okM45 : okm 45 = true := by decide +kernel
theorem okM46 : okm 46 = true := by decide +kernel
theorem okM47 : okm 47 = true := by decide +kernel
theorem okM48 : okm 48 = true := by decide +kernel
theorem okM49 : okm 49 = true := by decide +kernel
theorem okM50 : okm 50 = true := by decide +kernel
theorem okM51 : okm 51 = true := by decide +kernel
theorem okM52 : okm 52 = true := by decide +kernel
theorem okM53_0 : (((xT53).drop 0).take 60).all (okq 53) = true := by decide +kernel
theorem okM53_60 : (((xT53).drop 60).take 60).all (okq 53) = true := by decide +kernel
theorem okM53_120 : (((xT53).drop 120).take 60).all (okq 53) = true := by decide +kernel
theorem okM53 : okm 53 = true := by
  show (xT53).all (okq 53) = true
  have e : xT53 = ((xT53).drop 0).take 60 ++ ((xT53).drop 60).take 60 ++ ((xT53).drop 120).take 60 := by decide +kernel
  rw [e]; simp only [List.all_append, Bool.and_eq_true]
  exact ⟨⟨okM53_0, okM53_60⟩, okM53_120⟩
theorem okM54 : okm 54 = true := by decide +kernel
theorem okM55_0 : (((xT55).drop 0).take 60).all (okq 55) = true := by decide +kernel
theorem okM55_60 : (((xT55).drop 60).take 60).all (okq 55) = true := by decide +kernel
theorem okM55_120 : (((xT55).drop 120).take 60).all (okq 55) = true := by decide +kernel
theorem okM55 : okm 55 = true := by
  show (xT55).all (okq 55) = true
  have e : xT55 = ((xT55).drop 0).take 60 ++ ((xT55).drop 60).take 60 ++ ((xT55).drop 120).take 60 := by decide +kernel
  rw [e]; simp only [List.all_append, Bool.and_eq_true]
  exact ⟨⟨okM55_0, okM55_60⟩, okM55_120⟩
theorem okM56 : okm 56 = true := by decide +kernel
theorem okM57 : okm 57 = true := by decide +kernel
theorem okM58 : okm 58 = true := by decide +kernel
theorem okM59 : okm 59 = true := by decide +kernel
theorem okM60 : okm 60 = true := by decide +kernel
theorem okM61 : okm 61 = true := by decide +kernel
theorem okM62 : okm 62 = true := by decide +kernel
theorem okM63_0 : (((xT63).drop 0).take 60).all (okq 63) = true := by decide +kernel
theorem okM63_60 : (((xT63).drop 60).take 60).all (okq 63) = true := by decide +kernel
theorem okM63_120 : (((xT63).drop 120).take 60).all (okq 63) = true := by decide +kernel
theorem okM63 : okm 63 = true := by
  show (xT63).all (okq 63) = true
  have e : xT63 = ((xT63).drop 0).take 60 ++ ((xT63).drop 60).take 60 ++ ((xT63).drop 120).take 60 := by decide +kernel
  rw [e]; simp only [List.all_append, Bool.and_eq_true]
  exact ⟨⟨okM63_0, okM63_60⟩, okM63_120⟩
theorem okM64 : okm 64 = true := by decide +kernel
theorem okM65 : okm 65 = true := by decide +kernel
theorem okM66 : okm 66 = true := by decide +kernel
theorem okM67 : okm 67 = true := by decide +kernel
theorem okM68 : okm 68 = true := by decide +kernel
theorem okM69_0 : (((xT69).drop 0).take 60).all (okq 69) = true := by decide +kernel
theorem okM69_60 : (((xT69).drop 60).take 60).all (okq 69) = true := by decide +kernel
theorem okM69_120 : (((xT69).drop 120).take 60).all (okq 69) = true := by decide +kernel
theorem okM69 : okm 69 = true := by
  show (xT69).all (okq 69) = true
  have e : xT69 = ((xT69).drop 0).take 60 ++ ((xT69).drop 60).take 60 ++ ((xT69).drop 120).take 60 := by decide +kernel
  rw [e]; simp only [List.all_append, Bool.and_eq_true]
  exact ⟨⟨okM69_0, okM69_60⟩, okM69_120⟩
theorem okM70 : okm 70 = true := by decide +kernel
theorem okM71 : okm 71 = true := by decide +kernel
theorem okM72 : okm 72 = true := by decide +kernel
theorem okM73 : okm 73 = true := by decide +kernel
theorem okM74 : okm 74 = true := by decide +kernel
theorem okM75 : okm 75 = true := by decide +kernel
theorem okM76 : okm 76 = true := by decide +kernel
theorem okM77 : okm 77 = true := by decide +kernel
theorem okM78 : okm 78 = true := by decide +kernel
theorem okM79_0 : (((xT79).drop 0).take 60).all (okq 79) = true := by decide +kernel
theorem okM79_60 : (((xT79).drop 60).take 60).all (okq 79) = true := by decide +kernel
theorem okM79_120 : (((xT79).drop 120).take 60).all (okq 79) = true := by decide +kernel
theorem okM79 : okm 79 = true := by
  show (xT79).all (okq 79) = true
  have e : xT79 = ((xT79).drop 0).take 60 ++ ((xT79).drop 60).take 60 ++ ((xT79).drop 120).take 60 := by decide +kernel
  rw [e]; simp only [List.all_append, Bool.and_eq_true]
  exact ⟨⟨okM79_0, okM79_60⟩, okM79_120⟩
theorem okM80 : okm 80 = true := by decide +kernel
theorem okM81 : okm 81 = true := by decide +kernel
theorem okM82 : okm 82 = true := by decide +kernel
theorem okM83 : okm 83 = true := by decide +kernel
theorem okM84 : okm 84 = true := by decide +kernel
theorem okM85 : okm 85 = true := by decide +kernel
theorem okM86 : okm 86 = true := by decide +kernel
theorem okM87 : okm 87 = true := by decide +kernel
theorem okM88 : okm 88 = true := by decide +kernel
theorem okM89_0 : (((xT89).drop 0).take 60).all (okq 89) = true := by decide +kernel
theorem okM89_60 : (((xT89).drop 60).take 60).all (okq 89) = true := by decide +kernel
theorem okM89_120 : (((xT89).drop 120).take 60).all (okq 89) = true := by decide +kernel
theorem okM89 : okm 89 = true := by
  show (xT89).all (okq 89) = true
  have e : xT89 = ((xT89).drop 0).take 60 ++ ((xT89).drop 60).take 60 ++ ((xT89).drop 120).take 60 := by decide +kernel
  rw [e]; simp only [List.all_append, Bool.and_eq_true]
  exact ⟨⟨okM89_0, okM89_60⟩, okM89_120⟩
theorem okM90 : okm 90 = true := by decide +kernel
theorem okM91 : okm 91 = true := by decide +kernel
theorem okM92 : okm 92 = true := by decide +kernel
theorem okM93 : okm 93 = true := by decide +kernel
theorem okM94 : okm 94 = true := by decide +kernel
theorem okM95_0 : (((xT95).drop 0).take 60).all (okq 95) = true := by decide +kernel
theorem okM95_60 : (((xT95).drop 60).take 60).all (okq 95) = true := by decide +kernel
theorem okM95_120 : (((xT95).drop 120).take 60).all (okq 95) = true := by decide +kernel
theorem okM95 : okm 95 = true := by
  show (xT95).all (okq 95) = true
  have e : xT95 = ((xT95).drop 0).take 60 ++ ((xT95).drop 60).take 60 ++ ((xT95).drop 120).take 60 := by decide +kernel
  rw [e]; simp only [List.all_append, Bool.and_eq_true]
  exact ⟨⟨okM95_0, okM95_60⟩, okM95_120⟩
theorem okM96 : okm 96 = true := by decide +kernel
theorem okM97 : okm 97 = true := by decide +kernel
theorem okM98 : okm 98 = true := by decide +kernel
theorem okM99 : okm 99 = true := by decide +kernel
theorem okM100 : okm 100 = true := by decide +kernel
theorem okM101 : okm 101 = true := by decide +kernel
theorem okM102 : okm 102 = true := by decide +kernel
theorem okM103 : okm 103 = true := by decide +kernel
theorem okM104 : okm 104 = true := by decide +kernel
theorem okM105 : okm 105 = true := by decide +kernel
theorem okM106 : okm 106 = true := by decide +kernel
theorem okM107 : okm 107 = true := by decide +kernel
theorem okM108 : okm 108 = true := by decide +kernel
theorem okM109 : okm 109 = true := by decide +kernel
theorem okM110 : okm 110 = true := by decide +kernel
theorem okM111 : okm 111 = true := by decide +kernel
theorem okM112 : okm 112 = true := by decide +kernel
theorem okM113 : okm 113 = true := by decide +kernel
theorem okM114 : okm 114 = true := by decide +kernel
theorem okM115 : okm 115 = true := by decide +kernel
theorem okM116 : okm 116 = true := by decide +kernel
theorem okM117 : okm 117 = true := by decide +kernel
theorem okM118 : okm 118 = true := by decide +kernel
theorem okM119 : okm 119 = true := by decide +kernel
theorem okM120 : okm 120 = true := by decide +kernel
theorem okM121 : okm 121 = true := by decide +kernel
theorem okM122 : okm 122 = true := by decide +kernel
theorem okM123 : okm 123 = true := by decide +kernel
theorem okM124 : okm 124 = true := by decide +kernel
theorem okM125 : okm 125 = true := by decide +kernel
theorem okM126 : okm 126 = true := by decide +kernel
theorem okM127 : okm 127 = true := by decide +kernel
theorem okM128 : okm 128 = true := by decide +kernel
theorem okM129 : okm 129 = true := by decide +kernel
theorem okM130 : okm 130 = true := by decide +kernel
theorem okM131 : okm 131 = true := by decide +kernel
theorem okM132 : okm 132 = true := by decide +kernel
theorem okM133 : okm 133 = true := by decide +kernel
theorem okM134 : okm 134 = true := by decide +kernel
theorem okM135 : okm 135 = true := by decide +kernel
theorem okM136 : okm 136 = true := by decide +kernel
theorem okM137 : okm 137 = true := by decide +kernel
theorem okM138 : okm 138 = true := by decide +kernel
theorem okM139 : okm 139 = true := by decide +kernel
theorem okM140 : okm 140 = true := by decide +kernel
theorem okM141 : okm 141 = true := by decide +kernel
theorem okM142 : okm 142 = true := by decide +kernel
theorem okM143 : okm 143 = true := by decide +kernel
theorem okM144 : okm 144 = true := by decide +kernel
theorem okM145 : okm 145 = true := by decide +kernel
theorem okM146 : okm 146 = true := by decide +kernel
theorem okM147 : okm 147 = true := by decide +kernel
theorem okM148 : okm 148 = true := by decide +kernel
theorem okM149 : okm 149 = true := by decide +kernel
theorem okM150 : okm 150 = true := by decide +kernel
theorem okM151 : okm 151 = true := by decide +kernel
theorem okM152 : okm 152 = true := by decide +kernel
theorem okM153 : okm 153 = true := by decide +kernel
theorem okM154 : okm 154 = true := by decide +kernel
theorem okM155 : okm 155 = true := by decide +kernel
theorem okM156 : okm 156 = true := by decide +kernel
theorem okM157 : okm 157 = true := by decide +kernel
theorem okM158 : okm 158 = true := by decide +kernel
theorem okM159 : okm 159 = true := by decide +kernel
theorem okM160 : okm 160 = true := by decide +kernel
theorem okM161 : okm 161 = true := by decide +kernel
theorem okM162 : okm 162 = true := by decide +kernel
theorem okM163 : okm 163 = true := by decide +kernel
theorem okM164 : okm 164 = true := by decide +kernel
theorem okM165 : okm 165 = true := by decide +kernel
theorem okM166 : okm 166 = true := by decide +kernel
theorem okM167 : okm 167 = true := by decide +kernel
theorem okM168 : okm 168 = true := by decide +kernel
theorem okM169 : okm 169 = true := by decide +kernel
theorem okM170 : okm 170 = true := by decide +kernel
theorem okM171 : okm 171 = true := by decide +kernel
theorem okM172 : okm 172 = true := by decide +kernel
theorem okM173 : okm 173 = true := by decide +kernel
theorem okM174 : okm 174 = true := by decide +kernel
theorem okM175 : okm 175 = true := by decide +kernel
theorem okM176 : okm 176 = true := by decide +kernel
theorem okM177 : okm 177 = true := by decide +kernel
theorem okM178 : okm 178 = true := by decide +kernel
theorem okM179 : okm 179 = true := by decide +kernel
theorem okM180 : okm 180 = true := by decide +kernel
theorem okM181 : okm 181 = true := by decide +kernel
theorem okM182 : okm 182 = true := by decide +kernel
theorem okM183 : okm 183 = true := by decide +kernel
theorem okM184 : okm 184 = true := by decide +kernel
theorem okM185 : okm 185 = true := by decide +kernel
theorem okM186 : okm 186 = true := by decide +kernel
theorem okM187 : okm 187 = true := by decide +kernel
theorem okM188 : okm 188 = true := by decide +kernel
theorem okM189 : okm 189 = true := by decide +kernel
theorem okM190 : okm 190 = true := by decide +kernel
theorem okM191 : okm 191 = true := by decide +kernel
theorem okM192 : okm 192 = true := by decide +kernel
theorem okM193 : okm 193 = true := by decide +kernel
theorem okM194 : okm 194 = true := by decide +kernel
theorem okM195 : okm 195 = true := by decide +kernel
theorem okM196 : okm 196 = true := by decide +kernel
theorem okM197 : okm 197 = true := by decide +kernel
theorem okM198 : okm 198 = true := by decide +kernel
theorem okM199 : okm 199 = true := by decide +kernel
theorem okM200 : okm 200 = true := by decide +kernel
theorem okM201 : okm 201 = true := by decide +kernel
theorem okM202 : okm 202 = true := by decide +kernel
theorem okM203 : okm 203 = true := by decide +kernel
theorem okM204 : okm 204 = true := by decide +kernel
theorem okM205 : okm 205 = true := by decide +kernel
theorem okM206 : okm 206 = true := by decide +kernel
theorem okM207 : okm 207 = true := by decide +kernel
theorem okM208 : okm 208 = true := by decide +kernel
theorem okM209 : okm 209 = true := by decide +kernel
theorem okM210 : okm 210 = true := by decide +kernel
theorem okM211 : okm 211 = true := by decide +kernel
theorem okM212 : okm 212 = true := by decide +kernel
theorem okM213 : okm 213 = true := by decide +kernel
theorem okM214 : okm 214 = true := by decide +kernel
theorem okM215 : okm 215 = true := by decide +kernel
theorem okM216 : okm 216 = true := by decide +kernel
theorem okM217 : okm 217 = true := by decide +kernel
theorem okM218 : okm 218 = true := by decide +kernel
theorem okM219 : okm 219 = true := by decide +kernel
theorem okM220 : okm 220 = true := by decide +kernel
theorem okM221 : okm 221 = true := by decide +kernel
theorem okM222 : okm 222 = true := by decide +kernel
theorem okM223 : okm 223 = true := by decide +kernel
theorem okM224 : okm 224 = true := by decide +kernel
theorem okM225 : okm 225 = true := by decide +kernel
theorem okM226 : okm 226 = true := by decide +kernel
theorem okM227 : okm 227 = true := by decide +kernel
theorem okM228 : okm 228 = true := by decide +kernel
theorem okM229 : okm 229 = true := by decide +kernel
theorem okM230 : okm 230 = true := by decide +kernel
theorem okM231 : okm 231 = true := by decide +kernel
theorem okM232 : okm 232 = true := by decide +kernel
theorem okM233 : okm 233 = true := by decide +kernel
theorem okM234 : okm 234 = true := by decide +kernel
theorem okM235 : okm 235 = true := by decide +kernel
theorem okM236 : okm 236 = true := by decide +kernel
theorem okM237 : okm 237 = true := by decide +kernel
theorem okM238 : okm 238 = true := by decide +kernel
theorem okM239 : okm 239 = true := by decide +kernel
theorem okM240 : okm 240 = true := by decide +kernel
theorem okM241 : okm 241 = true := by decide +kernel
theorem okM242 : okm 242 = true := by decide +kernel
theorem okM243 : okm 243 = true := by decide +kernel
theorem okM244 : okm 244 = true := by decide +kernel
theorem okM245 : okm 245 = true := by decide +kernel
theorem okM246 : okm 246 = true := by decide +kernel
theorem okM247 : okm 247 = true := by decide +kernel
theorem okM248 : okm 248 = true := by decide +kernel
theorem okM249 : okm 249 = true := by decide +kernel
theorem okM250 : okm 250 = true := by decide +kernel
theorem okM251 : okm 251 = true := by decide +kernel
theorem okM252 : okm 252 = true := by decide +kernel
theorem okM253 : okm 253 = true := by decide +kernel
theorem okM254_0 : (((xT254).drop 0).take 60).all (okq 254) = true := by decide +kernel
theorem okM254_60 : (((xT254).drop 60).take 60).all (okq 254) = true := by decide +kernel
theorem okM254_120 : (((xT254).drop 120).take 60).all (okq 254) = true := by decide +kernel
theorem okM254_180 : (((xT254).drop 180).take 60).all (okq 254) = true := by decide +kernel
theorem okM254_240 : (((xT254).drop 240).take 60).all (okq 254) = true := by decide +kernel
theorem okM254_300 : (((xT254).drop 300).take 60).all (okq 254) = true := by decide +kernel
theorem okM254_360 : (((xT254).drop 360).take 60).all (okq 254) = true := by decide +kernel
theorem okM254_420 : (((xT254).drop 420).take 60).all (okq 254) = true := by decide +kernel
theorem okM254_480 : (((xT254).drop 480).take 60).all (okq 254) = true := by decide +kernel
theorem okM254_540 : (((xT254).drop 540).take 60).all (okq 254) = true := by decide +kernel
theorem okM254_600 : (((xT254).drop 600).take 60).all (okq 254) = true := by decide +kernel
theorem okM254_660 : (((xT254).drop 660).take 60).all (okq 254) = true := by decide +kernel
theorem okM254_720 : (((xT254).drop 720).take 60).all (okq 254) = true := by decide +kernel
theorem okM254_780 : (((xT254).drop 780).take 60).all (okq 254) = true := by decide +kernel
theorem okM254_840 : (((xT254).drop 840).take 60).all (okq 254) = true := by decide +kernel
theorem okM254_900 : (((xT254).drop 900).take 60).all (okq 254) = true := by decide +kernel
theorem okM254_960 : (((xT254).drop 960).take 60).all (okq 254) = true := by decide +kernel
theorem okM254_1020 : (((xT254).drop 1020).take 60).all (okq 254) = true := by decide +kernel
theorem okM254_1080 : (((xT254).drop 1080).take 60).all (okq 254) = true := by decide +kernel
theorem okM254_1140 : (((xT254).drop 1140).take 60).all (okq 254) = true := by decide +kernel
theorem okM254 : okm 254 = true := by
  show (xT254).all (okq 254) = true
  have e : xT254 = ((xT254).drop 0).take 60 ++ ((xT254).drop 60).take 60 ++ ((xT254).drop 120).take 60 ++ ((xT254).drop 180).take 60 ++ ((xT254).drop 240).take 60 ++ ((xT254).drop 300).take 60 ++ ((xT254).drop 360).take 60 ++ ((xT254).drop 420).take 60 ++ ((xT254).drop 480).take 60 ++ ((xT254).drop 540).take 60 ++ ((xT254).drop 600).take 60 ++ ((xT254).drop 660).take 60 ++ ((xT254).drop 720).take 60 ++ ((xT254).drop 780).take 60 ++ ((xT254).drop 840).take 60 ++ ((xT254).drop 900).take 60 ++ ((xT254).drop 960).take 60 ++ ((xT254).drop 1020).take 60 ++ ((xT254).drop 1080).take 60 ++ ((xT254).drop 1140).take 60 := by decide +kernel
  rw [e]; simp only [List.all_append, Bool.and_eq_true]
  exact ⟨⟨⟨⟨⟨⟨⟨⟨⟨⟨⟨⟨⟨⟨⟨⟨⟨⟨⟨okM254_0, okM254_60⟩, okM254_120⟩, okM254_180⟩, okM254_240⟩, okM254_300⟩, okM254_360⟩, okM254_420⟩, okM254_480⟩, okM254_540⟩, okM254_600⟩, okM254_660⟩, okM254_720⟩, okM254_780⟩, okM254_840⟩, okM254_900⟩, okM254_960⟩, okM254_1020⟩, okM254_1080⟩, okM254_1140⟩
theorem okAll : ∀ k, k < 255 → okm k = true
  | 0, _ => okM0
  | 1, _ => okM1
  | 2, _ => okM2
  | 3, _ => okM3
  | 4, _ => okM4
  | 5, _ => okM5
  | 6, _ => okM6
  | 7, _ => okM7
  | 8, _ => okM8
  | 9, _ => okM9
  | 10, _ => okM10
  | 11, _ => okM11
  | 12, _ => okM12
  | 13, _ => okM13
  | 14, _ => okM14
  | 15, _ => okM15
  | 16, _ => okM16
  | 17, _ => okM17
  | 18, _ => okM18
  | 19, _ => okM19
  | 20, _ => okM20
  | 21, _ => okM21
  | 22, _ => okM22
  | 23, _ => okM23
  | 24, _ => okM24
  | 25, _ => okM25
  | 26, _ => okM26
  | 27, _ => okM27
  | 28, _ => okM28
  | 29, _ => okM29
  | 30, _ => okM30
  | 31, _ => okM31
  | 32, _ => okM32
  | 33, _ => okM33
  | 34, _ => okM34
  | 35, _ => okM35
  | 36, _ => okM36
  | 37, _ => okM37
  | 38, _ => okM38
  | 39, _ => okM39
  | 40, _ => okM40
  | 41, _ => okM41
  | 42, _ => okM42
  | 43, _ => okM43
  | 44, _ => okM44
  | 45, _ => okM45
  | 46, _ => okM46
  | 47, _ => okM47
  | 48, _ => okM48
  | 49, _ => okM49
  | 50, _ => okM50
  | 51, _ => okM51
  | 52, _ => okM52
  | 53, _ => okM53
  | 54, _ => okM54
  | 55, _ => okM55
  | 56, _ => okM56
  | 57, _ => okM57
  | 58, _ => okM58
  | 59, _ => okM59
  | 60, _ => okM60
  | 61, _ => okM61
  | 62, _ => okM62
  | 63, _ => okM63
  | 64, _ => okM64
  | 65, _ => okM65
  | 66, _ => okM66
  | 67, _ => okM67
  | 68, _ => okM68
  | 69, _ => okM69
  | 70, _ => okM70
  | 71, _ => okM71
  | 72, _ => okM72
  | 73, _ => okM73
  | 74, _ => okM74
  | 75, _ => okM75
  | 76, _ => okM76
  | 77, _ => okM77
  | 78, _ => okM78
  | 79, _ => okM79
  | 80, _ => okM80
  | 81, _ => okM81
  | 82, _ => okM82
  | 83, _ => okM83
  | 84, _ => okM84
  | 85, _ => okM85
  | 86, _ => okM86
  | 87, _ => okM87
  | 88, _ => okM88
  | 89, _ => okM89
  | 90, _ => okM90
  | 91, _ => okM91
  | 92, _ => okM92
  | 93, _ => okM93
  | 94, _ => okM94
  | 95, _ => okM95
  | 96, _ => okM96
  | 97, _ => okM97
  | 98, _ => okM98
  | 99, _ => okM99
  | 100, _ => okM100
  | 101, _ => okM101
  | 102, _ => okM102
  | 103, _ => okM103
  | 104, _ => okM104
  | 105, _ => okM105
  | 106, _ => okM106
  | 107, _ => okM107
  | 108, _ => okM108
  | 109, _ => okM109
  | 110, _ => okM110
  | 111, _ => okM111
  | 112, _ => okM112
  | 113, _ => okM113
  | 114, _ => okM114
  | 115, _ => okM115
  | 116, _ => okM116
  | 117, _ => okM117
  | 118, _ => okM118
  | 119, _ => okM119
  | 120, _ => okM120
  | 121, _ => okM121
  | 122, _ => okM122
  | 123, _ => okM123
  | 124, _ => okM124
  | 125, _ => okM125
  | 126, _ => okM126
  | 127, _ => okM127
  | 128, _ => okM128
  | 129, _ => okM129
  | 130, _ => okM130
  | 131, _ => okM131
  | 132, _ => okM132
  | 133, _ => okM133
  | 134, _ => okM134
  | 135, _ => okM135
  | 136, _ => okM136
  | 137, _ => okM137
  | 138, _ => okM138
  | 139, _ => okM139
  | 140, _ => okM140
  | 141, _ => okM141
  | 142, _ => okM142
  | 143, _ => okM143
  | 144, _ => okM144
  | 145, _ => okM145
  | 146, _ => okM146
  | 147, _ => okM147
  | 148, _ => okM148
  | 149, _ => okM149
  | 150, _ => okM150
  | 151, _ => okM151
  | 152, _ => okM152
  | 153, _ => okM153
  | 154, _ => okM154
  | 155, _ => okM155
  | 156, _ => okM156
  | 157, _ => okM157
  | 158, _ => okM158
  | 159, _ => okM159
  | 160, _ => okM160
  | 161, _ => okM161
  | 162, _ => okM162
  | 163, _ => okM163
  | 164, _ => okM164
  | 165, _ => okM165
  | 166, _ => okM166
  | 167, _ => okM167
  | 168, _ => okM168
  | 169, _ => okM169
  | 170, _ => okM170
  | 171, _ => okM171
  | 172, _ => okM172
  | 173, _ => okM173
  | 174, _ => okM174
  | 175, _ => okM175
  | 176, _ => okM176
  | 177, _ => okM177
  | 178, _ => okM178
  | 179, _ => okM179
  | 180, _ => okM180
  | 181, _ => okM181
  | 182, _ => okM182
  | 183, _ => okM183
  | 184, _ => okM184
  | 185, _ => okM185
  | 186, _ => okM186
  | 187, _ => okM187
  | 188, _ => okM188
  | 189, _ => okM189
  | 190, _ => okM190
  | 191, _ => okM191
  | 192, _ => okM192
  | 193, _ => okM193
  | 194, _ => okM194
  | 195, _ => okM195
  | 196, _ => okM196
  | 197, _ => okM197
  | 198, _ => okM198
  | 199, _ => okM199
  | 200, _ => okM200
  | 201, _ => okM201
  | 202, _ => okM202
  | 203, _ => okM203
  | 204, _ => okM204
  | 205, _ => okM205
  | 206, _ => okM206
  | 207, _ => okM207
  | 208, _ => okM208
  | 209, _ => okM209
  | 210, _ => okM210
  | 211, _ => okM211
  | 212, _ => okM212
  | 213, _ => okM213
  | 214, _ => okM214
  | 215, _ => okM215
  | 216, _ => okM216
  | 217, _ => okM217
  | 218, _ => okM218
  | 219, _ => okM219
  | 220, _ => okM220
  | 221, _ => okM221
  | 222, _ => okM222
  | 223, _ => okM223
  | 224, _ => okM224
  | 225, _ => okM225
  | 226, _ => okM226
  | 227, _ => okM227
  | 228, _ => okM228
  | 229, _ => okM229
  | 230, _ => okM230
  | 231, _ => okM231
  | 232, _ => okM232
  | 233, _ => okM233
  | 234, _ => okM234
  | 235, _ => okM235
  | 236, _ => okM236
  | 237, _ => okM237
  | 238, _ => okM238
  | 239, _ => okM239
  | 240, _ => okM240
  | 241, _ => okM241
  | 242, _ => okM242
  | 243, _ => okM243
  | 244, _ => okM244
  | 245, _ => okM245
  | 246, _ => okM246
  | 247, _ => okM247
  | 248, _ => okM248
  | 249, _ => okM249
  | 250, _ => okM250
  | 251, _ => okM251
  | 252, _ => okM252
  | 253, _ => okM253
  | 254, _ => okM254
  | n + 255, h => absurd h (by omega)
theorem okXc {k pc : Nat} {x : XI} (h : xc k pc = some x) : k < 255 ∧ decode (mB k) pc = .ok (x.1, xl x) ∧ okX k pc x = true := by
  unfold xc at h
  by_cases hk : k < 255
  · obtain ⟨q, hq, rfl⟩ := Option.map_eq_some_iff.mp h
    have hm := List.mem_of_find?_eq_some hq
    have hp := List.find?_some hq
    have h1 := List.all_eq_true.mp (okAll k hk) q hm
    simp only [okq, Bool.and_eq_true, decide_eq_true_eq] at h1
    simp only [beq_iff_eq] at hp
    subst hp
    exact ⟨hk, h1.1, h1.2⟩
  · have : xTs[k]? = none := List.getElem?_eq_none (by have : xTs.length = 255 := by decide +kernel
                                                       omega)
    rw [this] at h
    simp at h

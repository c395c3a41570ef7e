def oiL : List (Nat × Nat × Nat) := [(11, 1, 130), (0, 1, 1008), (1, 3, 208), (2, 3, 338), (3, 3, 692), (4, 3, 138), (5, 3, 290), (6, 5, 686), (7, 1, 959), (8, 3, 310), (9, 3, 233), (10, 3, 166), (12, 1, 1369)]
theorem oiL_ok : (oiL.all fun q => decide (lw_tbl[q.2.2]? = some (.methodLink (cN q.1) q.2.1 Lib.objectInit))) = true := by decide +kernel
set_option maxRecDepth 100000 in
theorem oi_code : lw_tbl[132]? = some (.code Lib.objectInit ⟨#[0xb1]⟩ 1 none) := by rfl
theorem oi_inst : lw_tbl[131]? = some (.instanceMethod Lib.objectInit) := by decide +kernel
def acL : List (Nat × Nat × Nat) := [(2, 62, 1265)]
theorem acL_ok : (acL.all fun q => decide (lw_tbl[q.2.2]? = some (.methodLink (cN q.1) q.2.1 arraycopyName))) = true := by decide +kernel
theorem ac_words : lw_tbl[1267]? = some (.native arraycopyName) ∧ lw_tbl[1266]? = some (.static arraycopyName) ∧ lw_tbl[124]? = some (.initialized "java/lang/System") := by decide +kernel
/-- statics: own class, place, 0 COMPACT_STRINGS 1 SIOOBE_FORMATTER -/
def gsL : List (Nat × Nat × Nat × Nat) := [(14, 38, 0, 456), (14, 1053, 1, 499)]
theorem gsL_ok : (gsL.all fun q => decide (lw_tbl[q.2.2.2]? = some (if q.2.2.1 = 0 then .fieldLink (cN q.1) q.2.1 "java/lang/String" "COMPACT_STRINGS" "Z" else .fieldLink (cN q.1) q.2.1 "jdk/internal/util/Preconditions" "SIOOBE_FORMATTER" "Ljava/util/function/BiFunction;") ∧ q.2.2.1 < 2)) = true := by decide +kernel
def sfL : List (Nat × Nat × Nat × Nat) := [(14, 9, 0, 2018), (14, 15, 1, 2017)]
theorem sfL_ok : (sfL.all fun q => decide (lw_tbl[q.2.2.2]? = some (if q.2.2.1 = 0 then .fieldLink (cN q.1) q.2.1 "java/lang/String" "value" "[B" else .fieldLink (cN q.1) q.2.1 "java/lang/String" "coder" "B") ∧ q.2.2.1 < 2)) = true := by decide +kernel
/-- throws: method, pc, places of class and constructor, which exception -/
def tL : List (Nat × Nat × Nat × Nat × Nat) := [(107, 9, 64, 66, 0), (112, 9, 64, 66, 0), (122, 15, 127, 129, 1), (161, 16, 127, 129, 1), (185, 12, 127, 129, 1), (194, 50, 64, 66, 0), (195, 26, 64, 66, 0), (208, 54, 64, 66, 0), (218, 11, 127, 129, 1), (220, 32, 127, 129, 1), (232, 136, 64, 66, 0)]
theorem tL_ok : (tL.all fun q => decide (decode (mB q.1) (q.2.1 + 3) = .ok (.dup, 1) ∧ decode (mB q.1) (q.2.1 + 4) = .ok (.invokespecial q.2.2.2.1, 3) ∧ decode (mB q.1) (q.2.1 + 7) = .ok (.athrow, 1) ∧ mH q.1 = [] ∧ mO q.1 = 11 ∧ q.2.2.2.2 < 2)) = true := by decide +kernel
def tP : List (Nat × Nat × Nat) := [(64, 66, 0), (127, 129, 1)]
theorem tL_tP : (tL.all fun q => tP.any fun r => r.1 == q.2.2.1 && r.2.1 == q.2.2.2.1 && r.2.2 == q.2.2.2.2) = true := by decide +kernel
def okY (k : Nat) (q : Nat × XI) : Bool := match q.2.1 with
  | .getfield i => !(x1 q.2 == 30) || sfL.any (fun r => r.1 == mO k && r.2.1 == i && (r.2.2.1 : Int) == x2 q.2)
  | .getstatic i => !(decide (x1 q.2 < 2)) || gsL.any (fun r => r.1 == mO k && r.2.1 == i && r.2.2.1 == x1 q.2)
  | .invokespecial i => !(x1 q.2 == 1000) || oiL.any (fun r => r.1 == mO k && r.2.1 == i)
  | .invokestatic i => !(x1 q.2 == 1001) || acL.any (fun r => r.1 == mO k && r.2.1 == i)
  | .new i => !(decide (100 ≤ x1 q.2 ∧ x1 q.2 < 102)) || tL.any (fun r => r.1 == k && r.2.1 == q.1 && r.2.2.1 == i && r.2.2.2.2 + 100 == x1 q.2)
  | .tableswitch df _ _ offs => (df :: offs.toList).all (fun o => decide (0 ≤ (q.1 : Int) + o))
  | _ => true
theorem okYall : ((List.range 255).all fun k => ((xTs[k]?).getD []).all (okY k)) = true := by decide +kernel
/-- how many parameters a method takes, out of its descriptor -/
def mPn : List Nat := [0, 0, 0, 1, 2, 2, 4, 4, 2, 1, 3, 2, 2, 1, 2, 2, 0, 1, 1, 0, 1, 2, 3, 2, 1, 5, 1, 1, 1, 0, 1, 1, 1, 1, 0, 2, 2, 2, 1, 1, 1, 0, 1, 1, 2, 0, 2, 2, 2, 2, 2, 2, 1, 1, 1, 1, 0, 1, 3, 5, 1, 2, 2, 2, 1, 2, 1, 3, 3, 2, 3, 2, 1, 2, 1, 3, 3, 1, 3, 3, 2, 4, 4, 0, 1, 3, 2, 2, 1, 3, 2, 3, 1, 2, 2, 1, 3, 3, 1, 0, 0, 0, 0, 0, 0, 0, 0, 1, 1, 2, 3, 3, 2, 1, 2, 2, 1, 1, 0, 1, 1, 5, 1, 0, 0, 1, 1, 1, 1, 1, 1, 0, 0, 0, 3, 3, 0, 2, 1, 1, 1, 1, 1, 1, 2, 2, 2, 2, 2, 2, 2, 1, 1, 1, 1, 1, 1, 1, 1, 1, 0, 1, 3, 3, 4, 4, 5, 1, 1, 0, 0, 1, 1, 1, 3, 1, 2, 0, 1, 0, 0, 0, 3, 3, 2, 1, 2, 3, 3, 2, 2, 2, 3, 2, 3, 3, 2, 1, 4, 3, 0, 2, 1, 5, 0, 2, 1, 1, 4, 4, 0, 0, 1, 1, 1, 1, 2, 3, 2, 1, 3, 0, 2, 1, 2, 1, 2, 3, 1, 3, 3, 3, 1, 3, 4, 3, 3, 3, 5, 7, 4, 5, 5, 3, 5, 6, 6, 3, 4, 3, 5, 5, 5, 3, 1]
theorem mPn_ok : ((List.range 255).all fun k => decide ((parseMethodDescriptor (mY k).desc).map (fun d => d.parameters.length) = some ((mPn[k]?).getD 0))) = true := by decide +kernel
def okZ (q : Nat × XI) : Bool := match q.2.1 with
  | .invokevirtual _ | .invokespecial _ | .invokestatic _ => !(decide (x1 q.2 < 1000)) || decide (x2 q.2 = (((mPn[x1 q.2]?).getD 0 : Nat) : Int))
  | _ => true
theorem okZall : ((List.range 255).all fun k => ((xTs[k]?).getD []).all okZ) = true := by decide +kernel
theorem tw_64_66 : ((vx_at0 "DogTrials" 66 "java/util/NoSuchElementException" ["java/lang/RuntimeException", "java/lang/Exception"]).all fun w => decide (w ∈ lw_tbl) && (goodWord w || isNw w)) = true := by decide +kernel
theorem tk_64_66 : lw_tbl[551]? = some (.classLink "DogTrials" 64 "java/util/NoSuchElementException") ∧ lw_tbl[111]? = some (.initialized "java/util/NoSuchElementException") := by decide +kernel
theorem tw_127_129 : ((vx_at0 "DogTrials" 129 "java/lang/IllegalArgumentException" ["java/lang/RuntimeException", "java/lang/Exception"]).all fun w => decide (w ∈ lw_tbl) && (goodWord w || isNw w)) = true := by decide +kernel
theorem tk_127_129 : lw_tbl[654]? = some (.classLink "DogTrials" 127 "java/lang/IllegalArgumentException") ∧ lw_tbl[118]? = some (.initialized "java/lang/IllegalArgumentException") := by decide +kernel

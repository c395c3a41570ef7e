-- the words
def gT : List Cond := lw_tbl.filter goodWord
theorem gT_of {w : Cond} {i : Nat} (h : lw_tbl[i]? = some w) (g : goodWord w = true) : w ∈ gT := List.mem_filter.mpr ⟨List.mem_of_getElem? h, g⟩
theorem fL_ok : (fL.all fun q => decide (lw_tbl[q.2.2.2.2]? = some (.fieldLink (cN q.1) q.2.1 (vC q.2.2.1).1 ((vC q.2.2.1).2.1 q.2.2.2.1).2.1 ((vC q.2.2.1).2.1 q.2.2.2.1).2.2.1)) && decide (q.2.2.1 < 13 ∧ q.2.2.2.1 < (vC q.2.2.1).2.2 ∧ ((vC q.2.2.1).2.1 q.2.2.2.1).1 = cN q.2.2.1)) = true := by decide +kernel
def mLp (q : Nat × Nat × Nat × Nat × Nat × Nat × Nat) : Bool := decide (lw_tbl[q.2.2.2.2.1]? = some (.methodLink (cN q.1) q.2.1 (mY q.2.2.1)) ∧ lw_tbl[q.2.2.2.2.2.1]? = some (if q.2.2.2.1 = 0 then .static (mY q.2.2.1) else .instanceMethod (mY q.2.2.1))) && (!(q.2.2.2.1 == 2) || decide (lw_tbl[q.2.2.2.2.2.2]? = some (.selects (mC q.2.2.1) (mY q.2.2.1) (mY q.2.2.1)))) && (!(q.2.2.2.1 == 1) || (mY q.2.2.1).name == "<init>")
theorem all_td {α : Type} {l : List α} {p : α → Bool} (a n : Nat) (h1 : ((l.drop a).take n).all p = true) (h2 : (l.drop (a + n)).all p = true) : (l.drop a).all p = true := by
  rw [← List.take_append_drop n (l.drop a), List.all_append, h1, List.drop_drop, h2]; rfl
theorem mL_ok0 : ((mL_.drop 0).take 40).all mLp = true := by decide +kernel
theorem mL_ok40 : ((mL_.drop 40).take 40).all mLp = true := by decide +kernel
theorem mL_ok80 : ((mL_.drop 80).take 40).all mLp = true := by decide +kernel
theorem mL_ok120 : ((mL_.drop 120).take 40).all mLp = true := by decide +kernel
theorem mL_ok160 : ((mL_.drop 160).take 40).all mLp = true := by decide +kernel
theorem mL_ok200 : ((mL_.drop 200).take 40).all mLp = true := by decide +kernel
theorem mL_ok240 : ((mL_.drop 240).take 40).all mLp = true := by decide +kernel
theorem mL_ok280 : ((mL_.drop 280).take 40).all mLp = true := by decide +kernel
theorem mL_ok : mL_.all mLp = true := by
  exact (all_td 0 40 mL_ok0 (all_td 40 40 mL_ok40 (all_td 80 40 mL_ok80 (all_td 120 40 mL_ok120 (all_td 160 40 mL_ok160 (all_td 200 40 mL_ok200 (all_td 240 40 mL_ok240 (all_td 280 40 mL_ok280 (by decide +kernel : (mL_.drop 320).all mLp = true)))))))))
theorem nL_ok : (nL_.all fun q => decide (lw_tbl[q.2.2.2.1]? = some (.methodLinkNest (cN q.1) q.2.1 (mY q.2.2.1) "DogTrials") ∧ lw_tbl[q.2.2.2.2]? = some (.instanceMethod (mY q.2.2.1)) ∧ (mY q.2.2.1).name = "<init>")) = true := by decide +kernel
theorem kL_ok : (kL_.all fun q => decide (lw_tbl[q.2.2.2]? = some (.constant (cN q.1) q.2.1 (Int32.ofInt q.2.2.1)))) = true := by decide +kernel
theorem jL_ok : (jL_.all fun q => decide (lw_tbl[q.2.2.2]? = some (.constantLong (cN q.1) q.2.1 (Int64.ofInt q.2.2.1)))) = true := by decide +kernel
theorem sT_ok : (sTx.all fun q => decide (lw_tbl[q.2.2.2]? = some (.stringRef (cN q.1) q.2.1 q.2.2.1))) = true := by decide +kernel
theorem oL_ok : (oL_.all fun q => decide (lw_tbl[q.2.2.2.1]? = some (.classLink (cN q.1) q.2.1 (cN q.2.2.1)) ∧ lw_tbl[q.2.2.2.2.1]? = some (.initialized (cN q.2.2.1)) ∧ lw_tbl[q.2.2.2.2.2]? = some (.instantiable (cN q.2.2.1) (vC q.2.2.1).2.2))) = true := by decide +kernel
def exN (i : Nat) : String := if i = 0 then "java/util/NoSuchElementException" else "java/lang/IllegalArgumentException"
theorem eL_ok : (eL_.all fun q => decide (lw_tbl[q.2.2.2]? = some (.classLink (cN q.1) q.2.1 (exN q.2.2.1)) ∧ q.2.2.1 < 2)) = true := by decide +kernel
def aNm (i : Nat) : String := if i = 23 then "DogTrials$RuleBook" else if i = 24 then "DogTrials$Run" else if i = 27 then "java/lang/String" else if i = 25 then "[[I" else "[[J"
theorem aL_ok : (aL_.all fun q => decide (lw_tbl[q.2.2.2]? = some (.classLink (cN q.1) q.2.1 (aNm q.2.2.1)))) = true := by decide +kernel
theorem vC_own : ((List.range 13).all fun i => decide ((vC i).1 = cN i)) = true := by decide +kernel

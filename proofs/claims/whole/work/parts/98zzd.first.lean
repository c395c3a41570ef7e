/-! What the constructors leave. -/
section
variable {M : Mem}
theorem Bd_S (h : Bd M 222 183 2) : Static M := by
  obtain ⟨h1, h2, h3, _⟩ := h
  refine ⟨by omega, fun q hq => ?_, fun q hq => ?_⟩
  · obtain ⟨i, hi, e⟩ := List.getElem_of_mem hq
    have e2 : skL[i]? = some q := by rw [List.getElem?_eq_getElem hi, e]
    have a := sk_at i q e2
    have hl : skL.length = 161 := by decide +kernel
    exact h2 i q e2 (by omega)
  · have hh : spL.all (fun q => spO.contains q) = true := by decide +kernel
    have hm := List.contains_iff_mem.mp (List.all_eq_true.mp hh q hq)
    obtain ⟨i, hi, e⟩ := List.getElem_of_mem hm
    have e2 : spO[i]? = some q := by rw [List.getElem?_eq_getElem hi, e]
    have hl : spO.length = 183 := by decide +kernel
    exact (h3 i q (by omega) e2).2
theorem Bd_0 (h : Bd M 222 183 2) {c j : Nat} (h1 : 61 ≤ c) (h2 : c < 222) (h3 : ¬ (c = 91 ∧ j = 3) ∧ ¬ (c = 154 ∧ j = 22)) : mI M c j = iZ 0 := by
  refine h.2.2.2.1 c j h1 h2 (fun q hq => ?_)
  unfold vO at hq
  simp only [List.mem_cons, List.not_mem_nil, or_false] at hq
  rcases hq with rfl | rfl
  · exact fun z => h3.1 ⟨z.1.symm, z.2.symm⟩
  · exact fun z => h3.2 ⟨z.1.symm, z.2.symm⟩
theorem Bd_1 (h : Bd M 222 183 2) : mI M 91 3 = iZ (-1) ∧ mI M 154 22 = iZ (-1) := ⟨(h.2.2.2.2.1 0 (91, 3, -1) (by decide) rfl).2, (h.2.2.2.2.1 1 (154, 22, -1) (by decide) rfl).2⟩
end

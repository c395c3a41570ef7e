/-! Small methods of the two. -/
section
variable {G : GE} {d : Nat} {M : Mem}
theorem c20 (hst : (gl G).stackTraces = false) (hS : Static M) {z n : Int} (h1 : -2147483648 ≤ z) (h2 : z < 2147483648) (hn : mI M 154 6 = iZ n) (h3 : 0 ≤ n) (h4 : n ≤ 24) : Ev G (d + 1) 20 [aR (some 154), aI (iZ z)] M 0 (vI (bZ (0 ≤ z ∧ z < n)) M) nX := by
  refine Ev_wp 2000 hst (by decide) (Nat.le_of_ble_eq_true rfl) ?_
  simp only [en20, wcQ, wcX, w20_0, w20_1, w20_4, w20_5, w20_6, w20_9, w20_12, w20_13, w20_16, w20_17]
  simp (disch := omega) only [K154 hS, O154 hS, P154_0 hS, P154_1 hS, P154_7 hS, P154_8 hS, P154_9 hS, P154_10 hS, P154_11 hS, P154_25 hS, P154_26 hS, P154_27 hS, P154_28 hS, P154_29 hS, P154_30 hS, P154_31 hS, P154_32 hS, P154_33 hS, P154_34 hS, P154_35 hS, P154_36 hS, P154_37 hS, P154_38 hS, P154_39 hS, P154_40 hS, P154_41 hS, P154_46 hS, P154_47 hS, P154_48 hS, P154_49 hS, P154_50 hS, P154_51 hS, P154_52 hS, P154_53 hS, P154_54 hS, P154_55 hS, P154_56 hS, P154_57 hS, P154_58 hS, P154_59 hS, P154_60 hS, P154_61 hS, P154_62 hS, P154_63 hS, P154_64 hS, P154_65 hS, P154_68 hS, P154_69 hS, P154_70 hS, P154_71 hS, P154_72 hS, P154_73 hS, P154_74 hS, P154_75 hS, P154_76 hS, P154_77 hS, P154_78 hS, P154_79 hS, P154_80 hS, P154_81 hS, P154_82 hS, P154_83 hS, P154_84 hS, P154_85 hS, P154_86 hS, P154_87 hS, P154_88 hS, P154_89 hS, hn, toI, vI_, true_and, bZ, isB]
  refine ⟨fun h => ?_, fun h => ⟨fun h5 => ?_, fun h5 => ?_⟩⟩
  · sorry
  · sorry
  · sorry
end

/-! One rewriting row an instruction (printed by wip/whole/gen/wrows.py). -/
section
variable {C : WC} {n b : Nat} {M : Mem}
set_option maxRecDepth 30000 in
theorem w254_0 {ls : List AV} : wp C 254 (n + 1) 0 ls [] M b = (13 ≤ b ∧ wp C 254 n 3 ls [aR (some (mN M))] (newC M 11 12) (b - 13)) := (wp_s rfl rfl).trans rfl
set_option maxRecDepth 30000 in
theorem w254_3 {r0 : Option Nat} {ls : List AV} : wp C 254 (n + 1) 3 ls [aR r0] M b = (wp C 254 n 4 ls [aR r0, aR r0] M b) := (wp_s (x := (.dup, 1, 0, 0)) rfl rfl).trans (an trivial)
set_option maxRecDepth 30000 in
theorem w254_4 {a0 : Nat} {r1 : Option Nat} {ls : List AV} : wp C 254 (n + 1) 4 ls [aR (some a0), aR r1] M b = (CALL C 106 [aR (some a0)] M b (kR (wp C 254 n 7 ls) [aR r1]) (cX C)) := (wp_s (x := (.invokespecial 86, 3, 106, 0)) rfl rfl).trans (cp_row (by decide) (Nat.le_of_ble_eq_true rfl) (Nat.le_of_ble_eq_true rfl) rfl)
set_option maxRecDepth 30000 in
theorem w254_7 {o0 : Option Nat} {v1 : AV} {r0 : Option Nat} {ls : List AV} : wp C 254 (n + 1) 7 (aR o0 :: v1 :: ls) [aR r0] M b = (wp C 254 n 8 (aR o0 :: aR r0 :: ls) [] M b) := (wp_s rfl rfl).trans rfl
set_option maxRecDepth 30000 in
theorem w254_8 {ls : List AV} : wp C 254 (n + 1) 8 ls [] M b = (91 ≤ b ∧ wp C 254 n 11 ls [aR (some (mN M))] (newC M 12 90) (b - 91)) := (wp_s rfl rfl).trans rfl
set_option maxRecDepth 30000 in
theorem w254_11 {r0 : Option Nat} {ls : List AV} : wp C 254 (n + 1) 11 ls [aR r0] M b = (wp C 254 n 12 ls [aR r0, aR r0] M b) := (wp_s (x := (.dup, 1, 0, 0)) rfl rfl).trans (an trivial)
set_option maxRecDepth 30000 in
theorem w254_12 {a0 : Nat} {r1 : Option Nat} {ls : List AV} : wp C 254 (n + 1) 12 ls [aR (some a0), aR r1] M b = (CALL C 16 [aR (some a0)] M b (kR (wp C 254 n 15 ls) [aR r1]) (cX C)) := (wp_s (x := (.invokespecial 89, 3, 16, 0)) rfl rfl).trans (cp_row (by decide) (Nat.le_of_ble_eq_true rfl) (Nat.le_of_ble_eq_true rfl) rfl)
set_option maxRecDepth 30000 in
theorem w254_15 {v0 : AV} {o1 : Option Nat} {v2 : AV} {r0 : Option Nat} {ls : List AV} : wp C 254 (n + 1) 15 (v0 :: aR o1 :: v2 :: ls) [aR r0] M b = (wp C 254 n 16 (v0 :: aR o1 :: aR r0 :: ls) [] M b) := (wp_s rfl rfl).trans rfl
set_option maxRecDepth 30000 in
theorem w254_16 {ls : List AV} : wp C 254 (n + 1) 16 ls [] M b = (wp C 254 n 17 ls [aI (iZ 1)] M b) := (wp_s rfl rfl).trans rfl
set_option maxRecDepth 30000 in
theorem w254_17 {x0 : Int32} {ls : List AV} : wp C 254 (n + 1) 17 ls [aI x0] M b = ((0 ≤ x0.toInt ∧ x0.toInt ≤ 100000 ∧ iN x0 + 1 ≤ b) ∧ wp C 254 n 19 ls [aR (some (mN M))] (newC M 21 (iN x0)) (b - (iN x0 + 1))) := (wp_s (x := (.newarray .long, 2, 21, 0)) rfl rfl).trans (an_na (by decide))
set_option maxRecDepth 30000 in
theorem w254_19 {v0 : AV} {v1 : AV} {o2 : Option Nat} {v3 : AV} {r0 : Option Nat} {ls : List AV} : wp C 254 (n + 1) 19 (v0 :: v1 :: aR o2 :: v3 :: ls) [aR r0] M b = (wp C 254 n 20 (v0 :: v1 :: aR o2 :: aR r0 :: ls) [] M b) := (wp_s rfl rfl).trans rfl
set_option maxRecDepth 30000 in
theorem w254_20 {ls : List AV} : wp C 254 (n + 1) 20 ls [] M b = (wp C 254 n 21 ls [aI (iZ 0)] M b) := (wp_s rfl rfl).trans rfl
set_option maxRecDepth 30000 in
theorem w254_21 {v0 : AV} {v1 : AV} {v2 : AV} {o3 : Option Nat} {v4 : AV} {x0 : Int32} {ls : List AV} : wp C 254 (n + 1) 21 (v0 :: v1 :: v2 :: aR o3 :: v4 :: ls) [aI x0] M b = (wp C 254 n 23 (v0 :: v1 :: v2 :: aR o3 :: aI x0 :: ls) [] M b) := (wp_s rfl rfl).trans rfl
set_option maxRecDepth 30000 in
theorem h254_23 {ls st : List AV} : wp C 254 (n + 1) 23 ls st M b = cG C 23 ls st M b := wp_h rfl
set_option maxRecDepth 30000 in
theorem w254_23 {v0 : AV} {v1 : AV} {v2 : AV} {v3 : AV} {p4 : Int32} {ls : List AV} : wp1 C 254 n 23 (v0 :: v1 :: v2 :: v3 :: aI p4 :: ls) [] M b = (wp C 254 n 25 (v0 :: v1 :: v2 :: v3 :: aI p4 :: ls) [aI p4] M b) := (wp1_s rfl).trans rfl
set_option maxRecDepth 30000 in
theorem w254_25 {o0 : Option Nat} {x0 : Int32} {ls : List AV} : wp C 254 (n + 1) 25 (aR o0 :: ls) [aI x0] M b = (wp C 254 n 26 (aR o0 :: ls) [aR o0, aI x0] M b) := (wp_s rfl rfl).trans rfl
set_option maxRecDepth 30000 in
theorem w254_26 {a0 : Nat} {x1 : Int32} {ls : List AV} : wp C 254 (n + 1) 26 ls [aR (some a0), aI x1] M b = (a0 = 60 ∧ wp C 254 n 27 ls [aI (iZ (cL C : Nat)), aI x1] M b) := (wp_s rfl rfl).trans rfl
set_option maxRecDepth 30000 in
theorem w254_27 {x0 : Int32} {x1 : Int32} {ls : List AV} : wp C 254 (n + 1) 27 ls [aI x0, aI x1] M b = (wp C 254 n 29 ls [aI (iZ 6), aI x0, aI x1] M b) := (wp_s rfl rfl).trans rfl
set_option maxRecDepth 30000 in
theorem w254_29 {x0 : Int32} {x1 : Int32} {x2 : Int32} {ls : List AV} : wp C 254 (n + 1) 29 ls [aI x0, aI x1, aI x2] M b = (wp C 254 n 30 ls [aI (x1 - x0), aI x2] M b) := (wp_s rfl rfl).trans rfl
set_option maxRecDepth 30000 in
theorem w254_30 {x0 : Int32} {x1 : Int32} {ls : List AV} : wp C 254 (n + 1) 30 ls [aI x0, aI x1] M b = ((x0.toInt < x1.toInt → wp C 254 n 1844 ls [] M b) ∧ (¬ x0.toInt < x1.toInt → wp C 254 n 33 ls [] M b)) := (wp_s (x := (.if_icmp .gt 1814, 3, 1844, 0)) rfl rfl).trans cgt
set_option maxRecDepth 30000 in
theorem w254_33 {o0 : Option Nat} {ls : List AV} : wp C 254 (n + 1) 33 (aR o0 :: ls) [] M b = (wp C 254 n 34 (aR o0 :: ls) [aR o0] M b) := (wp_s rfl rfl).trans rfl
set_option maxRecDepth 30000 in
theorem w254_34 {v0 : AV} {v1 : AV} {v2 : AV} {v3 : AV} {p4 : Int32} {r0 : Option Nat} {ls : List AV} : wp C 254 (n + 1) 34 (v0 :: v1 :: v2 :: v3 :: aI p4 :: ls) [aR r0] M b = (wp C 254 n 36 (v0 :: v1 :: v2 :: v3 :: aI p4 :: ls) [aI p4, aR r0] M b) := (wp_s rfl rfl).trans rfl
set_option maxRecDepth 30000 in
theorem w254_36 {x0 : Int32} {a1 : Nat} {ls : List AV} : wp C 254 (n + 1) 36 ls [aI x0, aR (some a1)] M b = ((a1 = 60 ∧ inb x0 (cL C)) ∧ wp C 254 n 37 ls [aI (cS C (iN x0))] M b) := (wp_s rfl rfl).trans rfl
set_option maxRecDepth 30000 in
theorem w254_37 {x0 : Int32} {ls : List AV} : wp C 254 (n + 1) 37 ls [aI x0] M b = (wp C 254 n 39 ls [aI (iZ 31), aI x0] M b) := (wp_s rfl rfl).trans rfl
set_option maxRecDepth 30000 in
theorem w254_39 {x0 : Int32} {x1 : Int32} {ls : List AV} : wp C 254 (n + 1) 39 ls [aI x0, aI x1] M b = (wp C 254 n 40 ls [aI (x1 &&& x0)] M b) := (wp_s rfl rfl).trans rfl
set_option maxRecDepth 30000 in
theorem w254_40 {x0 : Int32} {ls : List AV} : wp C 254 (n + 1) 40 ls [aI x0] M b = ((x0.toInt < 0 ∨ 24 < x0.toInt → wp C 254 n 1838 ls [] M b) ∧ (x0.toInt = 0 → wp C 254 n 156 ls [] M b) ∧ (x0.toInt = 1 → wp C 254 n 212 ls [] M b) ∧ (x0.toInt = 2 → wp C 254 n 261 ls [] M b) ∧ (x0.toInt = 3 → wp C 254 n 328 ls [] M b) ∧ (x0.toInt = 4 → wp C 254 n 383 ls [] M b) ∧ (x0.toInt = 5 → wp C 254 n 456 ls [] M b) ∧ (x0.toInt = 6 → wp C 254 n 512 ls [] M b) ∧ (x0.toInt = 7 → wp C 254 n 525 ls [] M b) ∧ (x0.toInt = 8 → wp C 254 n 581 ls [] M b) ∧ (x0.toInt = 9 → wp C 254 n 661 ls [] M b) ∧ (x0.toInt = 10 → wp C 254 n 765 ls [] M b) ∧ (x0.toInt = 11 → wp C 254 n 833 ls [] M b) ∧ (x0.toInt = 12 → wp C 254 n 913 ls [] M b) ∧ (x0.toInt = 13 → wp C 254 n 993 ls [] M b) ∧ (x0.toInt = 14 → wp C 254 n 1049 ls [] M b) ∧ (x0.toInt = 15 → wp C 254 n 1136 ls [] M b) ∧ (x0.toInt = 16 → wp C 254 n 1228 ls [] M b) ∧ (x0.toInt = 17 → wp C 254 n 1320 ls [] M b) ∧ (x0.toInt = 18 → wp C 254 n 1331 ls [] M b) ∧ (x0.toInt = 19 → wp C 254 n 1387 ls [] M b) ∧ (x0.toInt = 20 → wp C 254 n 1487 ls [] M b) ∧ (x0.toInt = 21 → wp C 254 n 1543 ls [] M b) ∧ (x0.toInt = 22 → wp C 254 n 1623 ls [] M b) ∧ (x0.toInt = 23 → wp C 254 n 1702 ls [] M b) ∧ (x0.toInt = 24 → wp C 254 n 1782 ls [] M b) ∧ True) := (wp_s (x := (.tableswitch 1798 0 24 #[116, 172, 221, 288, 343, 416, 472, 485, 541, 621, 725, 793, 873, 953, 1009, 1096, 1188, 1280, 1291, 1347, 1447, 1503, 1583, 1662, 1742], 116, 0, 0)) rfl rfl).trans (an_sw rfl)
set_option maxRecDepth 30000 in
theorem w254_156 {v0 : AV} {o1 : Option Nat} {ls : List AV} : wp C 254 (n + 1) 156 (v0 :: aR o1 :: ls) [] M b = (wp C 254 n 157 (v0 :: aR o1 :: ls) [aR o1] M b) := (wp_s rfl rfl).trans rfl
set_option maxRecDepth 30000 in
theorem w254_157 {o0 : Option Nat} {r0 : Option Nat} {ls : List AV} : wp C 254 (n + 1) 157 (aR o0 :: ls) [aR r0] M b = (wp C 254 n 158 (aR o0 :: ls) [aR o0, aR r0] M b) := (wp_s rfl rfl).trans rfl
set_option maxRecDepth 30000 in
theorem w254_158 {v0 : AV} {v1 : AV} {v2 : AV} {v3 : AV} {p4 : Int32} {r0 : Option Nat} {r1 : Option Nat} {ls : List AV} : wp C 254 (n + 1) 158 (v0 :: v1 :: v2 :: v3 :: aI p4 :: ls) [aR r0, aR r1] M b = (wp C 254 n 160 (v0 :: v1 :: v2 :: v3 :: aI p4 :: ls) [aI p4, aR r0, aR r1] M b) := (wp_s rfl rfl).trans rfl
set_option maxRecDepth 30000 in
theorem w254_160 {x0 : Int32} {r1 : Option Nat} {r2 : Option Nat} {ls : List AV} : wp C 254 (n + 1) 160 ls [aI x0, aR r1, aR r2] M b = (wp C 254 n 161 ls [aI (iZ 1), aI x0, aR r1, aR r2] M b) := (wp_s rfl rfl).trans rfl
set_option maxRecDepth 30000 in
theorem w254_161 {x0 : Int32} {x1 : Int32} {r2 : Option Nat} {r3 : Option Nat} {ls : List AV} : wp C 254 (n + 1) 161 ls [aI x0, aI x1, aR r2, aR r3] M b = (wp C 254 n 162 ls [aI (x1 + x0), aR r2, aR r3] M b) := (wp_s rfl rfl).trans rfl
set_option maxRecDepth 30000 in
theorem w254_162 {x0 : Int32} {a1 : Nat} {r2 : Option Nat} {ls : List AV} : wp C 254 (n + 1) 162 ls [aI x0, aR (some a1), aR r2] M b = ((a1 = 60 ∧ inb x0 (cL C)) ∧ wp C 254 n 163 ls [aI (cS C (iN x0)), aR r2] M b) := (wp_s rfl rfl).trans rfl
set_option maxRecDepth 30000 in
theorem w254_163 {v0 : AV} {v1 : AV} {v2 : AV} {o3 : Option Nat} {x0 : Int32} {r1 : Option Nat} {ls : List AV} : wp C 254 (n + 1) 163 (v0 :: v1 :: v2 :: aR o3 :: ls) [aI x0, aR r1] M b = (wp C 254 n 164 (v0 :: v1 :: v2 :: aR o3 :: ls) [aR o3, aI x0, aR r1] M b) := (wp_s rfl rfl).trans rfl
set_option maxRecDepth 30000 in
theorem w254_164 {r0 : Option Nat} {x1 : Int32} {r2 : Option Nat} {ls : List AV} : wp C 254 (n + 1) 164 ls [aR r0, aI x1, aR r2] M b = (CALL C 233 [aR r2, aI x1, aR r0] M b (kR (wp C 254 n 167 ls) []) (cX C)) := (wp_s (x := (.invokestatic 90, 3, 233, 3)) rfl rfl).trans (cs_row (by decide) (Nat.le_of_ble_eq_true rfl) (Nat.le_of_ble_eq_true rfl))
set_option maxRecDepth 30000 in
theorem w254_167 {v0 : AV} {v1 : AV} {v2 : AV} {v3 : AV} {p4 : Int32} {v5 : AV} {x0 : Int32} {ls : List AV} : wp C 254 (n + 1) 167 (v0 :: v1 :: v2 :: v3 :: aI p4 :: v5 :: ls) [aI x0] M b = (wp C 254 n 169 (v0 :: v1 :: v2 :: v3 :: aI p4 :: aI x0 :: ls) [] M b) := (wp_s rfl rfl).trans rfl
set_option maxRecDepth 30000 in
theorem w254_169 {v0 : AV} {v1 : AV} {o2 : Option Nat} {ls : List AV} : wp C 254 (n + 1) 169 (v0 :: v1 :: aR o2 :: ls) [] M b = (wp C 254 n 170 (v0 :: v1 :: aR o2 :: ls) [aR o2] M b) := (wp_s rfl rfl).trans rfl
set_option maxRecDepth 30000 in
theorem w254_170 {o0 : Option Nat} {r0 : Option Nat} {ls : List AV} : wp C 254 (n + 1) 170 (aR o0 :: ls) [aR r0] M b = (wp C 254 n 171 (aR o0 :: ls) [aR o0, aR r0] M b) := (wp_s rfl rfl).trans rfl
set_option maxRecDepth 30000 in
theorem w254_171 {v0 : AV} {v1 : AV} {v2 : AV} {v3 : AV} {p4 : Int32} {r0 : Option Nat} {r1 : Option Nat} {ls : List AV} : wp C 254 (n + 1) 171 (v0 :: v1 :: v2 :: v3 :: aI p4 :: ls) [aR r0, aR r1] M b = (wp C 254 n 173 (v0 :: v1 :: v2 :: v3 :: aI p4 :: ls) [aI p4, aR r0, aR r1] M b) := (wp_s rfl rfl).trans rfl
set_option maxRecDepth 30000 in
theorem w254_173 {x0 : Int32} {r1 : Option Nat} {r2 : Option Nat} {ls : List AV} : wp C 254 (n + 1) 173 ls [aI x0, aR r1, aR r2] M b = (wp C 254 n 174 ls [aI (iZ 1), aI x0, aR r1, aR r2] M b) := (wp_s rfl rfl).trans rfl
set_option maxRecDepth 30000 in
theorem w254_174 {x0 : Int32} {x1 : Int32} {r2 : Option Nat} {r3 : Option Nat} {ls : List AV} : wp C 254 (n + 1) 174 ls [aI x0, aI x1, aR r2, aR r3] M b = (wp C 254 n 175 ls [aI (x1 + x0), aR r2, aR r3] M b) := (wp_s rfl rfl).trans rfl
set_option maxRecDepth 30000 in
theorem w254_175 {x0 : Int32} {a1 : Nat} {r2 : Option Nat} {ls : List AV} : wp C 254 (n + 1) 175 ls [aI x0, aR (some a1), aR r2] M b = ((a1 = 60 ∧ inb x0 (cL C)) ∧ wp C 254 n 176 ls [aI (cS C (iN x0)), aR r2] M b) := (wp_s rfl rfl).trans rfl
set_option maxRecDepth 30000 in
theorem w254_176 {x0 : Int32} {a1 : Nat} {ls : List AV} : wp C 254 (n + 1) 176 ls [aI x0, aR (some a1)] M b = (oB M a1 12 ∧ CALL C 18 [aR (some a1), aI x0] M b (kR (wp C 254 n 179 ls) []) (cX C)) := (wp_s (x := (.invokevirtual 95, 3, 18, 1)) rfl rfl).trans (cv_row (by decide) (Nat.le_of_ble_eq_true rfl) (Nat.le_of_ble_eq_true rfl) rfl)
set_option maxRecDepth 30000 in
theorem w254_179 {v0 : AV} {v1 : AV} {v2 : AV} {v3 : AV} {v4 : AV} {p5 : Int32} {v6 : AV} {x0 : Int32} {ls : List AV} : wp C 254 (n + 1) 179 (v0 :: v1 :: v2 :: v3 :: v4 :: aI p5 :: v6 :: ls) [aI x0] M b = (wp C 254 n 181 (v0 :: v1 :: v2 :: v3 :: v4 :: aI p5 :: aI x0 :: ls) [] M b) := (wp_s rfl rfl).trans rfl
set_option maxRecDepth 30000 in
theorem w254_181 {v0 : AV} {v1 : AV} {o2 : Option Nat} {ls : List AV} : wp C 254 (n + 1) 181 (v0 :: v1 :: aR o2 :: ls) [] M b = (wp C 254 n 182 (v0 :: v1 :: aR o2 :: ls) [aR o2] M b) := (wp_s rfl rfl).trans rfl
set_option maxRecDepth 30000 in
theorem w254_182 {a0 : Nat} {ls : List AV} : wp C 254 (n + 1) 182 ls [aR (some a0)] M b = (oB M a0 12 ∧ CALL C 19 [aR (some a0)] M b (kR (wp C 254 n 185 ls) []) (cX C)) := (wp_s (x := (.invokevirtual 96, 3, 19, 0)) rfl rfl).trans (cv_row (by decide) (Nat.le_of_ble_eq_true rfl) (Nat.le_of_ble_eq_true rfl) rfl)
set_option maxRecDepth 30000 in
theorem w254_185 {v0 : AV} {v1 : AV} {v2 : AV} {v3 : AV} {v4 : AV} {p5 : Int32} {x0 : Int32} {ls : List AV} : wp C 254 (n + 1) 185 (v0 :: v1 :: v2 :: v3 :: v4 :: aI p5 :: ls) [aI x0] M b = (wp C 254 n 187 (v0 :: v1 :: v2 :: v3 :: v4 :: aI p5 :: ls) [aI p5, aI x0] M b) := (wp_s rfl rfl).trans rfl
set_option maxRecDepth 30000 in
theorem w254_187 {x0 : Int32} {x1 : Int32} {ls : List AV} : wp C 254 (n + 1) 187 ls [aI x0, aI x1] M b = ((x1.toInt = x0.toInt → wp C 254 n 192 ls [] M b) ∧ (¬ x1.toInt = x0.toInt → wp C 254 n 190 ls [] M b)) := (wp_s (x := (.if_icmp .eq 5, 3, 192, 0)) rfl rfl).trans ceq
set_option maxRecDepth 30000 in
theorem w254_190 {ls : List AV} : wp C 254 (n + 1) 190 ls [] M b = (wp C 254 n 191 ls [aI (iZ 0)] M b) := (wp_s rfl rfl).trans rfl
set_option maxRecDepth 30000 in
theorem w254_191 {x0 : Int32} {ls : List AV} : wp C 254 (n + 1) 191 ls [aI x0] M b = (isB x0 ∧ cQ C (some (aI x0)) M) := (wp_s (x := (.ireturn, 1, 0, 0)) rfl rfl).trans (rt_Z rfl)
set_option maxRecDepth 30000 in
theorem w254_192 {v0 : AV} {v1 : AV} {v2 : AV} {v3 : AV} {v4 : AV} {p5 : Int32} {ls : List AV} : wp C 254 (n + 1) 192 (v0 :: v1 :: v2 :: v3 :: v4 :: aI p5 :: ls) [] M b = (wp C 254 n 194 (v0 :: v1 :: v2 :: v3 :: v4 :: aI p5 :: ls) [aI p5] M b) := (wp_s rfl rfl).trans rfl
set_option maxRecDepth 30000 in
theorem w254_194 {x0 : Int32} {ls : List AV} : wp C 254 (n + 1) 194 ls [aI x0] M b = ((x0.toInt = 0 → wp C 254 n 197 ls [] M b) ∧ (¬ x0.toInt = 0 → wp C 254 n 209 ls [] M b)) := (wp_s (x := (.ifCond .ne 15, 3, 209, 0)) rfl rfl).trans zne
set_option maxRecDepth 30000 in
theorem w254_197 {v0 : AV} {v1 : AV} {v2 : AV} {o3 : Option Nat} {ls : List AV} : wp C 254 (n + 1) 197 (v0 :: v1 :: v2 :: aR o3 :: ls) [] M b = (wp C 254 n 198 (v0 :: v1 :: v2 :: aR o3 :: ls) [aR o3] M b) := (wp_s rfl rfl).trans rfl
set_option maxRecDepth 30000 in
theorem w254_198 {r0 : Option Nat} {ls : List AV} : wp C 254 (n + 1) 198 ls [aR r0] M b = (wp C 254 n 199 ls [aI (iZ 0), aR r0] M b) := (wp_s rfl rfl).trans rfl
set_option maxRecDepth 30000 in
theorem w254_199 {x0 : Int32} {a1 : Nat} {ls : List AV} : wp C 254 (n + 1) 199 ls [aI x0, aR (some a1)] M b = (iA M a1 21 x0 ∧ wp C 254 n 200 ls [aL (mJ M a1 (iN x0))] M b) := (wp_s rfl rfl).trans rfl
set_option maxRecDepth 30000 in
theorem w254_200 {v0 : AV} {v1 : AV} {v2 : AV} {v3 : AV} {v4 : AV} {v5 : AV} {p6 : Int32} {y0 : Int64} {ls : List AV} : wp C 254 (n + 1) 200 (v0 :: v1 :: v2 :: v3 :: v4 :: v5 :: aI p6 :: ls) [aL y0] M b = (wp C 254 n 202 (v0 :: v1 :: v2 :: v3 :: v4 :: v5 :: aI p6 :: ls) [aI p6, aL y0] M b) := (wp_s rfl rfl).trans rfl
set_option maxRecDepth 30000 in
theorem w254_202 {x0 : Int32} {y1 : Int64} {ls : List AV} : wp C 254 (n + 1) 202 ls [aI x0, aL y1] M b = (wp C 254 n 203 ls [aL x0.toInt64, aL y1] M b) := (wp_s rfl rfl).trans rfl
set_option maxRecDepth 30000 in
theorem w254_203 {y0 : Int64} {y1 : Int64} {ls : List AV} : wp C 254 (n + 1) 203 ls [aL y0, aL y1] M b = (wp C 254 n 204 ls [aI (lg_cmp y1 y0)] M b) := (wp_s rfl rfl).trans rfl
set_option maxRecDepth 30000 in
theorem w254_204 {x0 : Int32} {ls : List AV} : wp C 254 (n + 1) 204 ls [aI x0] M b = ((x0.toInt = 0 → wp C 254 n 209 ls [] M b) ∧ (¬ x0.toInt = 0 → wp C 254 n 207 ls [] M b)) := (wp_s (x := (.ifCond .eq 5, 3, 209, 0)) rfl rfl).trans zeq
set_option maxRecDepth 30000 in
theorem w254_207 {ls : List AV} : wp C 254 (n + 1) 207 ls [] M b = (wp C 254 n 208 ls [aI (iZ 0)] M b) := (wp_s rfl rfl).trans rfl
set_option maxRecDepth 30000 in
theorem w254_208 {x0 : Int32} {ls : List AV} : wp C 254 (n + 1) 208 ls [aI x0] M b = (isB x0 ∧ cQ C (some (aI x0)) M) := (wp_s (x := (.ireturn, 1, 0, 0)) rfl rfl).trans (rt_Z rfl)
set_option maxRecDepth 30000 in
theorem w254_209 {ls : List AV} : wp C 254 (n + 1) 209 ls [] M b = (wp C 254 n 1838 ls [] M b) := (wp_s rfl rfl).trans rfl
set_option maxRecDepth 30000 in
theorem w254_212 {v0 : AV} {o1 : Option Nat} {ls : List AV} : wp C 254 (n + 1) 212 (v0 :: aR o1 :: ls) [] M b = (wp C 254 n 213 (v0 :: aR o1 :: ls) [aR o1] M b) := (wp_s rfl rfl).trans rfl
set_option maxRecDepth 30000 in
theorem w254_213 {o0 : Option Nat} {r0 : Option Nat} {ls : List AV} : wp C 254 (n + 1) 213 (aR o0 :: ls) [aR r0] M b = (wp C 254 n 214 (aR o0 :: ls) [aR o0, aR r0] M b) := (wp_s rfl rfl).trans rfl
set_option maxRecDepth 30000 in
theorem w254_214 {v0 : AV} {v1 : AV} {v2 : AV} {v3 : AV} {p4 : Int32} {r0 : Option Nat} {r1 : Option Nat} {ls : List AV} : wp C 254 (n + 1) 214 (v0 :: v1 :: v2 :: v3 :: aI p4 :: ls) [aR r0, aR r1] M b = (wp C 254 n 216 (v0 :: v1 :: v2 :: v3 :: aI p4 :: ls) [aI p4, aR r0, aR r1] M b) := (wp_s rfl rfl).trans rfl
set_option maxRecDepth 30000 in
theorem w254_216 {x0 : Int32} {r1 : Option Nat} {r2 : Option Nat} {ls : List AV} : wp C 254 (n + 1) 216 ls [aI x0, aR r1, aR r2] M b = (wp C 254 n 217 ls [aI (iZ 1), aI x0, aR r1, aR r2] M b) := (wp_s rfl rfl).trans rfl
set_option maxRecDepth 30000 in
theorem w254_217 {x0 : Int32} {x1 : Int32} {r2 : Option Nat} {r3 : Option Nat} {ls : List AV} : wp C 254 (n + 1) 217 ls [aI x0, aI x1, aR r2, aR r3] M b = (wp C 254 n 218 ls [aI (x1 + x0), aR r2, aR r3] M b) := (wp_s rfl rfl).trans rfl
set_option maxRecDepth 30000 in
theorem w254_218 {x0 : Int32} {a1 : Nat} {r2 : Option Nat} {ls : List AV} : wp C 254 (n + 1) 218 ls [aI x0, aR (some a1), aR r2] M b = ((a1 = 60 ∧ inb x0 (cL C)) ∧ wp C 254 n 219 ls [aI (cS C (iN x0)), aR r2] M b) := (wp_s rfl rfl).trans rfl
set_option maxRecDepth 30000 in
theorem w254_219 {o0 : Option Nat} {x0 : Int32} {r1 : Option Nat} {ls : List AV} : wp C 254 (n + 1) 219 (aR o0 :: ls) [aI x0, aR r1] M b = (wp C 254 n 220 (aR o0 :: ls) [aR o0, aI x0, aR r1] M b) := (wp_s rfl rfl).trans rfl
set_option maxRecDepth 30000 in
theorem w254_220 {v0 : AV} {v1 : AV} {v2 : AV} {v3 : AV} {p4 : Int32} {r0 : Option Nat} {x1 : Int32} {r2 : Option Nat} {ls : List AV} : wp C 254 (n + 1) 220 (v0 :: v1 :: v2 :: v3 :: aI p4 :: ls) [aR r0, aI x1, aR r2] M b = (wp C 254 n 222 (v0 :: v1 :: v2 :: v3 :: aI p4 :: ls) [aI p4, aR r0, aI x1, aR r2] M b) := (wp_s rfl rfl).trans rfl
set_option maxRecDepth 30000 in
theorem w254_222 {x0 : Int32} {r1 : Option Nat} {x2 : Int32} {r3 : Option Nat} {ls : List AV} : wp C 254 (n + 1) 222 ls [aI x0, aR r1, aI x2, aR r3] M b = (wp C 254 n 223 ls [aI (iZ 2), aI x0, aR r1, aI x2, aR r3] M b) := (wp_s rfl rfl).trans rfl
set_option maxRecDepth 30000 in
theorem w254_223 {x0 : Int32} {x1 : Int32} {r2 : Option Nat} {x3 : Int32} {r4 : Option Nat} {ls : List AV} : wp C 254 (n + 1) 223 ls [aI x0, aI x1, aR r2, aI x3, aR r4] M b = (wp C 254 n 224 ls [aI (x1 + x0), aR r2, aI x3, aR r4] M b) := (wp_s rfl rfl).trans rfl
set_option maxRecDepth 30000 in
theorem w254_224 {x0 : Int32} {a1 : Nat} {x2 : Int32} {r3 : Option Nat} {ls : List AV} : wp C 254 (n + 1) 224 ls [aI x0, aR (some a1), aI x2, aR r3] M b = ((a1 = 60 ∧ inb x0 (cL C)) ∧ wp C 254 n 225 ls [aI (cS C (iN x0)), aI x2, aR r3] M b) := (wp_s rfl rfl).trans rfl
set_option maxRecDepth 30000 in
theorem w254_225 {o0 : Option Nat} {x0 : Int32} {x1 : Int32} {r2 : Option Nat} {ls : List AV} : wp C 254 (n + 1) 225 (aR o0 :: ls) [aI x0, aI x1, aR r2] M b = (wp C 254 n 226 (aR o0 :: ls) [aR o0, aI x0, aI x1, aR r2] M b) := (wp_s rfl rfl).trans rfl
set_option maxRecDepth 30000 in
theorem w254_226 {v0 : AV} {v1 : AV} {v2 : AV} {v3 : AV} {p4 : Int32} {r0 : Option Nat} {x1 : Int32} {x2 : Int32} {r3 : Option Nat} {ls : List AV} : wp C 254 (n + 1) 226 (v0 :: v1 :: v2 :: v3 :: aI p4 :: ls) [aR r0, aI x1, aI x2, aR r3] M b = (wp C 254 n 228 (v0 :: v1 :: v2 :: v3 :: aI p4 :: ls) [aI p4, aR r0, aI x1, aI x2, aR r3] M b) := (wp_s rfl rfl).trans rfl
set_option maxRecDepth 30000 in
theorem w254_228 {x0 : Int32} {r1 : Option Nat} {x2 : Int32} {x3 : Int32} {r4 : Option Nat} {ls : List AV} : wp C 254 (n + 1) 228 ls [aI x0, aR r1, aI x2, aI x3, aR r4] M b = (wp C 254 n 229 ls [aI (iZ 3), aI x0, aR r1, aI x2, aI x3, aR r4] M b) := (wp_s rfl rfl).trans rfl
set_option maxRecDepth 30000 in
theorem w254_229 {x0 : Int32} {x1 : Int32} {r2 : Option Nat} {x3 : Int32} {x4 : Int32} {r5 : Option Nat} {ls : List AV} : wp C 254 (n + 1) 229 ls [aI x0, aI x1, aR r2, aI x3, aI x4, aR r5] M b = (wp C 254 n 230 ls [aI (x1 + x0), aR r2, aI x3, aI x4, aR r5] M b) := (wp_s rfl rfl).trans rfl
set_option maxRecDepth 30000 in
theorem w254_230 {x0 : Int32} {a1 : Nat} {x2 : Int32} {x3 : Int32} {r4 : Option Nat} {ls : List AV} : wp C 254 (n + 1) 230 ls [aI x0, aR (some a1), aI x2, aI x3, aR r4] M b = ((a1 = 60 ∧ inb x0 (cL C)) ∧ wp C 254 n 231 ls [aI (cS C (iN x0)), aI x2, aI x3, aR r4] M b) := (wp_s rfl rfl).trans rfl
set_option maxRecDepth 30000 in
theorem w254_231 {x0 : Int32} {x1 : Int32} {x2 : Int32} {a3 : Nat} {ls : List AV} : wp C 254 (n + 1) 231 ls [aI x0, aI x1, aI x2, aR (some a3)] M b = (oB M a3 11 ∧ CALL C 111 [aR (some a3), aI x2, aI x1, aI x0] M b (kR (wp C 254 n 234 ls) []) (cX C)) := (wp_s (x := (.invokevirtual 100, 3, 111, 3)) rfl rfl).trans (cv_row (by decide) (Nat.le_of_ble_eq_true rfl) (Nat.le_of_ble_eq_true rfl) rfl)
set_option maxRecDepth 30000 in
theorem w254_234 {v0 : AV} {v1 : AV} {o2 : Option Nat} {x0 : Int32} {ls : List AV} : wp C 254 (n + 1) 234 (v0 :: v1 :: aR o2 :: ls) [aI x0] M b = (wp C 254 n 235 (v0 :: v1 :: aR o2 :: ls) [aR o2, aI x0] M b) := (wp_s rfl rfl).trans rfl
set_option maxRecDepth 30000 in
theorem w254_235 {o0 : Option Nat} {r0 : Option Nat} {x1 : Int32} {ls : List AV} : wp C 254 (n + 1) 235 (aR o0 :: ls) [aR r0, aI x1] M b = (wp C 254 n 236 (aR o0 :: ls) [aR o0, aR r0, aI x1] M b) := (wp_s rfl rfl).trans rfl
set_option maxRecDepth 30000 in
theorem w254_236 {v0 : AV} {v1 : AV} {v2 : AV} {v3 : AV} {p4 : Int32} {r0 : Option Nat} {r1 : Option Nat} {x2 : Int32} {ls : List AV} : wp C 254 (n + 1) 236 (v0 :: v1 :: v2 :: v3 :: aI p4 :: ls) [aR r0, aR r1, aI x2] M b = (wp C 254 n 238 (v0 :: v1 :: v2 :: v3 :: aI p4 :: ls) [aI p4, aR r0, aR r1, aI x2] M b) := (wp_s rfl rfl).trans rfl
set_option maxRecDepth 30000 in
theorem w254_238 {x0 : Int32} {r1 : Option Nat} {r2 : Option Nat} {x3 : Int32} {ls : List AV} : wp C 254 (n + 1) 238 ls [aI x0, aR r1, aR r2, aI x3] M b = (wp C 254 n 239 ls [aI (iZ 1), aI x0, aR r1, aR r2, aI x3] M b) := (wp_s rfl rfl).trans rfl
set_option maxRecDepth 30000 in
theorem w254_239 {x0 : Int32} {x1 : Int32} {r2 : Option Nat} {r3 : Option Nat} {x4 : Int32} {ls : List AV} : wp C 254 (n + 1) 239 ls [aI x0, aI x1, aR r2, aR r3, aI x4] M b = (wp C 254 n 240 ls [aI (x1 + x0), aR r2, aR r3, aI x4] M b) := (wp_s rfl rfl).trans rfl
set_option maxRecDepth 30000 in
theorem w254_240 {x0 : Int32} {a1 : Nat} {r2 : Option Nat} {x3 : Int32} {ls : List AV} : wp C 254 (n + 1) 240 ls [aI x0, aR (some a1), aR r2, aI x3] M b = ((a1 = 60 ∧ inb x0 (cL C)) ∧ wp C 254 n 241 ls [aI (cS C (iN x0)), aR r2, aI x3] M b) := (wp_s rfl rfl).trans rfl
set_option maxRecDepth 30000 in
theorem w254_241 {o0 : Option Nat} {x0 : Int32} {r1 : Option Nat} {x2 : Int32} {ls : List AV} : wp C 254 (n + 1) 241 (aR o0 :: ls) [aI x0, aR r1, aI x2] M b = (wp C 254 n 242 (aR o0 :: ls) [aR o0, aI x0, aR r1, aI x2] M b) := (wp_s rfl rfl).trans rfl
set_option maxRecDepth 30000 in
theorem w254_242 {v0 : AV} {v1 : AV} {v2 : AV} {v3 : AV} {p4 : Int32} {r0 : Option Nat} {x1 : Int32} {r2 : Option Nat} {x3 : Int32} {ls : List AV} : wp C 254 (n + 1) 242 (v0 :: v1 :: v2 :: v3 :: aI p4 :: ls) [aR r0, aI x1, aR r2, aI x3] M b = (wp C 254 n 244 (v0 :: v1 :: v2 :: v3 :: aI p4 :: ls) [aI p4, aR r0, aI x1, aR r2, aI x3] M b) := (wp_s rfl rfl).trans rfl
set_option maxRecDepth 30000 in
theorem w254_244 {x0 : Int32} {r1 : Option Nat} {x2 : Int32} {r3 : Option Nat} {x4 : Int32} {ls : List AV} : wp C 254 (n + 1) 244 ls [aI x0, aR r1, aI x2, aR r3, aI x4] M b = (wp C 254 n 245 ls [aI (iZ 2), aI x0, aR r1, aI x2, aR r3, aI x4] M b) := (wp_s rfl rfl).trans rfl
set_option maxRecDepth 30000 in
theorem w254_245 {x0 : Int32} {x1 : Int32} {r2 : Option Nat} {x3 : Int32} {r4 : Option Nat} {x5 : Int32} {ls : List AV} : wp C 254 (n + 1) 245 ls [aI x0, aI x1, aR r2, aI x3, aR r4, aI x5] M b = (wp C 254 n 246 ls [aI (x1 + x0), aR r2, aI x3, aR r4, aI x5] M b) := (wp_s rfl rfl).trans rfl
set_option maxRecDepth 30000 in
theorem w254_246 {x0 : Int32} {a1 : Nat} {x2 : Int32} {r3 : Option Nat} {x4 : Int32} {ls : List AV} : wp C 254 (n + 1) 246 ls [aI x0, aR (some a1), aI x2, aR r3, aI x4] M b = ((a1 = 60 ∧ inb x0 (cL C)) ∧ wp C 254 n 247 ls [aI (cS C (iN x0)), aI x2, aR r3, aI x4] M b) := (wp_s rfl rfl).trans rfl
set_option maxRecDepth 30000 in
theorem w254_247 {o0 : Option Nat} {x0 : Int32} {x1 : Int32} {r2 : Option Nat} {x3 : Int32} {ls : List AV} : wp C 254 (n + 1) 247 (aR o0 :: ls) [aI x0, aI x1, aR r2, aI x3] M b = (wp C 254 n 248 (aR o0 :: ls) [aR o0, aI x0, aI x1, aR r2, aI x3] M b) := (wp_s rfl rfl).trans rfl
set_option maxRecDepth 30000 in
theorem w254_248 {v0 : AV} {v1 : AV} {v2 : AV} {v3 : AV} {p4 : Int32} {r0 : Option Nat} {x1 : Int32} {x2 : Int32} {r3 : Option Nat} {x4 : Int32} {ls : List AV} : wp C 254 (n + 1) 248 (v0 :: v1 :: v2 :: v3 :: aI p4 :: ls) [aR r0, aI x1, aI x2, aR r3, aI x4] M b = (wp C 254 n 250 (v0 :: v1 :: v2 :: v3 :: aI p4 :: ls) [aI p4, aR r0, aI x1, aI x2, aR r3, aI x4] M b) := (wp_s rfl rfl).trans rfl
set_option maxRecDepth 30000 in
theorem w254_250 {x0 : Int32} {r1 : Option Nat} {x2 : Int32} {x3 : Int32} {r4 : Option Nat} {x5 : Int32} {ls : List AV} : wp C 254 (n + 1) 250 ls [aI x0, aR r1, aI x2, aI x3, aR r4, aI x5] M b = (wp C 254 n 251 ls [aI (iZ 3), aI x0, aR r1, aI x2, aI x3, aR r4, aI x5] M b) := (wp_s rfl rfl).trans rfl
set_option maxRecDepth 30000 in
theorem w254_251 {x0 : Int32} {x1 : Int32} {r2 : Option Nat} {x3 : Int32} {x4 : Int32} {r5 : Option Nat} {x6 : Int32} {ls : List AV} : wp C 254 (n + 1) 251 ls [aI x0, aI x1, aR r2, aI x3, aI x4, aR r5, aI x6] M b = (wp C 254 n 252 ls [aI (x1 + x0), aR r2, aI x3, aI x4, aR r5, aI x6] M b) := (wp_s rfl rfl).trans rfl
set_option maxRecDepth 30000 in
theorem w254_252 {x0 : Int32} {a1 : Nat} {x2 : Int32} {x3 : Int32} {r4 : Option Nat} {x5 : Int32} {ls : List AV} : wp C 254 (n + 1) 252 ls [aI x0, aR (some a1), aI x2, aI x3, aR r4, aI x5] M b = ((a1 = 60 ∧ inb x0 (cL C)) ∧ wp C 254 n 253 ls [aI (cS C (iN x0)), aI x2, aI x3, aR r4, aI x5] M b) := (wp_s rfl rfl).trans rfl
set_option maxRecDepth 30000 in
theorem w254_253 {x0 : Int32} {x1 : Int32} {x2 : Int32} {a3 : Nat} {x4 : Int32} {ls : List AV} : wp C 254 (n + 1) 253 ls [aI x0, aI x1, aI x2, aR (some a3), aI x4] M b = (oB M a3 12 ∧ CALL C 22 [aR (some a3), aI x2, aI x1, aI x0] M b (kR (wp C 254 n 256 ls) [aI x4]) (cX C)) := (wp_s (x := (.invokevirtual 103, 3, 22, 3)) rfl rfl).trans (cv_row (by decide) (Nat.le_of_ble_eq_true rfl) (Nat.le_of_ble_eq_true rfl) rfl)
set_option maxRecDepth 30000 in
theorem w254_256 {x0 : Int32} {x1 : Int32} {ls : List AV} : wp C 254 (n + 1) 256 ls [aI x0, aI x1] M b = ((x1.toInt = x0.toInt → wp C 254 n 1838 ls [] M b) ∧ (¬ x1.toInt = x0.toInt → wp C 254 n 259 ls [] M b)) := (wp_s (x := (.if_icmp .eq 1582, 3, 1838, 0)) rfl rfl).trans ceq
set_option maxRecDepth 30000 in
theorem w254_259 {ls : List AV} : wp C 254 (n + 1) 259 ls [] M b = (wp C 254 n 260 ls [aI (iZ 0)] M b) := (wp_s rfl rfl).trans rfl
set_option maxRecDepth 30000 in
theorem w254_260 {x0 : Int32} {ls : List AV} : wp C 254 (n + 1) 260 ls [aI x0] M b = (isB x0 ∧ cQ C (some (aI x0)) M) := (wp_s (x := (.ireturn, 1, 0, 0)) rfl rfl).trans (rt_Z rfl)
set_option maxRecDepth 30000 in
theorem w254_261 {v0 : AV} {o1 : Option Nat} {ls : List AV} : wp C 254 (n + 1) 261 (v0 :: aR o1 :: ls) [] M b = (wp C 254 n 262 (v0 :: aR o1 :: ls) [aR o1] M b) := (wp_s rfl rfl).trans rfl
set_option maxRecDepth 30000 in
theorem w254_262 {o0 : Option Nat} {r0 : Option Nat} {ls : List AV} : wp C 254 (n + 1) 262 (aR o0 :: ls) [aR r0] M b = (wp C 254 n 263 (aR o0 :: ls) [aR o0, aR r0] M b) := (wp_s rfl rfl).trans rfl
set_option maxRecDepth 30000 in
theorem w254_263 {v0 : AV} {v1 : AV} {v2 : AV} {v3 : AV} {p4 : Int32} {r0 : Option Nat} {r1 : Option Nat} {ls : List AV} : wp C 254 (n + 1) 263 (v0 :: v1 :: v2 :: v3 :: aI p4 :: ls) [aR r0, aR r1] M b = (wp C 254 n 265 (v0 :: v1 :: v2 :: v3 :: aI p4 :: ls) [aI p4, aR r0, aR r1] M b) := (wp_s rfl rfl).trans rfl
set_option maxRecDepth 30000 in
theorem w254_265 {x0 : Int32} {r1 : Option Nat} {r2 : Option Nat} {ls : List AV} : wp C 254 (n + 1) 265 ls [aI x0, aR r1, aR r2] M b = (wp C 254 n 266 ls [aI (iZ 1), aI x0, aR r1, aR r2] M b) := (wp_s rfl rfl).trans rfl
set_option maxRecDepth 30000 in
theorem w254_266 {x0 : Int32} {x1 : Int32} {r2 : Option Nat} {r3 : Option Nat} {ls : List AV} : wp C 254 (n + 1) 266 ls [aI x0, aI x1, aR r2, aR r3] M b = (wp C 254 n 267 ls [aI (x1 + x0), aR r2, aR r3] M b) := (wp_s rfl rfl).trans rfl
set_option maxRecDepth 30000 in
theorem w254_267 {x0 : Int32} {a1 : Nat} {r2 : Option Nat} {ls : List AV} : wp C 254 (n + 1) 267 ls [aI x0, aR (some a1), aR r2] M b = ((a1 = 60 ∧ inb x0 (cL C)) ∧ wp C 254 n 268 ls [aI (cS C (iN x0)), aR r2] M b) := (wp_s rfl rfl).trans rfl
set_option maxRecDepth 30000 in
theorem w254_268 {o0 : Option Nat} {x0 : Int32} {r1 : Option Nat} {ls : List AV} : wp C 254 (n + 1) 268 (aR o0 :: ls) [aI x0, aR r1] M b = (wp C 254 n 269 (aR o0 :: ls) [aR o0, aI x0, aR r1] M b) := (wp_s rfl rfl).trans rfl
set_option maxRecDepth 30000 in
theorem w254_269 {v0 : AV} {v1 : AV} {v2 : AV} {v3 : AV} {p4 : Int32} {r0 : Option Nat} {x1 : Int32} {r2 : Option Nat} {ls : List AV} : wp C 254 (n + 1) 269 (v0 :: v1 :: v2 :: v3 :: aI p4 :: ls) [aR r0, aI x1, aR r2] M b = (wp C 254 n 271 (v0 :: v1 :: v2 :: v3 :: aI p4 :: ls) [aI p4, aR r0, aI x1, aR r2] M b) := (wp_s rfl rfl).trans rfl
set_option maxRecDepth 30000 in
theorem w254_271 {x0 : Int32} {r1 : Option Nat} {x2 : Int32} {r3 : Option Nat} {ls : List AV} : wp C 254 (n + 1) 271 ls [aI x0, aR r1, aI x2, aR r3] M b = (wp C 254 n 272 ls [aI (iZ 2), aI x0, aR r1, aI x2, aR r3] M b) := (wp_s rfl rfl).trans rfl
set_option maxRecDepth 30000 in
theorem w254_272 {x0 : Int32} {x1 : Int32} {r2 : Option Nat} {x3 : Int32} {r4 : Option Nat} {ls : List AV} : wp C 254 (n + 1) 272 ls [aI x0, aI x1, aR r2, aI x3, aR r4] M b = (wp C 254 n 273 ls [aI (x1 + x0), aR r2, aI x3, aR r4] M b) := (wp_s rfl rfl).trans rfl
set_option maxRecDepth 30000 in
theorem w254_273 {x0 : Int32} {a1 : Nat} {x2 : Int32} {r3 : Option Nat} {ls : List AV} : wp C 254 (n + 1) 273 ls [aI x0, aR (some a1), aI x2, aR r3] M b = ((a1 = 60 ∧ inb x0 (cL C)) ∧ wp C 254 n 274 ls [aI (cS C (iN x0)), aI x2, aR r3] M b) := (wp_s rfl rfl).trans rfl
set_option maxRecDepth 30000 in
theorem w254_274 {v0 : AV} {v1 : AV} {v2 : AV} {o3 : Option Nat} {x0 : Int32} {x1 : Int32} {r2 : Option Nat} {ls : List AV} : wp C 254 (n + 1) 274 (v0 :: v1 :: v2 :: aR o3 :: ls) [aI x0, aI x1, aR r2] M b = (wp C 254 n 275 (v0 :: v1 :: v2 :: aR o3 :: ls) [aR o3, aI x0, aI x1, aR r2] M b) := (wp_s rfl rfl).trans rfl
set_option maxRecDepth 30000 in
theorem w254_275 {r0 : Option Nat} {x1 : Int32} {x2 : Int32} {r3 : Option Nat} {ls : List AV} : wp C 254 (n + 1) 275 ls [aR r0, aI x1, aI x2, aR r3] M b = (CALL C 234 [aR r3, aI x2, aI x1, aR r0] M b (kR (wp C 254 n 278 ls) []) (cX C)) := (wp_s (x := (.invokestatic 104, 3, 234, 4)) rfl rfl).trans (cs_row (by decide) (Nat.le_of_ble_eq_true rfl) (Nat.le_of_ble_eq_true rfl))
set_option maxRecDepth 30000 in
theorem w254_278 {v0 : AV} {v1 : AV} {v2 : AV} {v3 : AV} {p4 : Int32} {v5 : AV} {x0 : Int32} {ls : List AV} : wp C 254 (n + 1) 278 (v0 :: v1 :: v2 :: v3 :: aI p4 :: v5 :: ls) [aI x0] M b = (wp C 254 n 280 (v0 :: v1 :: v2 :: v3 :: aI p4 :: aI x0 :: ls) [] M b) := (wp_s rfl rfl).trans rfl
set_option maxRecDepth 30000 in
theorem w254_280 {v0 : AV} {v1 : AV} {o2 : Option Nat} {ls : List AV} : wp C 254 (n + 1) 280 (v0 :: v1 :: aR o2 :: ls) [] M b = (wp C 254 n 281 (v0 :: v1 :: aR o2 :: ls) [aR o2] M b) := (wp_s rfl rfl).trans rfl
set_option maxRecDepth 30000 in
theorem w254_281 {o0 : Option Nat} {r0 : Option Nat} {ls : List AV} : wp C 254 (n + 1) 281 (aR o0 :: ls) [aR r0] M b = (wp C 254 n 282 (aR o0 :: ls) [aR o0, aR r0] M b) := (wp_s rfl rfl).trans rfl
set_option maxRecDepth 30000 in
theorem w254_282 {v0 : AV} {v1 : AV} {v2 : AV} {v3 : AV} {p4 : Int32} {r0 : Option Nat} {r1 : Option Nat} {ls : List AV} : wp C 254 (n + 1) 282 (v0 :: v1 :: v2 :: v3 :: aI p4 :: ls) [aR r0, aR r1] M b = (wp C 254 n 284 (v0 :: v1 :: v2 :: v3 :: aI p4 :: ls) [aI p4, aR r0, aR r1] M b) := (wp_s rfl rfl).trans rfl
set_option maxRecDepth 30000 in
theorem w254_284 {x0 : Int32} {r1 : Option Nat} {r2 : Option Nat} {ls : List AV} : wp C 254 (n + 1) 284 ls [aI x0, aR r1, aR r2] M b = (wp C 254 n 285 ls [aI (iZ 1), aI x0, aR r1, aR r2] M b) := (wp_s rfl rfl).trans rfl
set_option maxRecDepth 30000 in
theorem w254_285 {x0 : Int32} {x1 : Int32} {r2 : Option Nat} {r3 : Option Nat} {ls : List AV} : wp C 254 (n + 1) 285 ls [aI x0, aI x1, aR r2, aR r3] M b = (wp C 254 n 286 ls [aI (x1 + x0), aR r2, aR r3] M b) := (wp_s rfl rfl).trans rfl
set_option maxRecDepth 30000 in
theorem w254_286 {x0 : Int32} {a1 : Nat} {r2 : Option Nat} {ls : List AV} : wp C 254 (n + 1) 286 ls [aI x0, aR (some a1), aR r2] M b = ((a1 = 60 ∧ inb x0 (cL C)) ∧ wp C 254 n 287 ls [aI (cS C (iN x0)), aR r2] M b) := (wp_s rfl rfl).trans rfl
set_option maxRecDepth 30000 in
theorem w254_287 {o0 : Option Nat} {x0 : Int32} {r1 : Option Nat} {ls : List AV} : wp C 254 (n + 1) 287 (aR o0 :: ls) [aI x0, aR r1] M b = (wp C 254 n 288 (aR o0 :: ls) [aR o0, aI x0, aR r1] M b) := (wp_s rfl rfl).trans rfl
set_option maxRecDepth 30000 in
theorem w254_288 {v0 : AV} {v1 : AV} {v2 : AV} {v3 : AV} {p4 : Int32} {r0 : Option Nat} {x1 : Int32} {r2 : Option Nat} {ls : List AV} : wp C 254 (n + 1) 288 (v0 :: v1 :: v2 :: v3 :: aI p4 :: ls) [aR r0, aI x1, aR r2] M b = (wp C 254 n 290 (v0 :: v1 :: v2 :: v3 :: aI p4 :: ls) [aI p4, aR r0, aI x1, aR r2] M b) := (wp_s rfl rfl).trans rfl
set_option maxRecDepth 30000 in
theorem w254_290 {x0 : Int32} {r1 : Option Nat} {x2 : Int32} {r3 : Option Nat} {ls : List AV} : wp C 254 (n + 1) 290 ls [aI x0, aR r1, aI x2, aR r3] M b = (wp C 254 n 291 ls [aI (iZ 2), aI x0, aR r1, aI x2, aR r3] M b) := (wp_s rfl rfl).trans rfl
set_option maxRecDepth 30000 in
theorem w254_291 {x0 : Int32} {x1 : Int32} {r2 : Option Nat} {x3 : Int32} {r4 : Option Nat} {ls : List AV} : wp C 254 (n + 1) 291 ls [aI x0, aI x1, aR r2, aI x3, aR r4] M b = (wp C 254 n 292 ls [aI (x1 + x0), aR r2, aI x3, aR r4] M b) := (wp_s rfl rfl).trans rfl
set_option maxRecDepth 30000 in
theorem w254_292 {x0 : Int32} {a1 : Nat} {x2 : Int32} {r3 : Option Nat} {ls : List AV} : wp C 254 (n + 1) 292 ls [aI x0, aR (some a1), aI x2, aR r3] M b = ((a1 = 60 ∧ inb x0 (cL C)) ∧ wp C 254 n 293 ls [aI (cS C (iN x0)), aI x2, aR r3] M b) := (wp_s rfl rfl).trans rfl
set_option maxRecDepth 30000 in
theorem w254_293 {x0 : Int32} {x1 : Int32} {a2 : Nat} {ls : List AV} : wp C 254 (n + 1) 293 ls [aI x0, aI x1, aR (some a2)] M b = (oB M a2 12 ∧ CALL C 23 [aR (some a2), aI x1, aI x0] M b (kR (wp C 254 n 296 ls) []) (cX C)) := (wp_s (x := (.invokevirtual 107, 3, 23, 2)) rfl rfl).trans (cv_row (by decide) (Nat.le_of_ble_eq_true rfl) (Nat.le_of_ble_eq_true rfl) rfl)
set_option maxRecDepth 30000 in
theorem w254_296 {v0 : AV} {v1 : AV} {v2 : AV} {v3 : AV} {v4 : AV} {p5 : Int32} {v6 : AV} {v7 : AV} {y0 : Int64} : wp C 254 (n + 1) 296 [v0, v1, v2, v3, v4, aI p5, v6, v7] [aL y0] M b = (wp C 254 n 298 [v0, v1, v2, v3, v4, aI p5, aL y0, aU] [] M b) := (wp_s rfl rfl).trans rfl
set_option maxRecDepth 30000 in
theorem w254_298 {v0 : AV} {v1 : AV} {o2 : Option Nat} {ls : List AV} : wp C 254 (n + 1) 298 (v0 :: v1 :: aR o2 :: ls) [] M b = (wp C 254 n 299 (v0 :: v1 :: aR o2 :: ls) [aR o2] M b) := (wp_s rfl rfl).trans rfl
set_option maxRecDepth 30000 in
theorem w254_299 {a0 : Nat} {ls : List AV} : wp C 254 (n + 1) 299 ls [aR (some a0)] M b = (oB M a0 12 ∧ CALL C 19 [aR (some a0)] M b (kR (wp C 254 n 302 ls) []) (cX C)) := (wp_s (x := (.invokevirtual 96, 3, 19, 0)) rfl rfl).trans (cv_row (by decide) (Nat.le_of_ble_eq_true rfl) (Nat.le_of_ble_eq_true rfl) rfl)
set_option maxRecDepth 30000 in
theorem w254_302 {v0 : AV} {v1 : AV} {v2 : AV} {v3 : AV} {v4 : AV} {p5 : Int32} {x0 : Int32} {ls : List AV} : wp C 254 (n + 1) 302 (v0 :: v1 :: v2 :: v3 :: v4 :: aI p5 :: ls) [aI x0] M b = (wp C 254 n 304 (v0 :: v1 :: v2 :: v3 :: v4 :: aI p5 :: ls) [aI p5, aI x0] M b) := (wp_s rfl rfl).trans rfl
set_option maxRecDepth 30000 in
theorem w254_304 {x0 : Int32} {x1 : Int32} {ls : List AV} : wp C 254 (n + 1) 304 ls [aI x0, aI x1] M b = ((x1.toInt = x0.toInt → wp C 254 n 309 ls [] M b) ∧ (¬ x1.toInt = x0.toInt → wp C 254 n 307 ls [] M b)) := (wp_s (x := (.if_icmp .eq 5, 3, 309, 0)) rfl rfl).trans ceq
set_option maxRecDepth 30000 in
theorem w254_307 {ls : List AV} : wp C 254 (n + 1) 307 ls [] M b = (wp C 254 n 308 ls [aI (iZ 0)] M b) := (wp_s rfl rfl).trans rfl
set_option maxRecDepth 30000 in
theorem w254_308 {x0 : Int32} {ls : List AV} : wp C 254 (n + 1) 308 ls [aI x0] M b = (isB x0 ∧ cQ C (some (aI x0)) M) := (wp_s (x := (.ireturn, 1, 0, 0)) rfl rfl).trans (rt_Z rfl)
set_option maxRecDepth 30000 in
theorem w254_309 {v0 : AV} {v1 : AV} {v2 : AV} {v3 : AV} {v4 : AV} {p5 : Int32} {ls : List AV} : wp C 254 (n + 1) 309 (v0 :: v1 :: v2 :: v3 :: v4 :: aI p5 :: ls) [] M b = (wp C 254 n 311 (v0 :: v1 :: v2 :: v3 :: v4 :: aI p5 :: ls) [aI p5] M b) := (wp_s rfl rfl).trans rfl
set_option maxRecDepth 30000 in
theorem w254_311 {x0 : Int32} {ls : List AV} : wp C 254 (n + 1) 311 ls [aI x0] M b = ((x0.toInt = 0 → wp C 254 n 314 ls [] M b) ∧ (¬ x0.toInt = 0 → wp C 254 n 325 ls [] M b)) := (wp_s (x := (.ifCond .ne 14, 3, 325, 0)) rfl rfl).trans zne
set_option maxRecDepth 30000 in
theorem w254_314 {v0 : AV} {v1 : AV} {v2 : AV} {o3 : Option Nat} {ls : List AV} : wp C 254 (n + 1) 314 (v0 :: v1 :: v2 :: aR o3 :: ls) [] M b = (wp C 254 n 315 (v0 :: v1 :: v2 :: aR o3 :: ls) [aR o3] M b) := (wp_s rfl rfl).trans rfl
set_option maxRecDepth 30000 in
theorem w254_315 {r0 : Option Nat} {ls : List AV} : wp C 254 (n + 1) 315 ls [aR r0] M b = (wp C 254 n 316 ls [aI (iZ 0), aR r0] M b) := (wp_s rfl rfl).trans rfl
set_option maxRecDepth 30000 in
theorem w254_316 {x0 : Int32} {a1 : Nat} {ls : List AV} : wp C 254 (n + 1) 316 ls [aI x0, aR (some a1)] M b = (iA M a1 21 x0 ∧ wp C 254 n 317 ls [aL (mJ M a1 (iN x0))] M b) := (wp_s rfl rfl).trans rfl
set_option maxRecDepth 30000 in
theorem w254_317 {v0 : AV} {v1 : AV} {v2 : AV} {v3 : AV} {v4 : AV} {v5 : AV} {q6 : Int64} {y0 : Int64} {ls : List AV} : wp C 254 (n + 1) 317 (v0 :: v1 :: v2 :: v3 :: v4 :: v5 :: aL q6 :: ls) [aL y0] M b = (wp C 254 n 319 (v0 :: v1 :: v2 :: v3 :: v4 :: v5 :: aL q6 :: ls) [aL q6, aL y0] M b) := (wp_s rfl rfl).trans rfl
set_option maxRecDepth 30000 in
theorem w254_319 {y0 : Int64} {y1 : Int64} {ls : List AV} : wp C 254 (n + 1) 319 ls [aL y0, aL y1] M b = (wp C 254 n 320 ls [aI (lg_cmp y1 y0)] M b) := (wp_s rfl rfl).trans rfl
set_option maxRecDepth 30000 in
theorem w254_320 {x0 : Int32} {ls : List AV} : wp C 254 (n + 1) 320 ls [aI x0] M b = ((x0.toInt = 0 → wp C 254 n 325 ls [] M b) ∧ (¬ x0.toInt = 0 → wp C 254 n 323 ls [] M b)) := (wp_s (x := (.ifCond .eq 5, 3, 325, 0)) rfl rfl).trans zeq
set_option maxRecDepth 30000 in
theorem w254_323 {ls : List AV} : wp C 254 (n + 1) 323 ls [] M b = (wp C 254 n 324 ls [aI (iZ 0)] M b) := (wp_s rfl rfl).trans rfl
set_option maxRecDepth 30000 in
theorem w254_324 {x0 : Int32} {ls : List AV} : wp C 254 (n + 1) 324 ls [aI x0] M b = (isB x0 ∧ cQ C (some (aI x0)) M) := (wp_s (x := (.ireturn, 1, 0, 0)) rfl rfl).trans (rt_Z rfl)
set_option maxRecDepth 30000 in
theorem w254_325 {ls : List AV} : wp C 254 (n + 1) 325 ls [] M b = (wp C 254 n 1838 ls [] M b) := (wp_s rfl rfl).trans rfl
set_option maxRecDepth 30000 in
theorem w254_328 {v0 : AV} {o1 : Option Nat} {ls : List AV} : wp C 254 (n + 1) 328 (v0 :: aR o1 :: ls) [] M b = (wp C 254 n 329 (v0 :: aR o1 :: ls) [aR o1] M b) := (wp_s rfl rfl).trans rfl
set_option maxRecDepth 30000 in
theorem w254_329 {o0 : Option Nat} {r0 : Option Nat} {ls : List AV} : wp C 254 (n + 1) 329 (aR o0 :: ls) [aR r0] M b = (wp C 254 n 330 (aR o0 :: ls) [aR o0, aR r0] M b) := (wp_s rfl rfl).trans rfl
set_option maxRecDepth 30000 in
theorem w254_330 {v0 : AV} {v1 : AV} {v2 : AV} {v3 : AV} {p4 : Int32} {r0 : Option Nat} {r1 : Option Nat} {ls : List AV} : wp C 254 (n + 1) 330 (v0 :: v1 :: v2 :: v3 :: aI p4 :: ls) [aR r0, aR r1] M b = (wp C 254 n 332 (v0 :: v1 :: v2 :: v3 :: aI p4 :: ls) [aI p4, aR r0, aR r1] M b) := (wp_s rfl rfl).trans rfl
set_option maxRecDepth 30000 in
theorem w254_332 {x0 : Int32} {r1 : Option Nat} {r2 : Option Nat} {ls : List AV} : wp C 254 (n + 1) 332 ls [aI x0, aR r1, aR r2] M b = (wp C 254 n 333 ls [aI (iZ 1), aI x0, aR r1, aR r2] M b) := (wp_s rfl rfl).trans rfl
set_option maxRecDepth 30000 in
theorem w254_333 {x0 : Int32} {x1 : Int32} {r2 : Option Nat} {r3 : Option Nat} {ls : List AV} : wp C 254 (n + 1) 333 ls [aI x0, aI x1, aR r2, aR r3] M b = (wp C 254 n 334 ls [aI (x1 + x0), aR r2, aR r3] M b) := (wp_s rfl rfl).trans rfl
set_option maxRecDepth 30000 in
theorem w254_334 {x0 : Int32} {a1 : Nat} {r2 : Option Nat} {ls : List AV} : wp C 254 (n + 1) 334 ls [aI x0, aR (some a1), aR r2] M b = ((a1 = 60 ∧ inb x0 (cL C)) ∧ wp C 254 n 335 ls [aI (cS C (iN x0)), aR r2] M b) := (wp_s rfl rfl).trans rfl
set_option maxRecDepth 30000 in
theorem w254_335 {v0 : AV} {v1 : AV} {v2 : AV} {o3 : Option Nat} {x0 : Int32} {r1 : Option Nat} {ls : List AV} : wp C 254 (n + 1) 335 (v0 :: v1 :: v2 :: aR o3 :: ls) [aI x0, aR r1] M b = (wp C 254 n 336 (v0 :: v1 :: v2 :: aR o3 :: ls) [aR o3, aI x0, aR r1] M b) := (wp_s rfl rfl).trans rfl
set_option maxRecDepth 30000 in
theorem w254_336 {r0 : Option Nat} {x1 : Int32} {r2 : Option Nat} {ls : List AV} : wp C 254 (n + 1) 336 ls [aR r0, aI x1, aR r2] M b = (CALL C 235 [aR r2, aI x1, aR r0] M b (kR (wp C 254 n 339 ls) []) (cX C)) := (wp_s (x := (.invokestatic 108, 3, 235, 3)) rfl rfl).trans (cs_row (by decide) (Nat.le_of_ble_eq_true rfl) (Nat.le_of_ble_eq_true rfl))
set_option maxRecDepth 30000 in
theorem w254_339 {v0 : AV} {v1 : AV} {v2 : AV} {v3 : AV} {p4 : Int32} {v5 : AV} {x0 : Int32} {ls : List AV} : wp C 254 (n + 1) 339 (v0 :: v1 :: v2 :: v3 :: aI p4 :: v5 :: ls) [aI x0] M b = (wp C 254 n 341 (v0 :: v1 :: v2 :: v3 :: aI p4 :: aI x0 :: ls) [] M b) := (wp_s rfl rfl).trans rfl
set_option maxRecDepth 30000 in
theorem w254_341 {v0 : AV} {v1 : AV} {o2 : Option Nat} {ls : List AV} : wp C 254 (n + 1) 341 (v0 :: v1 :: aR o2 :: ls) [] M b = (wp C 254 n 342 (v0 :: v1 :: aR o2 :: ls) [aR o2] M b) := (wp_s rfl rfl).trans rfl
set_option maxRecDepth 30000 in
theorem w254_342 {o0 : Option Nat} {r0 : Option Nat} {ls : List AV} : wp C 254 (n + 1) 342 (aR o0 :: ls) [aR r0] M b = (wp C 254 n 343 (aR o0 :: ls) [aR o0, aR r0] M b) := (wp_s rfl rfl).trans rfl
set_option maxRecDepth 30000 in
theorem w254_343 {v0 : AV} {v1 : AV} {v2 : AV} {v3 : AV} {p4 : Int32} {r0 : Option Nat} {r1 : Option Nat} {ls : List AV} : wp C 254 (n + 1) 343 (v0 :: v1 :: v2 :: v3 :: aI p4 :: ls) [aR r0, aR r1] M b = (wp C 254 n 345 (v0 :: v1 :: v2 :: v3 :: aI p4 :: ls) [aI p4, aR r0, aR r1] M b) := (wp_s rfl rfl).trans rfl
set_option maxRecDepth 30000 in
theorem w254_345 {x0 : Int32} {r1 : Option Nat} {r2 : Option Nat} {ls : List AV} : wp C 254 (n + 1) 345 ls [aI x0, aR r1, aR r2] M b = (wp C 254 n 346 ls [aI (iZ 1), aI x0, aR r1, aR r2] M b) := (wp_s rfl rfl).trans rfl
set_option maxRecDepth 30000 in
theorem w254_346 {x0 : Int32} {x1 : Int32} {r2 : Option Nat} {r3 : Option Nat} {ls : List AV} : wp C 254 (n + 1) 346 ls [aI x0, aI x1, aR r2, aR r3] M b = (wp C 254 n 347 ls [aI (x1 + x0), aR r2, aR r3] M b) := (wp_s rfl rfl).trans rfl
set_option maxRecDepth 30000 in
theorem w254_347 {x0 : Int32} {a1 : Nat} {r2 : Option Nat} {ls : List AV} : wp C 254 (n + 1) 347 ls [aI x0, aR (some a1), aR r2] M b = ((a1 = 60 ∧ inb x0 (cL C)) ∧ wp C 254 n 348 ls [aI (cS C (iN x0)), aR r2] M b) := (wp_s rfl rfl).trans rfl
set_option maxRecDepth 30000 in
theorem w254_348 {x0 : Int32} {a1 : Nat} {ls : List AV} : wp C 254 (n + 1) 348 ls [aI x0, aR (some a1)] M b = (oB M a1 12 ∧ CALL C 24 [aR (some a1), aI x0] M b (kR (wp C 254 n 351 ls) []) (cX C)) := (wp_s (x := (.invokevirtual 110, 3, 24, 1)) rfl rfl).trans (cv_row (by decide) (Nat.le_of_ble_eq_true rfl) (Nat.le_of_ble_eq_true rfl) rfl)
set_option maxRecDepth 30000 in
theorem w254_351 {v0 : AV} {v1 : AV} {v2 : AV} {v3 : AV} {v4 : AV} {p5 : Int32} {v6 : AV} {v7 : AV} {y0 : Int64} : wp C 254 (n + 1) 351 [v0, v1, v2, v3, v4, aI p5, v6, v7] [aL y0] M b = (wp C 254 n 353 [v0, v1, v2, v3, v4, aI p5, aL y0, aU] [] M b) := (wp_s rfl rfl).trans rfl
set_option maxRecDepth 30000 in
theorem w254_353 {v0 : AV} {v1 : AV} {o2 : Option Nat} {ls : List AV} : wp C 254 (n + 1) 353 (v0 :: v1 :: aR o2 :: ls) [] M b = (wp C 254 n 354 (v0 :: v1 :: aR o2 :: ls) [aR o2] M b) := (wp_s rfl rfl).trans rfl
set_option maxRecDepth 30000 in
theorem w254_354 {a0 : Nat} {ls : List AV} : wp C 254 (n + 1) 354 ls [aR (some a0)] M b = (oB M a0 12 ∧ CALL C 19 [aR (some a0)] M b (kR (wp C 254 n 357 ls) []) (cX C)) := (wp_s (x := (.invokevirtual 96, 3, 19, 0)) rfl rfl).trans (cv_row (by decide) (Nat.le_of_ble_eq_true rfl) (Nat.le_of_ble_eq_true rfl) rfl)
set_option maxRecDepth 30000 in
theorem w254_357 {v0 : AV} {v1 : AV} {v2 : AV} {v3 : AV} {v4 : AV} {p5 : Int32} {x0 : Int32} {ls : List AV} : wp C 254 (n + 1) 357 (v0 :: v1 :: v2 :: v3 :: v4 :: aI p5 :: ls) [aI x0] M b = (wp C 254 n 359 (v0 :: v1 :: v2 :: v3 :: v4 :: aI p5 :: ls) [aI p5, aI x0] M b) := (wp_s rfl rfl).trans rfl
set_option maxRecDepth 30000 in
theorem w254_359 {x0 : Int32} {x1 : Int32} {ls : List AV} : wp C 254 (n + 1) 359 ls [aI x0, aI x1] M b = ((x1.toInt = x0.toInt → wp C 254 n 364 ls [] M b) ∧ (¬ x1.toInt = x0.toInt → wp C 254 n 362 ls [] M b)) := (wp_s (x := (.if_icmp .eq 5, 3, 364, 0)) rfl rfl).trans ceq
set_option maxRecDepth 30000 in
theorem w254_362 {ls : List AV} : wp C 254 (n + 1) 362 ls [] M b = (wp C 254 n 363 ls [aI (iZ 0)] M b) := (wp_s rfl rfl).trans rfl
set_option maxRecDepth 30000 in
theorem w254_363 {x0 : Int32} {ls : List AV} : wp C 254 (n + 1) 363 ls [aI x0] M b = (isB x0 ∧ cQ C (some (aI x0)) M) := (wp_s (x := (.ireturn, 1, 0, 0)) rfl rfl).trans (rt_Z rfl)
set_option maxRecDepth 30000 in
theorem w254_364 {v0 : AV} {v1 : AV} {v2 : AV} {v3 : AV} {v4 : AV} {p5 : Int32} {ls : List AV} : wp C 254 (n + 1) 364 (v0 :: v1 :: v2 :: v3 :: v4 :: aI p5 :: ls) [] M b = (wp C 254 n 366 (v0 :: v1 :: v2 :: v3 :: v4 :: aI p5 :: ls) [aI p5] M b) := (wp_s rfl rfl).trans rfl
set_option maxRecDepth 30000 in
theorem w254_366 {x0 : Int32} {ls : List AV} : wp C 254 (n + 1) 366 ls [aI x0] M b = ((x0.toInt = 0 → wp C 254 n 369 ls [] M b) ∧ (¬ x0.toInt = 0 → wp C 254 n 380 ls [] M b)) := (wp_s (x := (.ifCond .ne 14, 3, 380, 0)) rfl rfl).trans zne
set_option maxRecDepth 30000 in
theorem w254_369 {v0 : AV} {v1 : AV} {v2 : AV} {o3 : Option Nat} {ls : List AV} : wp C 254 (n + 1) 369 (v0 :: v1 :: v2 :: aR o3 :: ls) [] M b = (wp C 254 n 370 (v0 :: v1 :: v2 :: aR o3 :: ls) [aR o3] M b) := (wp_s rfl rfl).trans rfl
set_option maxRecDepth 30000 in
theorem w254_370 {r0 : Option Nat} {ls : List AV} : wp C 254 (n + 1) 370 ls [aR r0] M b = (wp C 254 n 371 ls [aI (iZ 0), aR r0] M b) := (wp_s rfl rfl).trans rfl
set_option maxRecDepth 30000 in
theorem w254_371 {x0 : Int32} {a1 : Nat} {ls : List AV} : wp C 254 (n + 1) 371 ls [aI x0, aR (some a1)] M b = (iA M a1 21 x0 ∧ wp C 254 n 372 ls [aL (mJ M a1 (iN x0))] M b) := (wp_s rfl rfl).trans rfl
set_option maxRecDepth 30000 in
theorem w254_372 {v0 : AV} {v1 : AV} {v2 : AV} {v3 : AV} {v4 : AV} {v5 : AV} {q6 : Int64} {y0 : Int64} {ls : List AV} : wp C 254 (n + 1) 372 (v0 :: v1 :: v2 :: v3 :: v4 :: v5 :: aL q6 :: ls) [aL y0] M b = (wp C 254 n 374 (v0 :: v1 :: v2 :: v3 :: v4 :: v5 :: aL q6 :: ls) [aL q6, aL y0] M b) := (wp_s rfl rfl).trans rfl
set_option maxRecDepth 30000 in
theorem w254_374 {y0 : Int64} {y1 : Int64} {ls : List AV} : wp C 254 (n + 1) 374 ls [aL y0, aL y1] M b = (wp C 254 n 375 ls [aI (lg_cmp y1 y0)] M b) := (wp_s rfl rfl).trans rfl
set_option maxRecDepth 30000 in
theorem w254_375 {x0 : Int32} {ls : List AV} : wp C 254 (n + 1) 375 ls [aI x0] M b = ((x0.toInt = 0 → wp C 254 n 380 ls [] M b) ∧ (¬ x0.toInt = 0 → wp C 254 n 378 ls [] M b)) := (wp_s (x := (.ifCond .eq 5, 3, 380, 0)) rfl rfl).trans zeq
set_option maxRecDepth 30000 in
theorem w254_378 {ls : List AV} : wp C 254 (n + 1) 378 ls [] M b = (wp C 254 n 379 ls [aI (iZ 0)] M b) := (wp_s rfl rfl).trans rfl
set_option maxRecDepth 30000 in
theorem w254_379 {x0 : Int32} {ls : List AV} : wp C 254 (n + 1) 379 ls [aI x0] M b = (isB x0 ∧ cQ C (some (aI x0)) M) := (wp_s (x := (.ireturn, 1, 0, 0)) rfl rfl).trans (rt_Z rfl)
set_option maxRecDepth 30000 in
theorem w254_380 {ls : List AV} : wp C 254 (n + 1) 380 ls [] M b = (wp C 254 n 1838 ls [] M b) := (wp_s rfl rfl).trans rfl
set_option maxRecDepth 30000 in
theorem w254_383 {v0 : AV} {o1 : Option Nat} {ls : List AV} : wp C 254 (n + 1) 383 (v0 :: aR o1 :: ls) [] M b = (wp C 254 n 384 (v0 :: aR o1 :: ls) [aR o1] M b) := (wp_s rfl rfl).trans rfl
set_option maxRecDepth 30000 in
theorem w254_384 {o0 : Option Nat} {r0 : Option Nat} {ls : List AV} : wp C 254 (n + 1) 384 (aR o0 :: ls) [aR r0] M b = (wp C 254 n 385 (aR o0 :: ls) [aR o0, aR r0] M b) := (wp_s rfl rfl).trans rfl
set_option maxRecDepth 30000 in
theorem w254_385 {v0 : AV} {v1 : AV} {v2 : AV} {v3 : AV} {p4 : Int32} {r0 : Option Nat} {r1 : Option Nat} {ls : List AV} : wp C 254 (n + 1) 385 (v0 :: v1 :: v2 :: v3 :: aI p4 :: ls) [aR r0, aR r1] M b = (wp C 254 n 387 (v0 :: v1 :: v2 :: v3 :: aI p4 :: ls) [aI p4, aR r0, aR r1] M b) := (wp_s rfl rfl).trans rfl
set_option maxRecDepth 30000 in
theorem w254_387 {x0 : Int32} {r1 : Option Nat} {r2 : Option Nat} {ls : List AV} : wp C 254 (n + 1) 387 ls [aI x0, aR r1, aR r2] M b = (wp C 254 n 388 ls [aI (iZ 1), aI x0, aR r1, aR r2] M b) := (wp_s rfl rfl).trans rfl
set_option maxRecDepth 30000 in
theorem w254_388 {x0 : Int32} {x1 : Int32} {r2 : Option Nat} {r3 : Option Nat} {ls : List AV} : wp C 254 (n + 1) 388 ls [aI x0, aI x1, aR r2, aR r3] M b = (wp C 254 n 389 ls [aI (x1 + x0), aR r2, aR r3] M b) := (wp_s rfl rfl).trans rfl
set_option maxRecDepth 30000 in
theorem w254_389 {x0 : Int32} {a1 : Nat} {r2 : Option Nat} {ls : List AV} : wp C 254 (n + 1) 389 ls [aI x0, aR (some a1), aR r2] M b = ((a1 = 60 ∧ inb x0 (cL C)) ∧ wp C 254 n 390 ls [aI (cS C (iN x0)), aR r2] M b) := (wp_s rfl rfl).trans rfl
set_option maxRecDepth 30000 in
theorem w254_390 {o0 : Option Nat} {x0 : Int32} {r1 : Option Nat} {ls : List AV} : wp C 254 (n + 1) 390 (aR o0 :: ls) [aI x0, aR r1] M b = (wp C 254 n 391 (aR o0 :: ls) [aR o0, aI x0, aR r1] M b) := (wp_s rfl rfl).trans rfl
set_option maxRecDepth 30000 in
theorem w254_391 {v0 : AV} {v1 : AV} {v2 : AV} {v3 : AV} {p4 : Int32} {r0 : Option Nat} {x1 : Int32} {r2 : Option Nat} {ls : List AV} : wp C 254 (n + 1) 391 (v0 :: v1 :: v2 :: v3 :: aI p4 :: ls) [aR r0, aI x1, aR r2] M b = (wp C 254 n 393 (v0 :: v1 :: v2 :: v3 :: aI p4 :: ls) [aI p4, aR r0, aI x1, aR r2] M b) := (wp_s rfl rfl).trans rfl
set_option maxRecDepth 30000 in
theorem w254_393 {x0 : Int32} {r1 : Option Nat} {x2 : Int32} {r3 : Option Nat} {ls : List AV} : wp C 254 (n + 1) 393 ls [aI x0, aR r1, aI x2, aR r3] M b = (wp C 254 n 394 ls [aI (iZ 2), aI x0, aR r1, aI x2, aR r3] M b) := (wp_s rfl rfl).trans rfl
set_option maxRecDepth 30000 in
theorem w254_394 {x0 : Int32} {x1 : Int32} {r2 : Option Nat} {x3 : Int32} {r4 : Option Nat} {ls : List AV} : wp C 254 (n + 1) 394 ls [aI x0, aI x1, aR r2, aI x3, aR r4] M b = (wp C 254 n 395 ls [aI (x1 + x0), aR r2, aI x3, aR r4] M b) := (wp_s rfl rfl).trans rfl
set_option maxRecDepth 30000 in
theorem w254_395 {x0 : Int32} {a1 : Nat} {x2 : Int32} {r3 : Option Nat} {ls : List AV} : wp C 254 (n + 1) 395 ls [aI x0, aR (some a1), aI x2, aR r3] M b = ((a1 = 60 ∧ inb x0 (cL C)) ∧ wp C 254 n 396 ls [aI (cS C (iN x0)), aI x2, aR r3] M b) := (wp_s rfl rfl).trans rfl
set_option maxRecDepth 30000 in
theorem w254_396 {o0 : Option Nat} {x0 : Int32} {x1 : Int32} {r2 : Option Nat} {ls : List AV} : wp C 254 (n + 1) 396 (aR o0 :: ls) [aI x0, aI x1, aR r2] M b = (wp C 254 n 397 (aR o0 :: ls) [aR o0, aI x0, aI x1, aR r2] M b) := (wp_s rfl rfl).trans rfl
set_option maxRecDepth 30000 in
theorem w254_397 {v0 : AV} {v1 : AV} {v2 : AV} {v3 : AV} {p4 : Int32} {r0 : Option Nat} {x1 : Int32} {x2 : Int32} {r3 : Option Nat} {ls : List AV} : wp C 254 (n + 1) 397 (v0 :: v1 :: v2 :: v3 :: aI p4 :: ls) [aR r0, aI x1, aI x2, aR r3] M b = (wp C 254 n 399 (v0 :: v1 :: v2 :: v3 :: aI p4 :: ls) [aI p4, aR r0, aI x1, aI x2, aR r3] M b) := (wp_s rfl rfl).trans rfl
set_option maxRecDepth 30000 in
theorem w254_399 {x0 : Int32} {r1 : Option Nat} {x2 : Int32} {x3 : Int32} {r4 : Option Nat} {ls : List AV} : wp C 254 (n + 1) 399 ls [aI x0, aR r1, aI x2, aI x3, aR r4] M b = (wp C 254 n 400 ls [aI (iZ 3), aI x0, aR r1, aI x2, aI x3, aR r4] M b) := (wp_s rfl rfl).trans rfl
set_option maxRecDepth 30000 in
theorem w254_400 {x0 : Int32} {x1 : Int32} {r2 : Option Nat} {x3 : Int32} {x4 : Int32} {r5 : Option Nat} {ls : List AV} : wp C 254 (n + 1) 400 ls [aI x0, aI x1, aR r2, aI x3, aI x4, aR r5] M b = (wp C 254 n 401 ls [aI (x1 + x0), aR r2, aI x3, aI x4, aR r5] M b) := (wp_s rfl rfl).trans rfl
set_option maxRecDepth 30000 in
theorem w254_401 {x0 : Int32} {a1 : Nat} {x2 : Int32} {x3 : Int32} {r4 : Option Nat} {ls : List AV} : wp C 254 (n + 1) 401 ls [aI x0, aR (some a1), aI x2, aI x3, aR r4] M b = ((a1 = 60 ∧ inb x0 (cL C)) ∧ wp C 254 n 402 ls [aI (cS C (iN x0)), aI x2, aI x3, aR r4] M b) := (wp_s rfl rfl).trans rfl
set_option maxRecDepth 30000 in
theorem w254_402 {o0 : Option Nat} {x0 : Int32} {x1 : Int32} {x2 : Int32} {r3 : Option Nat} {ls : List AV} : wp C 254 (n + 1) 402 (aR o0 :: ls) [aI x0, aI x1, aI x2, aR r3] M b = (wp C 254 n 403 (aR o0 :: ls) [aR o0, aI x0, aI x1, aI x2, aR r3] M b) := (wp_s rfl rfl).trans rfl
set_option maxRecDepth 30000 in
theorem w254_403 {v0 : AV} {v1 : AV} {v2 : AV} {v3 : AV} {p4 : Int32} {r0 : Option Nat} {x1 : Int32} {x2 : Int32} {x3 : Int32} {r4 : Option Nat} {ls : List AV} : wp C 254 (n + 1) 403 (v0 :: v1 :: v2 :: v3 :: aI p4 :: ls) [aR r0, aI x1, aI x2, aI x3, aR r4] M b = (wp C 254 n 405 (v0 :: v1 :: v2 :: v3 :: aI p4 :: ls) [aI p4, aR r0, aI x1, aI x2, aI x3, aR r4] M b) := (wp_s rfl rfl).trans rfl
set_option maxRecDepth 30000 in
theorem w254_405 {x0 : Int32} {r1 : Option Nat} {x2 : Int32} {x3 : Int32} {x4 : Int32} {r5 : Option Nat} {ls : List AV} : wp C 254 (n + 1) 405 ls [aI x0, aR r1, aI x2, aI x3, aI x4, aR r5] M b = (wp C 254 n 406 ls [aI (iZ 4), aI x0, aR r1, aI x2, aI x3, aI x4, aR r5] M b) := (wp_s rfl rfl).trans rfl
set_option maxRecDepth 30000 in
theorem w254_406 {x0 : Int32} {x1 : Int32} {r2 : Option Nat} {x3 : Int32} {x4 : Int32} {x5 : Int32} {r6 : Option Nat} {ls : List AV} : wp C 254 (n + 1) 406 ls [aI x0, aI x1, aR r2, aI x3, aI x4, aI x5, aR r6] M b = (wp C 254 n 407 ls [aI (x1 + x0), aR r2, aI x3, aI x4, aI x5, aR r6] M b) := (wp_s rfl rfl).trans rfl
set_option maxRecDepth 30000 in
theorem w254_407 {x0 : Int32} {a1 : Nat} {x2 : Int32} {x3 : Int32} {x4 : Int32} {r5 : Option Nat} {ls : List AV} : wp C 254 (n + 1) 407 ls [aI x0, aR (some a1), aI x2, aI x3, aI x4, aR r5] M b = ((a1 = 60 ∧ inb x0 (cL C)) ∧ wp C 254 n 408 ls [aI (cS C (iN x0)), aI x2, aI x3, aI x4, aR r5] M b) := (wp_s rfl rfl).trans rfl
set_option maxRecDepth 30000 in
theorem w254_408 {o0 : Option Nat} {x0 : Int32} {x1 : Int32} {x2 : Int32} {x3 : Int32} {r4 : Option Nat} {ls : List AV} : wp C 254 (n + 1) 408 (aR o0 :: ls) [aI x0, aI x1, aI x2, aI x3, aR r4] M b = (wp C 254 n 409 (aR o0 :: ls) [aR o0, aI x0, aI x1, aI x2, aI x3, aR r4] M b) := (wp_s rfl rfl).trans rfl
set_option maxRecDepth 30000 in
theorem w254_409 {v0 : AV} {v1 : AV} {v2 : AV} {v3 : AV} {p4 : Int32} {r0 : Option Nat} {x1 : Int32} {x2 : Int32} {x3 : Int32} {x4 : Int32} {r5 : Option Nat} {ls : List AV} : wp C 254 (n + 1) 409 (v0 :: v1 :: v2 :: v3 :: aI p4 :: ls) [aR r0, aI x1, aI x2, aI x3, aI x4, aR r5] M b = (wp C 254 n 411 (v0 :: v1 :: v2 :: v3 :: aI p4 :: ls) [aI p4, aR r0, aI x1, aI x2, aI x3, aI x4, aR r5] M b) := (wp_s rfl rfl).trans rfl
set_option maxRecDepth 30000 in
theorem w254_411 {x0 : Int32} {r1 : Option Nat} {x2 : Int32} {x3 : Int32} {x4 : Int32} {x5 : Int32} {r6 : Option Nat} {ls : List AV} : wp C 254 (n + 1) 411 ls [aI x0, aR r1, aI x2, aI x3, aI x4, aI x5, aR r6] M b = (wp C 254 n 412 ls [aI (iZ 5), aI x0, aR r1, aI x2, aI x3, aI x4, aI x5, aR r6] M b) := (wp_s rfl rfl).trans rfl
set_option maxRecDepth 30000 in
theorem w254_412 {x0 : Int32} {x1 : Int32} {r2 : Option Nat} {x3 : Int32} {x4 : Int32} {x5 : Int32} {x6 : Int32} {r7 : Option Nat} {ls : List AV} : wp C 254 (n + 1) 412 ls [aI x0, aI x1, aR r2, aI x3, aI x4, aI x5, aI x6, aR r7] M b = (wp C 254 n 413 ls [aI (x1 + x0), aR r2, aI x3, aI x4, aI x5, aI x6, aR r7] M b) := (wp_s rfl rfl).trans rfl
set_option maxRecDepth 30000 in
theorem w254_413 {x0 : Int32} {a1 : Nat} {x2 : Int32} {x3 : Int32} {x4 : Int32} {x5 : Int32} {r6 : Option Nat} {ls : List AV} : wp C 254 (n + 1) 413 ls [aI x0, aR (some a1), aI x2, aI x3, aI x4, aI x5, aR r6] M b = ((a1 = 60 ∧ inb x0 (cL C)) ∧ wp C 254 n 414 ls [aI (cS C (iN x0)), aI x2, aI x3, aI x4, aI x5, aR r6] M b) := (wp_s rfl rfl).trans rfl
set_option maxRecDepth 30000 in
theorem w254_414 {x0 : Int32} {x1 : Int32} {x2 : Int32} {x3 : Int32} {x4 : Int32} {a5 : Nat} {ls : List AV} : wp C 254 (n + 1) 414 ls [aI x0, aI x1, aI x2, aI x3, aI x4, aR (some a5)] M b = (oB M a5 11 ∧ CALL C 121 [aR (some a5), aI x4, aI x3, aI x2, aI x1, aI x0] M b (kR (wp C 254 n 417 ls) []) (cX C)) := (wp_s (x := (.invokevirtual 111, 3, 121, 5)) rfl rfl).trans (cv_row (by decide) (Nat.le_of_ble_eq_true rfl) (Nat.le_of_ble_eq_true rfl) rfl)
set_option maxRecDepth 30000 in
theorem w254_417 {v0 : AV} {v1 : AV} {o2 : Option Nat} {x0 : Int32} {ls : List AV} : wp C 254 (n + 1) 417 (v0 :: v1 :: aR o2 :: ls) [aI x0] M b = (wp C 254 n 418 (v0 :: v1 :: aR o2 :: ls) [aR o2, aI x0] M b) := (wp_s rfl rfl).trans rfl
set_option maxRecDepth 30000 in
theorem w254_418 {o0 : Option Nat} {r0 : Option Nat} {x1 : Int32} {ls : List AV} : wp C 254 (n + 1) 418 (aR o0 :: ls) [aR r0, aI x1] M b = (wp C 254 n 419 (aR o0 :: ls) [aR o0, aR r0, aI x1] M b) := (wp_s rfl rfl).trans rfl
set_option maxRecDepth 30000 in
theorem w254_419 {v0 : AV} {v1 : AV} {v2 : AV} {v3 : AV} {p4 : Int32} {r0 : Option Nat} {r1 : Option Nat} {x2 : Int32} {ls : List AV} : wp C 254 (n + 1) 419 (v0 :: v1 :: v2 :: v3 :: aI p4 :: ls) [aR r0, aR r1, aI x2] M b = (wp C 254 n 421 (v0 :: v1 :: v2 :: v3 :: aI p4 :: ls) [aI p4, aR r0, aR r1, aI x2] M b) := (wp_s rfl rfl).trans rfl
set_option maxRecDepth 30000 in
theorem w254_421 {x0 : Int32} {r1 : Option Nat} {r2 : Option Nat} {x3 : Int32} {ls : List AV} : wp C 254 (n + 1) 421 ls [aI x0, aR r1, aR r2, aI x3] M b = (wp C 254 n 422 ls [aI (iZ 1), aI x0, aR r1, aR r2, aI x3] M b) := (wp_s rfl rfl).trans rfl
set_option maxRecDepth 30000 in
theorem w254_422 {x0 : Int32} {x1 : Int32} {r2 : Option Nat} {r3 : Option Nat} {x4 : Int32} {ls : List AV} : wp C 254 (n + 1) 422 ls [aI x0, aI x1, aR r2, aR r3, aI x4] M b = (wp C 254 n 423 ls [aI (x1 + x0), aR r2, aR r3, aI x4] M b) := (wp_s rfl rfl).trans rfl
set_option maxRecDepth 30000 in
theorem w254_423 {x0 : Int32} {a1 : Nat} {r2 : Option Nat} {x3 : Int32} {ls : List AV} : wp C 254 (n + 1) 423 ls [aI x0, aR (some a1), aR r2, aI x3] M b = ((a1 = 60 ∧ inb x0 (cL C)) ∧ wp C 254 n 424 ls [aI (cS C (iN x0)), aR r2, aI x3] M b) := (wp_s rfl rfl).trans rfl
set_option maxRecDepth 30000 in
theorem w254_424 {o0 : Option Nat} {x0 : Int32} {r1 : Option Nat} {x2 : Int32} {ls : List AV} : wp C 254 (n + 1) 424 (aR o0 :: ls) [aI x0, aR r1, aI x2] M b = (wp C 254 n 425 (aR o0 :: ls) [aR o0, aI x0, aR r1, aI x2] M b) := (wp_s rfl rfl).trans rfl
set_option maxRecDepth 30000 in
theorem w254_425 {v0 : AV} {v1 : AV} {v2 : AV} {v3 : AV} {p4 : Int32} {r0 : Option Nat} {x1 : Int32} {r2 : Option Nat} {x3 : Int32} {ls : List AV} : wp C 254 (n + 1) 425 (v0 :: v1 :: v2 :: v3 :: aI p4 :: ls) [aR r0, aI x1, aR r2, aI x3] M b = (wp C 254 n 427 (v0 :: v1 :: v2 :: v3 :: aI p4 :: ls) [aI p4, aR r0, aI x1, aR r2, aI x3] M b) := (wp_s rfl rfl).trans rfl
set_option maxRecDepth 30000 in
theorem w254_427 {x0 : Int32} {r1 : Option Nat} {x2 : Int32} {r3 : Option Nat} {x4 : Int32} {ls : List AV} : wp C 254 (n + 1) 427 ls [aI x0, aR r1, aI x2, aR r3, aI x4] M b = (wp C 254 n 428 ls [aI (iZ 2), aI x0, aR r1, aI x2, aR r3, aI x4] M b) := (wp_s rfl rfl).trans rfl
set_option maxRecDepth 30000 in
theorem w254_428 {x0 : Int32} {x1 : Int32} {r2 : Option Nat} {x3 : Int32} {r4 : Option Nat} {x5 : Int32} {ls : List AV} : wp C 254 (n + 1) 428 ls [aI x0, aI x1, aR r2, aI x3, aR r4, aI x5] M b = (wp C 254 n 429 ls [aI (x1 + x0), aR r2, aI x3, aR r4, aI x5] M b) := (wp_s rfl rfl).trans rfl
set_option maxRecDepth 30000 in
theorem w254_429 {x0 : Int32} {a1 : Nat} {x2 : Int32} {r3 : Option Nat} {x4 : Int32} {ls : List AV} : wp C 254 (n + 1) 429 ls [aI x0, aR (some a1), aI x2, aR r3, aI x4] M b = ((a1 = 60 ∧ inb x0 (cL C)) ∧ wp C 254 n 430 ls [aI (cS C (iN x0)), aI x2, aR r3, aI x4] M b) := (wp_s rfl rfl).trans rfl
set_option maxRecDepth 30000 in
theorem w254_430 {o0 : Option Nat} {x0 : Int32} {x1 : Int32} {r2 : Option Nat} {x3 : Int32} {ls : List AV} : wp C 254 (n + 1) 430 (aR o0 :: ls) [aI x0, aI x1, aR r2, aI x3] M b = (wp C 254 n 431 (aR o0 :: ls) [aR o0, aI x0, aI x1, aR r2, aI x3] M b) := (wp_s rfl rfl).trans rfl
set_option maxRecDepth 30000 in
theorem w254_431 {v0 : AV} {v1 : AV} {v2 : AV} {v3 : AV} {p4 : Int32} {r0 : Option Nat} {x1 : Int32} {x2 : Int32} {r3 : Option Nat} {x4 : Int32} {ls : List AV} : wp C 254 (n + 1) 431 (v0 :: v1 :: v2 :: v3 :: aI p4 :: ls) [aR r0, aI x1, aI x2, aR r3, aI x4] M b = (wp C 254 n 433 (v0 :: v1 :: v2 :: v3 :: aI p4 :: ls) [aI p4, aR r0, aI x1, aI x2, aR r3, aI x4] M b) := (wp_s rfl rfl).trans rfl
set_option maxRecDepth 30000 in
theorem w254_433 {x0 : Int32} {r1 : Option Nat} {x2 : Int32} {x3 : Int32} {r4 : Option Nat} {x5 : Int32} {ls : List AV} : wp C 254 (n + 1) 433 ls [aI x0, aR r1, aI x2, aI x3, aR r4, aI x5] M b = (wp C 254 n 434 ls [aI (iZ 3), aI x0, aR r1, aI x2, aI x3, aR r4, aI x5] M b) := (wp_s rfl rfl).trans rfl
set_option maxRecDepth 30000 in
theorem w254_434 {x0 : Int32} {x1 : Int32} {r2 : Option Nat} {x3 : Int32} {x4 : Int32} {r5 : Option Nat} {x6 : Int32} {ls : List AV} : wp C 254 (n + 1) 434 ls [aI x0, aI x1, aR r2, aI x3, aI x4, aR r5, aI x6] M b = (wp C 254 n 435 ls [aI (x1 + x0), aR r2, aI x3, aI x4, aR r5, aI x6] M b) := (wp_s rfl rfl).trans rfl
set_option maxRecDepth 30000 in
theorem w254_435 {x0 : Int32} {a1 : Nat} {x2 : Int32} {x3 : Int32} {r4 : Option Nat} {x5 : Int32} {ls : List AV} : wp C 254 (n + 1) 435 ls [aI x0, aR (some a1), aI x2, aI x3, aR r4, aI x5] M b = ((a1 = 60 ∧ inb x0 (cL C)) ∧ wp C 254 n 436 ls [aI (cS C (iN x0)), aI x2, aI x3, aR r4, aI x5] M b) := (wp_s rfl rfl).trans rfl
set_option maxRecDepth 30000 in
theorem w254_436 {o0 : Option Nat} {x0 : Int32} {x1 : Int32} {x2 : Int32} {r3 : Option Nat} {x4 : Int32} {ls : List AV} : wp C 254 (n + 1) 436 (aR o0 :: ls) [aI x0, aI x1, aI x2, aR r3, aI x4] M b = (wp C 254 n 437 (aR o0 :: ls) [aR o0, aI x0, aI x1, aI x2, aR r3, aI x4] M b) := (wp_s rfl rfl).trans rfl
set_option maxRecDepth 30000 in
theorem w254_437 {v0 : AV} {v1 : AV} {v2 : AV} {v3 : AV} {p4 : Int32} {r0 : Option Nat} {x1 : Int32} {x2 : Int32} {x3 : Int32} {r4 : Option Nat} {x5 : Int32} {ls : List AV} : wp C 254 (n + 1) 437 (v0 :: v1 :: v2 :: v3 :: aI p4 :: ls) [aR r0, aI x1, aI x2, aI x3, aR r4, aI x5] M b = (wp C 254 n 439 (v0 :: v1 :: v2 :: v3 :: aI p4 :: ls) [aI p4, aR r0, aI x1, aI x2, aI x3, aR r4, aI x5] M b) := (wp_s rfl rfl).trans rfl
set_option maxRecDepth 30000 in
theorem w254_439 {x0 : Int32} {r1 : Option Nat} {x2 : Int32} {x3 : Int32} {x4 : Int32} {r5 : Option Nat} {x6 : Int32} {ls : List AV} : wp C 254 (n + 1) 439 ls [aI x0, aR r1, aI x2, aI x3, aI x4, aR r5, aI x6] M b = (wp C 254 n 440 ls [aI (iZ 4), aI x0, aR r1, aI x2, aI x3, aI x4, aR r5, aI x6] M b) := (wp_s rfl rfl).trans rfl
set_option maxRecDepth 30000 in
theorem w254_440 {x0 : Int32} {x1 : Int32} {r2 : Option Nat} {x3 : Int32} {x4 : Int32} {x5 : Int32} {r6 : Option Nat} {x7 : Int32} {ls : List AV} : wp C 254 (n + 1) 440 ls [aI x0, aI x1, aR r2, aI x3, aI x4, aI x5, aR r6, aI x7] M b = (wp C 254 n 441 ls [aI (x1 + x0), aR r2, aI x3, aI x4, aI x5, aR r6, aI x7] M b) := (wp_s rfl rfl).trans rfl
set_option maxRecDepth 30000 in
theorem w254_441 {x0 : Int32} {a1 : Nat} {x2 : Int32} {x3 : Int32} {x4 : Int32} {r5 : Option Nat} {x6 : Int32} {ls : List AV} : wp C 254 (n + 1) 441 ls [aI x0, aR (some a1), aI x2, aI x3, aI x4, aR r5, aI x6] M b = ((a1 = 60 ∧ inb x0 (cL C)) ∧ wp C 254 n 442 ls [aI (cS C (iN x0)), aI x2, aI x3, aI x4, aR r5, aI x6] M b) := (wp_s rfl rfl).trans rfl
set_option maxRecDepth 30000 in
theorem w254_442 {o0 : Option Nat} {x0 : Int32} {x1 : Int32} {x2 : Int32} {x3 : Int32} {r4 : Option Nat} {x5 : Int32} {ls : List AV} : wp C 254 (n + 1) 442 (aR o0 :: ls) [aI x0, aI x1, aI x2, aI x3, aR r4, aI x5] M b = (wp C 254 n 443 (aR o0 :: ls) [aR o0, aI x0, aI x1, aI x2, aI x3, aR r4, aI x5] M b) := (wp_s rfl rfl).trans rfl
set_option maxRecDepth 30000 in
theorem w254_443 {v0 : AV} {v1 : AV} {v2 : AV} {v3 : AV} {p4 : Int32} {r0 : Option Nat} {x1 : Int32} {x2 : Int32} {x3 : Int32} {x4 : Int32} {r5 : Option Nat} {x6 : Int32} {ls : List AV} : wp C 254 (n + 1) 443 (v0 :: v1 :: v2 :: v3 :: aI p4 :: ls) [aR r0, aI x1, aI x2, aI x3, aI x4, aR r5, aI x6] M b = (wp C 254 n 445 (v0 :: v1 :: v2 :: v3 :: aI p4 :: ls) [aI p4, aR r0, aI x1, aI x2, aI x3, aI x4, aR r5, aI x6] M b) := (wp_s rfl rfl).trans rfl
set_option maxRecDepth 30000 in
theorem w254_445 {x0 : Int32} {r1 : Option Nat} {x2 : Int32} {x3 : Int32} {x4 : Int32} {x5 : Int32} {r6 : Option Nat} {x7 : Int32} {ls : List AV} : wp C 254 (n + 1) 445 ls [aI x0, aR r1, aI x2, aI x3, aI x4, aI x5, aR r6, aI x7] M b = (wp C 254 n 446 ls [aI (iZ 5), aI x0, aR r1, aI x2, aI x3, aI x4, aI x5, aR r6, aI x7] M b) := (wp_s rfl rfl).trans rfl
set_option maxRecDepth 30000 in
theorem w254_446 {x0 : Int32} {x1 : Int32} {r2 : Option Nat} {x3 : Int32} {x4 : Int32} {x5 : Int32} {x6 : Int32} {r7 : Option Nat} {x8 : Int32} {ls : List AV} : wp C 254 (n + 1) 446 ls [aI x0, aI x1, aR r2, aI x3, aI x4, aI x5, aI x6, aR r7, aI x8] M b = (wp C 254 n 447 ls [aI (x1 + x0), aR r2, aI x3, aI x4, aI x5, aI x6, aR r7, aI x8] M b) := (wp_s rfl rfl).trans rfl
set_option maxRecDepth 30000 in
theorem w254_447 {x0 : Int32} {a1 : Nat} {x2 : Int32} {x3 : Int32} {x4 : Int32} {x5 : Int32} {r6 : Option Nat} {x7 : Int32} {ls : List AV} : wp C 254 (n + 1) 447 ls [aI x0, aR (some a1), aI x2, aI x3, aI x4, aI x5, aR r6, aI x7] M b = ((a1 = 60 ∧ inb x0 (cL C)) ∧ wp C 254 n 448 ls [aI (cS C (iN x0)), aI x2, aI x3, aI x4, aI x5, aR r6, aI x7] M b) := (wp_s rfl rfl).trans rfl
set_option maxRecDepth 30000 in
theorem w254_448 {x0 : Int32} {x1 : Int32} {x2 : Int32} {x3 : Int32} {x4 : Int32} {a5 : Nat} {x6 : Int32} {ls : List AV} : wp C 254 (n + 1) 448 ls [aI x0, aI x1, aI x2, aI x3, aI x4, aR (some a5), aI x6] M b = (oB M a5 12 ∧ CALL C 25 [aR (some a5), aI x4, aI x3, aI x2, aI x1, aI x0] M b (kR (wp C 254 n 451 ls) [aI x6]) (cX C)) := (wp_s (x := (.invokevirtual 114, 3, 25, 5)) rfl rfl).trans (cv_row (by decide) (Nat.le_of_ble_eq_true rfl) (Nat.le_of_ble_eq_true rfl) rfl)
set_option maxRecDepth 30000 in
theorem w254_451 {x0 : Int32} {x1 : Int32} {ls : List AV} : wp C 254 (n + 1) 451 ls [aI x0, aI x1] M b = ((x1.toInt = x0.toInt → wp C 254 n 1838 ls [] M b) ∧ (¬ x1.toInt = x0.toInt → wp C 254 n 454 ls [] M b)) := (wp_s (x := (.if_icmp .eq 1387, 3, 1838, 0)) rfl rfl).trans ceq
set_option maxRecDepth 30000 in
theorem w254_454 {ls : List AV} : wp C 254 (n + 1) 454 ls [] M b = (wp C 254 n 455 ls [aI (iZ 0)] M b) := (wp_s rfl rfl).trans rfl
set_option maxRecDepth 30000 in
theorem w254_455 {x0 : Int32} {ls : List AV} : wp C 254 (n + 1) 455 ls [aI x0] M b = (isB x0 ∧ cQ C (some (aI x0)) M) := (wp_s (x := (.ireturn, 1, 0, 0)) rfl rfl).trans (rt_Z rfl)
set_option maxRecDepth 30000 in
theorem w254_456 {v0 : AV} {o1 : Option Nat} {ls : List AV} : wp C 254 (n + 1) 456 (v0 :: aR o1 :: ls) [] M b = (wp C 254 n 457 (v0 :: aR o1 :: ls) [aR o1] M b) := (wp_s rfl rfl).trans rfl
set_option maxRecDepth 30000 in
theorem w254_457 {o0 : Option Nat} {r0 : Option Nat} {ls : List AV} : wp C 254 (n + 1) 457 (aR o0 :: ls) [aR r0] M b = (wp C 254 n 458 (aR o0 :: ls) [aR o0, aR r0] M b) := (wp_s rfl rfl).trans rfl
set_option maxRecDepth 30000 in
theorem w254_458 {v0 : AV} {v1 : AV} {v2 : AV} {v3 : AV} {p4 : Int32} {r0 : Option Nat} {r1 : Option Nat} {ls : List AV} : wp C 254 (n + 1) 458 (v0 :: v1 :: v2 :: v3 :: aI p4 :: ls) [aR r0, aR r1] M b = (wp C 254 n 460 (v0 :: v1 :: v2 :: v3 :: aI p4 :: ls) [aI p4, aR r0, aR r1] M b) := (wp_s rfl rfl).trans rfl
set_option maxRecDepth 30000 in
theorem w254_460 {x0 : Int32} {r1 : Option Nat} {r2 : Option Nat} {ls : List AV} : wp C 254 (n + 1) 460 ls [aI x0, aR r1, aR r2] M b = (wp C 254 n 461 ls [aI (iZ 1), aI x0, aR r1, aR r2] M b) := (wp_s rfl rfl).trans rfl
set_option maxRecDepth 30000 in
theorem w254_461 {x0 : Int32} {x1 : Int32} {r2 : Option Nat} {r3 : Option Nat} {ls : List AV} : wp C 254 (n + 1) 461 ls [aI x0, aI x1, aR r2, aR r3] M b = (wp C 254 n 462 ls [aI (x1 + x0), aR r2, aR r3] M b) := (wp_s rfl rfl).trans rfl
set_option maxRecDepth 30000 in
theorem w254_462 {x0 : Int32} {a1 : Nat} {r2 : Option Nat} {ls : List AV} : wp C 254 (n + 1) 462 ls [aI x0, aR (some a1), aR r2] M b = ((a1 = 60 ∧ inb x0 (cL C)) ∧ wp C 254 n 463 ls [aI (cS C (iN x0)), aR r2] M b) := (wp_s rfl rfl).trans rfl
set_option maxRecDepth 30000 in
theorem w254_463 {v0 : AV} {v1 : AV} {v2 : AV} {o3 : Option Nat} {x0 : Int32} {r1 : Option Nat} {ls : List AV} : wp C 254 (n + 1) 463 (v0 :: v1 :: v2 :: aR o3 :: ls) [aI x0, aR r1] M b = (wp C 254 n 464 (v0 :: v1 :: v2 :: aR o3 :: ls) [aR o3, aI x0, aR r1] M b) := (wp_s rfl rfl).trans rfl
set_option maxRecDepth 30000 in
theorem w254_464 {r0 : Option Nat} {x1 : Int32} {r2 : Option Nat} {ls : List AV} : wp C 254 (n + 1) 464 ls [aR r0, aI x1, aR r2] M b = (CALL C 236 [aR r2, aI x1, aR r0] M b (kR (wp C 254 n 467 ls) []) (cX C)) := (wp_s (x := (.invokestatic 115, 3, 236, 3)) rfl rfl).trans (cs_row (by decide) (Nat.le_of_ble_eq_true rfl) (Nat.le_of_ble_eq_true rfl))
set_option maxRecDepth 30000 in
theorem w254_467 {v0 : AV} {v1 : AV} {v2 : AV} {v3 : AV} {p4 : Int32} {v5 : AV} {x0 : Int32} {ls : List AV} : wp C 254 (n + 1) 467 (v0 :: v1 :: v2 :: v3 :: aI p4 :: v5 :: ls) [aI x0] M b = (wp C 254 n 469 (v0 :: v1 :: v2 :: v3 :: aI p4 :: aI x0 :: ls) [] M b) := (wp_s rfl rfl).trans rfl
set_option maxRecDepth 30000 in
theorem w254_469 {v0 : AV} {v1 : AV} {o2 : Option Nat} {ls : List AV} : wp C 254 (n + 1) 469 (v0 :: v1 :: aR o2 :: ls) [] M b = (wp C 254 n 470 (v0 :: v1 :: aR o2 :: ls) [aR o2] M b) := (wp_s rfl rfl).trans rfl
set_option maxRecDepth 30000 in
theorem w254_470 {o0 : Option Nat} {r0 : Option Nat} {ls : List AV} : wp C 254 (n + 1) 470 (aR o0 :: ls) [aR r0] M b = (wp C 254 n 471 (aR o0 :: ls) [aR o0, aR r0] M b) := (wp_s rfl rfl).trans rfl
set_option maxRecDepth 30000 in
theorem w254_471 {v0 : AV} {v1 : AV} {v2 : AV} {v3 : AV} {p4 : Int32} {r0 : Option Nat} {r1 : Option Nat} {ls : List AV} : wp C 254 (n + 1) 471 (v0 :: v1 :: v2 :: v3 :: aI p4 :: ls) [aR r0, aR r1] M b = (wp C 254 n 473 (v0 :: v1 :: v2 :: v3 :: aI p4 :: ls) [aI p4, aR r0, aR r1] M b) := (wp_s rfl rfl).trans rfl
set_option maxRecDepth 30000 in
theorem w254_473 {x0 : Int32} {r1 : Option Nat} {r2 : Option Nat} {ls : List AV} : wp C 254 (n + 1) 473 ls [aI x0, aR r1, aR r2] M b = (wp C 254 n 474 ls [aI (iZ 1), aI x0, aR r1, aR r2] M b) := (wp_s rfl rfl).trans rfl
set_option maxRecDepth 30000 in
theorem w254_474 {x0 : Int32} {x1 : Int32} {r2 : Option Nat} {r3 : Option Nat} {ls : List AV} : wp C 254 (n + 1) 474 ls [aI x0, aI x1, aR r2, aR r3] M b = (wp C 254 n 475 ls [aI (x1 + x0), aR r2, aR r3] M b) := (wp_s rfl rfl).trans rfl
set_option maxRecDepth 30000 in
theorem w254_475 {x0 : Int32} {a1 : Nat} {r2 : Option Nat} {ls : List AV} : wp C 254 (n + 1) 475 ls [aI x0, aR (some a1), aR r2] M b = ((a1 = 60 ∧ inb x0 (cL C)) ∧ wp C 254 n 476 ls [aI (cS C (iN x0)), aR r2] M b) := (wp_s rfl rfl).trans rfl
set_option maxRecDepth 30000 in
theorem w254_476 {x0 : Int32} {a1 : Nat} {ls : List AV} : wp C 254 (n + 1) 476 ls [aI x0, aR (some a1)] M b = (oB M a1 12 ∧ CALL C 55 [aR (some a1), aI x0] M b (kR (wp C 254 n 479 ls) []) (cX C)) := (wp_s (x := (.invokevirtual 117, 3, 55, 1)) rfl rfl).trans (cv_row (by decide) (Nat.le_of_ble_eq_true rfl) (Nat.le_of_ble_eq_true rfl) rfl)
set_option maxRecDepth 30000 in
theorem w254_479 {v0 : AV} {v1 : AV} {v2 : AV} {v3 : AV} {v4 : AV} {p5 : Int32} {v6 : AV} {x0 : Int32} {ls : List AV} : wp C 254 (n + 1) 479 (v0 :: v1 :: v2 :: v3 :: v4 :: aI p5 :: v6 :: ls) [aI x0] M b = (wp C 254 n 481 (v0 :: v1 :: v2 :: v3 :: v4 :: aI p5 :: aI x0 :: ls) [] M b) := (wp_s rfl rfl).trans rfl
set_option maxRecDepth 30000 in
theorem w254_481 {v0 : AV} {v1 : AV} {o2 : Option Nat} {ls : List AV} : wp C 254 (n + 1) 481 (v0 :: v1 :: aR o2 :: ls) [] M b = (wp C 254 n 482 (v0 :: v1 :: aR o2 :: ls) [aR o2] M b) := (wp_s rfl rfl).trans rfl
set_option maxRecDepth 30000 in
theorem w254_482 {a0 : Nat} {ls : List AV} : wp C 254 (n + 1) 482 ls [aR (some a0)] M b = (oB M a0 12 ∧ CALL C 19 [aR (some a0)] M b (kR (wp C 254 n 485 ls) []) (cX C)) := (wp_s (x := (.invokevirtual 96, 3, 19, 0)) rfl rfl).trans (cv_row (by decide) (Nat.le_of_ble_eq_true rfl) (Nat.le_of_ble_eq_true rfl) rfl)
set_option maxRecDepth 30000 in
theorem w254_485 {v0 : AV} {v1 : AV} {v2 : AV} {v3 : AV} {v4 : AV} {p5 : Int32} {x0 : Int32} {ls : List AV} : wp C 254 (n + 1) 485 (v0 :: v1 :: v2 :: v3 :: v4 :: aI p5 :: ls) [aI x0] M b = (wp C 254 n 487 (v0 :: v1 :: v2 :: v3 :: v4 :: aI p5 :: ls) [aI p5, aI x0] M b) := (wp_s rfl rfl).trans rfl
set_option maxRecDepth 30000 in
theorem w254_487 {x0 : Int32} {x1 : Int32} {ls : List AV} : wp C 254 (n + 1) 487 ls [aI x0, aI x1] M b = ((x1.toInt = x0.toInt → wp C 254 n 492 ls [] M b) ∧ (¬ x1.toInt = x0.toInt → wp C 254 n 490 ls [] M b)) := (wp_s (x := (.if_icmp .eq 5, 3, 492, 0)) rfl rfl).trans ceq
set_option maxRecDepth 30000 in
theorem w254_490 {ls : List AV} : wp C 254 (n + 1) 490 ls [] M b = (wp C 254 n 491 ls [aI (iZ 0)] M b) := (wp_s rfl rfl).trans rfl
set_option maxRecDepth 30000 in
theorem w254_491 {x0 : Int32} {ls : List AV} : wp C 254 (n + 1) 491 ls [aI x0] M b = (isB x0 ∧ cQ C (some (aI x0)) M) := (wp_s (x := (.ireturn, 1, 0, 0)) rfl rfl).trans (rt_Z rfl)
set_option maxRecDepth 30000 in
theorem w254_492 {v0 : AV} {v1 : AV} {v2 : AV} {v3 : AV} {v4 : AV} {p5 : Int32} {ls : List AV} : wp C 254 (n + 1) 492 (v0 :: v1 :: v2 :: v3 :: v4 :: aI p5 :: ls) [] M b = (wp C 254 n 494 (v0 :: v1 :: v2 :: v3 :: v4 :: aI p5 :: ls) [aI p5] M b) := (wp_s rfl rfl).trans rfl
set_option maxRecDepth 30000 in
theorem w254_494 {x0 : Int32} {ls : List AV} : wp C 254 (n + 1) 494 ls [aI x0] M b = ((x0.toInt = 0 → wp C 254 n 497 ls [] M b) ∧ (¬ x0.toInt = 0 → wp C 254 n 509 ls [] M b)) := (wp_s (x := (.ifCond .ne 15, 3, 509, 0)) rfl rfl).trans zne
set_option maxRecDepth 30000 in
theorem w254_497 {v0 : AV} {v1 : AV} {v2 : AV} {o3 : Option Nat} {ls : List AV} : wp C 254 (n + 1) 497 (v0 :: v1 :: v2 :: aR o3 :: ls) [] M b = (wp C 254 n 498 (v0 :: v1 :: v2 :: aR o3 :: ls) [aR o3] M b) := (wp_s rfl rfl).trans rfl
set_option maxRecDepth 30000 in
theorem w254_498 {r0 : Option Nat} {ls : List AV} : wp C 254 (n + 1) 498 ls [aR r0] M b = (wp C 254 n 499 ls [aI (iZ 0), aR r0] M b) := (wp_s rfl rfl).trans rfl
set_option maxRecDepth 30000 in
theorem w254_499 {x0 : Int32} {a1 : Nat} {ls : List AV} : wp C 254 (n + 1) 499 ls [aI x0, aR (some a1)] M b = (iA M a1 21 x0 ∧ wp C 254 n 500 ls [aL (mJ M a1 (iN x0))] M b) := (wp_s rfl rfl).trans rfl
set_option maxRecDepth 30000 in
theorem w254_500 {v0 : AV} {v1 : AV} {v2 : AV} {v3 : AV} {v4 : AV} {v5 : AV} {p6 : Int32} {y0 : Int64} {ls : List AV} : wp C 254 (n + 1) 500 (v0 :: v1 :: v2 :: v3 :: v4 :: v5 :: aI p6 :: ls) [aL y0] M b = (wp C 254 n 502 (v0 :: v1 :: v2 :: v3 :: v4 :: v5 :: aI p6 :: ls) [aI p6, aL y0] M b) := (wp_s rfl rfl).trans rfl
set_option maxRecDepth 30000 in
theorem w254_502 {x0 : Int32} {y1 : Int64} {ls : List AV} : wp C 254 (n + 1) 502 ls [aI x0, aL y1] M b = (wp C 254 n 503 ls [aL x0.toInt64, aL y1] M b) := (wp_s rfl rfl).trans rfl
set_option maxRecDepth 30000 in
theorem w254_503 {y0 : Int64} {y1 : Int64} {ls : List AV} : wp C 254 (n + 1) 503 ls [aL y0, aL y1] M b = (wp C 254 n 504 ls [aI (lg_cmp y1 y0)] M b) := (wp_s rfl rfl).trans rfl
set_option maxRecDepth 30000 in
theorem w254_504 {x0 : Int32} {ls : List AV} : wp C 254 (n + 1) 504 ls [aI x0] M b = ((x0.toInt = 0 → wp C 254 n 509 ls [] M b) ∧ (¬ x0.toInt = 0 → wp C 254 n 507 ls [] M b)) := (wp_s (x := (.ifCond .eq 5, 3, 509, 0)) rfl rfl).trans zeq
set_option maxRecDepth 30000 in
theorem w254_507 {ls : List AV} : wp C 254 (n + 1) 507 ls [] M b = (wp C 254 n 508 ls [aI (iZ 0)] M b) := (wp_s rfl rfl).trans rfl
set_option maxRecDepth 30000 in
theorem w254_508 {x0 : Int32} {ls : List AV} : wp C 254 (n + 1) 508 ls [aI x0] M b = (isB x0 ∧ cQ C (some (aI x0)) M) := (wp_s (x := (.ireturn, 1, 0, 0)) rfl rfl).trans (rt_Z rfl)
set_option maxRecDepth 30000 in
theorem w254_509 {ls : List AV} : wp C 254 (n + 1) 509 ls [] M b = (wp C 254 n 1838 ls [] M b) := (wp_s rfl rfl).trans rfl
set_option maxRecDepth 30000 in
theorem w254_512 {v0 : AV} {o1 : Option Nat} {ls : List AV} : wp C 254 (n + 1) 512 (v0 :: aR o1 :: ls) [] M b = (wp C 254 n 513 (v0 :: aR o1 :: ls) [aR o1] M b) := (wp_s rfl rfl).trans rfl
set_option maxRecDepth 30000 in
theorem w254_513 {a0 : Nat} {ls : List AV} : wp C 254 (n + 1) 513 ls [aR (some a0)] M b = (oB M a0 11 ∧ CALL C 160 [aR (some a0)] M b (kR (wp C 254 n 516 ls) []) (cX C)) := (wp_s (x := (.invokevirtual 118, 3, 160, 0)) rfl rfl).trans (cv_row (by decide) (Nat.le_of_ble_eq_true rfl) (Nat.le_of_ble_eq_true rfl) rfl)
set_option maxRecDepth 30000 in
theorem w254_516 {v0 : AV} {v1 : AV} {o2 : Option Nat} {x0 : Int32} {ls : List AV} : wp C 254 (n + 1) 516 (v0 :: v1 :: aR o2 :: ls) [aI x0] M b = (wp C 254 n 517 (v0 :: v1 :: aR o2 :: ls) [aR o2, aI x0] M b) := (wp_s rfl rfl).trans rfl
set_option maxRecDepth 30000 in
theorem w254_517 {a0 : Nat} {x1 : Int32} {ls : List AV} : wp C 254 (n + 1) 517 ls [aR (some a0), aI x1] M b = (oB M a0 12 ∧ CALL C 56 [aR (some a0)] M b (kR (wp C 254 n 520 ls) [aI x1]) (cX C)) := (wp_s (x := (.invokevirtual 121, 3, 56, 0)) rfl rfl).trans (cv_row (by decide) (Nat.le_of_ble_eq_true rfl) (Nat.le_of_ble_eq_true rfl) rfl)
set_option maxRecDepth 30000 in
theorem w254_520 {x0 : Int32} {x1 : Int32} {ls : List AV} : wp C 254 (n + 1) 520 ls [aI x0, aI x1] M b = ((x1.toInt = x0.toInt → wp C 254 n 1838 ls [] M b) ∧ (¬ x1.toInt = x0.toInt → wp C 254 n 523 ls [] M b)) := (wp_s (x := (.if_icmp .eq 1318, 3, 1838, 0)) rfl rfl).trans ceq
set_option maxRecDepth 30000 in
theorem w254_523 {ls : List AV} : wp C 254 (n + 1) 523 ls [] M b = (wp C 254 n 524 ls [aI (iZ 0)] M b) := (wp_s rfl rfl).trans rfl
set_option maxRecDepth 30000 in
theorem w254_524 {x0 : Int32} {ls : List AV} : wp C 254 (n + 1) 524 ls [aI x0] M b = (isB x0 ∧ cQ C (some (aI x0)) M) := (wp_s (x := (.ireturn, 1, 0, 0)) rfl rfl).trans (rt_Z rfl)
set_option maxRecDepth 30000 in
theorem w254_525 {v0 : AV} {o1 : Option Nat} {ls : List AV} : wp C 254 (n + 1) 525 (v0 :: aR o1 :: ls) [] M b = (wp C 254 n 526 (v0 :: aR o1 :: ls) [aR o1] M b) := (wp_s rfl rfl).trans rfl
set_option maxRecDepth 30000 in
theorem w254_526 {o0 : Option Nat} {r0 : Option Nat} {ls : List AV} : wp C 254 (n + 1) 526 (aR o0 :: ls) [aR r0] M b = (wp C 254 n 527 (aR o0 :: ls) [aR o0, aR r0] M b) := (wp_s rfl rfl).trans rfl
set_option maxRecDepth 30000 in
theorem w254_527 {v0 : AV} {v1 : AV} {v2 : AV} {v3 : AV} {p4 : Int32} {r0 : Option Nat} {r1 : Option Nat} {ls : List AV} : wp C 254 (n + 1) 527 (v0 :: v1 :: v2 :: v3 :: aI p4 :: ls) [aR r0, aR r1] M b = (wp C 254 n 529 (v0 :: v1 :: v2 :: v3 :: aI p4 :: ls) [aI p4, aR r0, aR r1] M b) := (wp_s rfl rfl).trans rfl
set_option maxRecDepth 30000 in
theorem w254_529 {x0 : Int32} {r1 : Option Nat} {r2 : Option Nat} {ls : List AV} : wp C 254 (n + 1) 529 ls [aI x0, aR r1, aR r2] M b = (wp C 254 n 530 ls [aI (iZ 1), aI x0, aR r1, aR r2] M b) := (wp_s rfl rfl).trans rfl
set_option maxRecDepth 30000 in
theorem w254_530 {x0 : Int32} {x1 : Int32} {r2 : Option Nat} {r3 : Option Nat} {ls : List AV} : wp C 254 (n + 1) 530 ls [aI x0, aI x1, aR r2, aR r3] M b = (wp C 254 n 531 ls [aI (x1 + x0), aR r2, aR r3] M b) := (wp_s rfl rfl).trans rfl
set_option maxRecDepth 30000 in
theorem w254_531 {x0 : Int32} {a1 : Nat} {r2 : Option Nat} {ls : List AV} : wp C 254 (n + 1) 531 ls [aI x0, aR (some a1), aR r2] M b = ((a1 = 60 ∧ inb x0 (cL C)) ∧ wp C 254 n 532 ls [aI (cS C (iN x0)), aR r2] M b) := (wp_s rfl rfl).trans rfl
set_option maxRecDepth 30000 in
theorem w254_532 {v0 : AV} {v1 : AV} {v2 : AV} {o3 : Option Nat} {x0 : Int32} {r1 : Option Nat} {ls : List AV} : wp C 254 (n + 1) 532 (v0 :: v1 :: v2 :: aR o3 :: ls) [aI x0, aR r1] M b = (wp C 254 n 533 (v0 :: v1 :: v2 :: aR o3 :: ls) [aR o3, aI x0, aR r1] M b) := (wp_s rfl rfl).trans rfl
set_option maxRecDepth 30000 in
theorem w254_533 {r0 : Option Nat} {x1 : Int32} {r2 : Option Nat} {ls : List AV} : wp C 254 (n + 1) 533 ls [aR r0, aI x1, aR r2] M b = (CALL C 237 [aR r2, aI x1, aR r0] M b (kR (wp C 254 n 536 ls) []) (cX C)) := (wp_s (x := (.invokestatic 122, 3, 237, 3)) rfl rfl).trans (cs_row (by decide) (Nat.le_of_ble_eq_true rfl) (Nat.le_of_ble_eq_true rfl))
set_option maxRecDepth 30000 in
theorem w254_536 {v0 : AV} {v1 : AV} {v2 : AV} {v3 : AV} {p4 : Int32} {v5 : AV} {x0 : Int32} {ls : List AV} : wp C 254 (n + 1) 536 (v0 :: v1 :: v2 :: v3 :: aI p4 :: v5 :: ls) [aI x0] M b = (wp C 254 n 538 (v0 :: v1 :: v2 :: v3 :: aI p4 :: aI x0 :: ls) [] M b) := (wp_s rfl rfl).trans rfl
set_option maxRecDepth 30000 in
theorem w254_538 {v0 : AV} {v1 : AV} {o2 : Option Nat} {ls : List AV} : wp C 254 (n + 1) 538 (v0 :: v1 :: aR o2 :: ls) [] M b = (wp C 254 n 539 (v0 :: v1 :: aR o2 :: ls) [aR o2] M b) := (wp_s rfl rfl).trans rfl
set_option maxRecDepth 30000 in
theorem w254_539 {o0 : Option Nat} {r0 : Option Nat} {ls : List AV} : wp C 254 (n + 1) 539 (aR o0 :: ls) [aR r0] M b = (wp C 254 n 540 (aR o0 :: ls) [aR o0, aR r0] M b) := (wp_s rfl rfl).trans rfl
set_option maxRecDepth 30000 in
theorem w254_540 {v0 : AV} {v1 : AV} {v2 : AV} {v3 : AV} {p4 : Int32} {r0 : Option Nat} {r1 : Option Nat} {ls : List AV} : wp C 254 (n + 1) 540 (v0 :: v1 :: v2 :: v3 :: aI p4 :: ls) [aR r0, aR r1] M b = (wp C 254 n 542 (v0 :: v1 :: v2 :: v3 :: aI p4 :: ls) [aI p4, aR r0, aR r1] M b) := (wp_s rfl rfl).trans rfl
set_option maxRecDepth 30000 in
theorem w254_542 {x0 : Int32} {r1 : Option Nat} {r2 : Option Nat} {ls : List AV} : wp C 254 (n + 1) 542 ls [aI x0, aR r1, aR r2] M b = (wp C 254 n 543 ls [aI (iZ 1), aI x0, aR r1, aR r2] M b) := (wp_s rfl rfl).trans rfl
set_option maxRecDepth 30000 in
theorem w254_543 {x0 : Int32} {x1 : Int32} {r2 : Option Nat} {r3 : Option Nat} {ls : List AV} : wp C 254 (n + 1) 543 ls [aI x0, aI x1, aR r2, aR r3] M b = (wp C 254 n 544 ls [aI (x1 + x0), aR r2, aR r3] M b) := (wp_s rfl rfl).trans rfl
set_option maxRecDepth 30000 in
theorem w254_544 {x0 : Int32} {a1 : Nat} {r2 : Option Nat} {ls : List AV} : wp C 254 (n + 1) 544 ls [aI x0, aR (some a1), aR r2] M b = ((a1 = 60 ∧ inb x0 (cL C)) ∧ wp C 254 n 545 ls [aI (cS C (iN x0)), aR r2] M b) := (wp_s rfl rfl).trans rfl
set_option maxRecDepth 30000 in
theorem w254_545 {x0 : Int32} {a1 : Nat} {ls : List AV} : wp C 254 (n + 1) 545 ls [aI x0, aR (some a1)] M b = (oB M a1 12 ∧ CALL C 57 [aR (some a1), aI x0] M b (kR (wp C 254 n 548 ls) []) (cX C)) := (wp_s (x := (.invokevirtual 124, 3, 57, 1)) rfl rfl).trans (cv_row (by decide) (Nat.le_of_ble_eq_true rfl) (Nat.le_of_ble_eq_true rfl) rfl)
set_option maxRecDepth 30000 in
theorem w254_548 {v0 : AV} {v1 : AV} {v2 : AV} {v3 : AV} {v4 : AV} {p5 : Int32} {v6 : AV} {x0 : Int32} {ls : List AV} : wp C 254 (n + 1) 548 (v0 :: v1 :: v2 :: v3 :: v4 :: aI p5 :: v6 :: ls) [aI x0] M b = (wp C 254 n 550 (v0 :: v1 :: v2 :: v3 :: v4 :: aI p5 :: aI x0 :: ls) [] M b) := (wp_s rfl rfl).trans rfl
set_option maxRecDepth 30000 in
theorem w254_550 {v0 : AV} {v1 : AV} {o2 : Option Nat} {ls : List AV} : wp C 254 (n + 1) 550 (v0 :: v1 :: aR o2 :: ls) [] M b = (wp C 254 n 551 (v0 :: v1 :: aR o2 :: ls) [aR o2] M b) := (wp_s rfl rfl).trans rfl
set_option maxRecDepth 30000 in
theorem w254_551 {a0 : Nat} {ls : List AV} : wp C 254 (n + 1) 551 ls [aR (some a0)] M b = (oB M a0 12 ∧ CALL C 19 [aR (some a0)] M b (kR (wp C 254 n 554 ls) []) (cX C)) := (wp_s (x := (.invokevirtual 96, 3, 19, 0)) rfl rfl).trans (cv_row (by decide) (Nat.le_of_ble_eq_true rfl) (Nat.le_of_ble_eq_true rfl) rfl)
set_option maxRecDepth 30000 in
theorem w254_554 {v0 : AV} {v1 : AV} {v2 : AV} {v3 : AV} {v4 : AV} {p5 : Int32} {x0 : Int32} {ls : List AV} : wp C 254 (n + 1) 554 (v0 :: v1 :: v2 :: v3 :: v4 :: aI p5 :: ls) [aI x0] M b = (wp C 254 n 556 (v0 :: v1 :: v2 :: v3 :: v4 :: aI p5 :: ls) [aI p5, aI x0] M b) := (wp_s rfl rfl).trans rfl
set_option maxRecDepth 30000 in
theorem w254_556 {x0 : Int32} {x1 : Int32} {ls : List AV} : wp C 254 (n + 1) 556 ls [aI x0, aI x1] M b = ((x1.toInt = x0.toInt → wp C 254 n 561 ls [] M b) ∧ (¬ x1.toInt = x0.toInt → wp C 254 n 559 ls [] M b)) := (wp_s (x := (.if_icmp .eq 5, 3, 561, 0)) rfl rfl).trans ceq
set_option maxRecDepth 30000 in
theorem w254_559 {ls : List AV} : wp C 254 (n + 1) 559 ls [] M b = (wp C 254 n 560 ls [aI (iZ 0)] M b) := (wp_s rfl rfl).trans rfl
set_option maxRecDepth 30000 in
theorem w254_560 {x0 : Int32} {ls : List AV} : wp C 254 (n + 1) 560 ls [aI x0] M b = (isB x0 ∧ cQ C (some (aI x0)) M) := (wp_s (x := (.ireturn, 1, 0, 0)) rfl rfl).trans (rt_Z rfl)
set_option maxRecDepth 30000 in
theorem w254_561 {v0 : AV} {v1 : AV} {v2 : AV} {v3 : AV} {v4 : AV} {p5 : Int32} {ls : List AV} : wp C 254 (n + 1) 561 (v0 :: v1 :: v2 :: v3 :: v4 :: aI p5 :: ls) [] M b = (wp C 254 n 563 (v0 :: v1 :: v2 :: v3 :: v4 :: aI p5 :: ls) [aI p5] M b) := (wp_s rfl rfl).trans rfl
set_option maxRecDepth 30000 in
theorem w254_563 {x0 : Int32} {ls : List AV} : wp C 254 (n + 1) 563 ls [aI x0] M b = ((x0.toInt = 0 → wp C 254 n 566 ls [] M b) ∧ (¬ x0.toInt = 0 → wp C 254 n 578 ls [] M b)) := (wp_s (x := (.ifCond .ne 15, 3, 578, 0)) rfl rfl).trans zne
set_option maxRecDepth 30000 in
theorem w254_566 {v0 : AV} {v1 : AV} {v2 : AV} {o3 : Option Nat} {ls : List AV} : wp C 254 (n + 1) 566 (v0 :: v1 :: v2 :: aR o3 :: ls) [] M b = (wp C 254 n 567 (v0 :: v1 :: v2 :: aR o3 :: ls) [aR o3] M b) := (wp_s rfl rfl).trans rfl
set_option maxRecDepth 30000 in
theorem w254_567 {r0 : Option Nat} {ls : List AV} : wp C 254 (n + 1) 567 ls [aR r0] M b = (wp C 254 n 568 ls [aI (iZ 0), aR r0] M b) := (wp_s rfl rfl).trans rfl
set_option maxRecDepth 30000 in
theorem w254_568 {x0 : Int32} {a1 : Nat} {ls : List AV} : wp C 254 (n + 1) 568 ls [aI x0, aR (some a1)] M b = (iA M a1 21 x0 ∧ wp C 254 n 569 ls [aL (mJ M a1 (iN x0))] M b) := (wp_s rfl rfl).trans rfl
set_option maxRecDepth 30000 in
theorem w254_569 {v0 : AV} {v1 : AV} {v2 : AV} {v3 : AV} {v4 : AV} {v5 : AV} {p6 : Int32} {y0 : Int64} {ls : List AV} : wp C 254 (n + 1) 569 (v0 :: v1 :: v2 :: v3 :: v4 :: v5 :: aI p6 :: ls) [aL y0] M b = (wp C 254 n 571 (v0 :: v1 :: v2 :: v3 :: v4 :: v5 :: aI p6 :: ls) [aI p6, aL y0] M b) := (wp_s rfl rfl).trans rfl
set_option maxRecDepth 30000 in
theorem w254_571 {x0 : Int32} {y1 : Int64} {ls : List AV} : wp C 254 (n + 1) 571 ls [aI x0, aL y1] M b = (wp C 254 n 572 ls [aL x0.toInt64, aL y1] M b) := (wp_s rfl rfl).trans rfl
set_option maxRecDepth 30000 in
theorem w254_572 {y0 : Int64} {y1 : Int64} {ls : List AV} : wp C 254 (n + 1) 572 ls [aL y0, aL y1] M b = (wp C 254 n 573 ls [aI (lg_cmp y1 y0)] M b) := (wp_s rfl rfl).trans rfl
set_option maxRecDepth 30000 in
theorem w254_573 {x0 : Int32} {ls : List AV} : wp C 254 (n + 1) 573 ls [aI x0] M b = ((x0.toInt = 0 → wp C 254 n 578 ls [] M b) ∧ (¬ x0.toInt = 0 → wp C 254 n 576 ls [] M b)) := (wp_s (x := (.ifCond .eq 5, 3, 578, 0)) rfl rfl).trans zeq
set_option maxRecDepth 30000 in
theorem w254_576 {ls : List AV} : wp C 254 (n + 1) 576 ls [] M b = (wp C 254 n 577 ls [aI (iZ 0)] M b) := (wp_s rfl rfl).trans rfl
set_option maxRecDepth 30000 in
theorem w254_577 {x0 : Int32} {ls : List AV} : wp C 254 (n + 1) 577 ls [aI x0] M b = (isB x0 ∧ cQ C (some (aI x0)) M) := (wp_s (x := (.ireturn, 1, 0, 0)) rfl rfl).trans (rt_Z rfl)
set_option maxRecDepth 30000 in
theorem w254_578 {ls : List AV} : wp C 254 (n + 1) 578 ls [] M b = (wp C 254 n 1838 ls [] M b) := (wp_s rfl rfl).trans rfl
set_option maxRecDepth 30000 in
theorem w254_581 {v0 : AV} {o1 : Option Nat} {ls : List AV} : wp C 254 (n + 1) 581 (v0 :: aR o1 :: ls) [] M b = (wp C 254 n 582 (v0 :: aR o1 :: ls) [aR o1] M b) := (wp_s rfl rfl).trans rfl
set_option maxRecDepth 30000 in
theorem w254_582 {o0 : Option Nat} {r0 : Option Nat} {ls : List AV} : wp C 254 (n + 1) 582 (aR o0 :: ls) [aR r0] M b = (wp C 254 n 583 (aR o0 :: ls) [aR o0, aR r0] M b) := (wp_s rfl rfl).trans rfl
set_option maxRecDepth 30000 in
theorem w254_583 {v0 : AV} {v1 : AV} {v2 : AV} {v3 : AV} {p4 : Int32} {r0 : Option Nat} {r1 : Option Nat} {ls : List AV} : wp C 254 (n + 1) 583 (v0 :: v1 :: v2 :: v3 :: aI p4 :: ls) [aR r0, aR r1] M b = (wp C 254 n 585 (v0 :: v1 :: v2 :: v3 :: aI p4 :: ls) [aI p4, aR r0, aR r1] M b) := (wp_s rfl rfl).trans rfl
set_option maxRecDepth 30000 in
theorem w254_585 {x0 : Int32} {r1 : Option Nat} {r2 : Option Nat} {ls : List AV} : wp C 254 (n + 1) 585 ls [aI x0, aR r1, aR r2] M b = (wp C 254 n 586 ls [aI (iZ 1), aI x0, aR r1, aR r2] M b) := (wp_s rfl rfl).trans rfl
set_option maxRecDepth 30000 in
theorem w254_586 {x0 : Int32} {x1 : Int32} {r2 : Option Nat} {r3 : Option Nat} {ls : List AV} : wp C 254 (n + 1) 586 ls [aI x0, aI x1, aR r2, aR r3] M b = (wp C 254 n 587 ls [aI (x1 + x0), aR r2, aR r3] M b) := (wp_s rfl rfl).trans rfl
set_option maxRecDepth 30000 in
theorem w254_587 {x0 : Int32} {a1 : Nat} {r2 : Option Nat} {ls : List AV} : wp C 254 (n + 1) 587 ls [aI x0, aR (some a1), aR r2] M b = ((a1 = 60 ∧ inb x0 (cL C)) ∧ wp C 254 n 588 ls [aI (cS C (iN x0)), aR r2] M b) := (wp_s rfl rfl).trans rfl
set_option maxRecDepth 30000 in
theorem w254_588 {o0 : Option Nat} {x0 : Int32} {r1 : Option Nat} {ls : List AV} : wp C 254 (n + 1) 588 (aR o0 :: ls) [aI x0, aR r1] M b = (wp C 254 n 589 (aR o0 :: ls) [aR o0, aI x0, aR r1] M b) := (wp_s rfl rfl).trans rfl
set_option maxRecDepth 30000 in
theorem w254_589 {v0 : AV} {v1 : AV} {v2 : AV} {v3 : AV} {p4 : Int32} {r0 : Option Nat} {x1 : Int32} {r2 : Option Nat} {ls : List AV} : wp C 254 (n + 1) 589 (v0 :: v1 :: v2 :: v3 :: aI p4 :: ls) [aR r0, aI x1, aR r2] M b = (wp C 254 n 591 (v0 :: v1 :: v2 :: v3 :: aI p4 :: ls) [aI p4, aR r0, aI x1, aR r2] M b) := (wp_s rfl rfl).trans rfl
set_option maxRecDepth 30000 in
theorem w254_591 {x0 : Int32} {r1 : Option Nat} {x2 : Int32} {r3 : Option Nat} {ls : List AV} : wp C 254 (n + 1) 591 ls [aI x0, aR r1, aI x2, aR r3] M b = (wp C 254 n 592 ls [aI (iZ 2), aI x0, aR r1, aI x2, aR r3] M b) := (wp_s rfl rfl).trans rfl
set_option maxRecDepth 30000 in
theorem w254_592 {x0 : Int32} {x1 : Int32} {r2 : Option Nat} {x3 : Int32} {r4 : Option Nat} {ls : List AV} : wp C 254 (n + 1) 592 ls [aI x0, aI x1, aR r2, aI x3, aR r4] M b = (wp C 254 n 593 ls [aI (x1 + x0), aR r2, aI x3, aR r4] M b) := (wp_s rfl rfl).trans rfl
set_option maxRecDepth 30000 in
theorem w254_593 {x0 : Int32} {a1 : Nat} {x2 : Int32} {r3 : Option Nat} {ls : List AV} : wp C 254 (n + 1) 593 ls [aI x0, aR (some a1), aI x2, aR r3] M b = ((a1 = 60 ∧ inb x0 (cL C)) ∧ wp C 254 n 594 ls [aI (cS C (iN x0)), aI x2, aR r3] M b) := (wp_s rfl rfl).trans rfl
set_option maxRecDepth 30000 in
theorem w254_594 {o0 : Option Nat} {x0 : Int32} {x1 : Int32} {r2 : Option Nat} {ls : List AV} : wp C 254 (n + 1) 594 (aR o0 :: ls) [aI x0, aI x1, aR r2] M b = (wp C 254 n 595 (aR o0 :: ls) [aR o0, aI x0, aI x1, aR r2] M b) := (wp_s rfl rfl).trans rfl
set_option maxRecDepth 30000 in
theorem w254_595 {v0 : AV} {v1 : AV} {v2 : AV} {v3 : AV} {p4 : Int32} {r0 : Option Nat} {x1 : Int32} {x2 : Int32} {r3 : Option Nat} {ls : List AV} : wp C 254 (n + 1) 595 (v0 :: v1 :: v2 :: v3 :: aI p4 :: ls) [aR r0, aI x1, aI x2, aR r3] M b = (wp C 254 n 597 (v0 :: v1 :: v2 :: v3 :: aI p4 :: ls) [aI p4, aR r0, aI x1, aI x2, aR r3] M b) := (wp_s rfl rfl).trans rfl
set_option maxRecDepth 30000 in
theorem w254_597 {x0 : Int32} {r1 : Option Nat} {x2 : Int32} {x3 : Int32} {r4 : Option Nat} {ls : List AV} : wp C 254 (n + 1) 597 ls [aI x0, aR r1, aI x2, aI x3, aR r4] M b = (wp C 254 n 598 ls [aI (iZ 3), aI x0, aR r1, aI x2, aI x3, aR r4] M b) := (wp_s rfl rfl).trans rfl
set_option maxRecDepth 30000 in
theorem w254_598 {x0 : Int32} {x1 : Int32} {r2 : Option Nat} {x3 : Int32} {x4 : Int32} {r5 : Option Nat} {ls : List AV} : wp C 254 (n + 1) 598 ls [aI x0, aI x1, aR r2, aI x3, aI x4, aR r5] M b = (wp C 254 n 599 ls [aI (x1 + x0), aR r2, aI x3, aI x4, aR r5] M b) := (wp_s rfl rfl).trans rfl
set_option maxRecDepth 30000 in
theorem w254_599 {x0 : Int32} {a1 : Nat} {x2 : Int32} {x3 : Int32} {r4 : Option Nat} {ls : List AV} : wp C 254 (n + 1) 599 ls [aI x0, aR (some a1), aI x2, aI x3, aR r4] M b = ((a1 = 60 ∧ inb x0 (cL C)) ∧ wp C 254 n 600 ls [aI (cS C (iN x0)), aI x2, aI x3, aR r4] M b) := (wp_s rfl rfl).trans rfl
set_option maxRecDepth 30000 in
theorem w254_600 {v0 : AV} {v1 : AV} {v2 : AV} {o3 : Option Nat} {x0 : Int32} {x1 : Int32} {x2 : Int32} {r3 : Option Nat} {ls : List AV} : wp C 254 (n + 1) 600 (v0 :: v1 :: v2 :: aR o3 :: ls) [aI x0, aI x1, aI x2, aR r3] M b = (wp C 254 n 601 (v0 :: v1 :: v2 :: aR o3 :: ls) [aR o3, aI x0, aI x1, aI x2, aR r3] M b) := (wp_s rfl rfl).trans rfl
set_option maxRecDepth 30000 in
theorem w254_601 {r0 : Option Nat} {x1 : Int32} {x2 : Int32} {x3 : Int32} {r4 : Option Nat} {ls : List AV} : wp C 254 (n + 1) 601 ls [aR r0, aI x1, aI x2, aI x3, aR r4] M b = (CALL C 238 [aR r4, aI x3, aI x2, aI x1, aR r0] M b (kR (wp C 254 n 604 ls) []) (cX C)) := (wp_s (x := (.invokestatic 125, 3, 238, 5)) rfl rfl).trans (cs_row (by decide) (Nat.le_of_ble_eq_true rfl) (Nat.le_of_ble_eq_true rfl))
set_option maxRecDepth 30000 in
theorem w254_604 {v0 : AV} {v1 : AV} {v2 : AV} {v3 : AV} {p4 : Int32} {v5 : AV} {x0 : Int32} {ls : List AV} : wp C 254 (n + 1) 604 (v0 :: v1 :: v2 :: v3 :: aI p4 :: v5 :: ls) [aI x0] M b = (wp C 254 n 606 (v0 :: v1 :: v2 :: v3 :: aI p4 :: aI x0 :: ls) [] M b) := (wp_s rfl rfl).trans rfl
set_option maxRecDepth 30000 in
theorem w254_606 {v0 : AV} {v1 : AV} {o2 : Option Nat} {ls : List AV} : wp C 254 (n + 1) 606 (v0 :: v1 :: aR o2 :: ls) [] M b = (wp C 254 n 607 (v0 :: v1 :: aR o2 :: ls) [aR o2] M b) := (wp_s rfl rfl).trans rfl
set_option maxRecDepth 30000 in
theorem w254_607 {o0 : Option Nat} {r0 : Option Nat} {ls : List AV} : wp C 254 (n + 1) 607 (aR o0 :: ls) [aR r0] M b = (wp C 254 n 608 (aR o0 :: ls) [aR o0, aR r0] M b) := (wp_s rfl rfl).trans rfl
set_option maxRecDepth 30000 in
theorem w254_608 {v0 : AV} {v1 : AV} {v2 : AV} {v3 : AV} {p4 : Int32} {r0 : Option Nat} {r1 : Option Nat} {ls : List AV} : wp C 254 (n + 1) 608 (v0 :: v1 :: v2 :: v3 :: aI p4 :: ls) [aR r0, aR r1] M b = (wp C 254 n 610 (v0 :: v1 :: v2 :: v3 :: aI p4 :: ls) [aI p4, aR r0, aR r1] M b) := (wp_s rfl rfl).trans rfl
set_option maxRecDepth 30000 in
theorem w254_610 {x0 : Int32} {r1 : Option Nat} {r2 : Option Nat} {ls : List AV} : wp C 254 (n + 1) 610 ls [aI x0, aR r1, aR r2] M b = (wp C 254 n 611 ls [aI (iZ 1), aI x0, aR r1, aR r2] M b) := (wp_s rfl rfl).trans rfl
set_option maxRecDepth 30000 in
theorem w254_611 {x0 : Int32} {x1 : Int32} {r2 : Option Nat} {r3 : Option Nat} {ls : List AV} : wp C 254 (n + 1) 611 ls [aI x0, aI x1, aR r2, aR r3] M b = (wp C 254 n 612 ls [aI (x1 + x0), aR r2, aR r3] M b) := (wp_s rfl rfl).trans rfl
set_option maxRecDepth 30000 in
theorem w254_612 {x0 : Int32} {a1 : Nat} {r2 : Option Nat} {ls : List AV} : wp C 254 (n + 1) 612 ls [aI x0, aR (some a1), aR r2] M b = ((a1 = 60 ∧ inb x0 (cL C)) ∧ wp C 254 n 613 ls [aI (cS C (iN x0)), aR r2] M b) := (wp_s rfl rfl).trans rfl
set_option maxRecDepth 30000 in
theorem w254_613 {o0 : Option Nat} {x0 : Int32} {r1 : Option Nat} {ls : List AV} : wp C 254 (n + 1) 613 (aR o0 :: ls) [aI x0, aR r1] M b = (wp C 254 n 614 (aR o0 :: ls) [aR o0, aI x0, aR r1] M b) := (wp_s rfl rfl).trans rfl
set_option maxRecDepth 30000 in
theorem w254_614 {v0 : AV} {v1 : AV} {v2 : AV} {v3 : AV} {p4 : Int32} {r0 : Option Nat} {x1 : Int32} {r2 : Option Nat} {ls : List AV} : wp C 254 (n + 1) 614 (v0 :: v1 :: v2 :: v3 :: aI p4 :: ls) [aR r0, aI x1, aR r2] M b = (wp C 254 n 616 (v0 :: v1 :: v2 :: v3 :: aI p4 :: ls) [aI p4, aR r0, aI x1, aR r2] M b) := (wp_s rfl rfl).trans rfl
set_option maxRecDepth 30000 in
theorem w254_616 {x0 : Int32} {r1 : Option Nat} {x2 : Int32} {r3 : Option Nat} {ls : List AV} : wp C 254 (n + 1) 616 ls [aI x0, aR r1, aI x2, aR r3] M b = (wp C 254 n 617 ls [aI (iZ 2), aI x0, aR r1, aI x2, aR r3] M b) := (wp_s rfl rfl).trans rfl
set_option maxRecDepth 30000 in
theorem w254_617 {x0 : Int32} {x1 : Int32} {r2 : Option Nat} {x3 : Int32} {r4 : Option Nat} {ls : List AV} : wp C 254 (n + 1) 617 ls [aI x0, aI x1, aR r2, aI x3, aR r4] M b = (wp C 254 n 618 ls [aI (x1 + x0), aR r2, aI x3, aR r4] M b) := (wp_s rfl rfl).trans rfl
set_option maxRecDepth 30000 in
theorem w254_618 {x0 : Int32} {a1 : Nat} {x2 : Int32} {r3 : Option Nat} {ls : List AV} : wp C 254 (n + 1) 618 ls [aI x0, aR (some a1), aI x2, aR r3] M b = ((a1 = 60 ∧ inb x0 (cL C)) ∧ wp C 254 n 619 ls [aI (cS C (iN x0)), aI x2, aR r3] M b) := (wp_s rfl rfl).trans rfl
set_option maxRecDepth 30000 in
theorem w254_619 {o0 : Option Nat} {x0 : Int32} {x1 : Int32} {r2 : Option Nat} {ls : List AV} : wp C 254 (n + 1) 619 (aR o0 :: ls) [aI x0, aI x1, aR r2] M b = (wp C 254 n 620 (aR o0 :: ls) [aR o0, aI x0, aI x1, aR r2] M b) := (wp_s rfl rfl).trans rfl
set_option maxRecDepth 30000 in
theorem w254_620 {v0 : AV} {v1 : AV} {v2 : AV} {v3 : AV} {p4 : Int32} {r0 : Option Nat} {x1 : Int32} {x2 : Int32} {r3 : Option Nat} {ls : List AV} : wp C 254 (n + 1) 620 (v0 :: v1 :: v2 :: v3 :: aI p4 :: ls) [aR r0, aI x1, aI x2, aR r3] M b = (wp C 254 n 622 (v0 :: v1 :: v2 :: v3 :: aI p4 :: ls) [aI p4, aR r0, aI x1, aI x2, aR r3] M b) := (wp_s rfl rfl).trans rfl
set_option maxRecDepth 30000 in
theorem w254_622 {x0 : Int32} {r1 : Option Nat} {x2 : Int32} {x3 : Int32} {r4 : Option Nat} {ls : List AV} : wp C 254 (n + 1) 622 ls [aI x0, aR r1, aI x2, aI x3, aR r4] M b = (wp C 254 n 623 ls [aI (iZ 3), aI x0, aR r1, aI x2, aI x3, aR r4] M b) := (wp_s rfl rfl).trans rfl
set_option maxRecDepth 30000 in
theorem w254_623 {x0 : Int32} {x1 : Int32} {r2 : Option Nat} {x3 : Int32} {x4 : Int32} {r5 : Option Nat} {ls : List AV} : wp C 254 (n + 1) 623 ls [aI x0, aI x1, aR r2, aI x3, aI x4, aR r5] M b = (wp C 254 n 624 ls [aI (x1 + x0), aR r2, aI x3, aI x4, aR r5] M b) := (wp_s rfl rfl).trans rfl
set_option maxRecDepth 30000 in
theorem w254_624 {x0 : Int32} {a1 : Nat} {x2 : Int32} {x3 : Int32} {r4 : Option Nat} {ls : List AV} : wp C 254 (n + 1) 624 ls [aI x0, aR (some a1), aI x2, aI x3, aR r4] M b = ((a1 = 60 ∧ inb x0 (cL C)) ∧ wp C 254 n 625 ls [aI (cS C (iN x0)), aI x2, aI x3, aR r4] M b) := (wp_s rfl rfl).trans rfl
set_option maxRecDepth 30000 in
theorem w254_625 {x0 : Int32} {x1 : Int32} {x2 : Int32} {a3 : Nat} {ls : List AV} : wp C 254 (n + 1) 625 ls [aI x0, aI x1, aI x2, aR (some a3)] M b = (oB M a3 12 ∧ CALL C 58 [aR (some a3), aI x2, aI x1, aI x0] M b (kR (wp C 254 n 628 ls) []) (cX C)) := (wp_s (x := (.invokevirtual 128, 3, 58, 3)) rfl rfl).trans (cv_row (by decide) (Nat.le_of_ble_eq_true rfl) (Nat.le_of_ble_eq_true rfl) rfl)
set_option maxRecDepth 30000 in
theorem w254_628 {v0 : AV} {v1 : AV} {v2 : AV} {v3 : AV} {v4 : AV} {p5 : Int32} {v6 : AV} {x0 : Int32} {ls : List AV} : wp C 254 (n + 1) 628 (v0 :: v1 :: v2 :: v3 :: v4 :: aI p5 :: v6 :: ls) [aI x0] M b = (wp C 254 n 630 (v0 :: v1 :: v2 :: v3 :: v4 :: aI p5 :: aI x0 :: ls) [] M b) := (wp_s rfl rfl).trans rfl
set_option maxRecDepth 30000 in
theorem w254_630 {v0 : AV} {v1 : AV} {o2 : Option Nat} {ls : List AV} : wp C 254 (n + 1) 630 (v0 :: v1 :: aR o2 :: ls) [] M b = (wp C 254 n 631 (v0 :: v1 :: aR o2 :: ls) [aR o2] M b) := (wp_s rfl rfl).trans rfl
set_option maxRecDepth 30000 in
theorem w254_631 {a0 : Nat} {ls : List AV} : wp C 254 (n + 1) 631 ls [aR (some a0)] M b = (oB M a0 12 ∧ CALL C 19 [aR (some a0)] M b (kR (wp C 254 n 634 ls) []) (cX C)) := (wp_s (x := (.invokevirtual 96, 3, 19, 0)) rfl rfl).trans (cv_row (by decide) (Nat.le_of_ble_eq_true rfl) (Nat.le_of_ble_eq_true rfl) rfl)
set_option maxRecDepth 30000 in
theorem w254_634 {v0 : AV} {v1 : AV} {v2 : AV} {v3 : AV} {v4 : AV} {p5 : Int32} {x0 : Int32} {ls : List AV} : wp C 254 (n + 1) 634 (v0 :: v1 :: v2 :: v3 :: v4 :: aI p5 :: ls) [aI x0] M b = (wp C 254 n 636 (v0 :: v1 :: v2 :: v3 :: v4 :: aI p5 :: ls) [aI p5, aI x0] M b) := (wp_s rfl rfl).trans rfl
set_option maxRecDepth 30000 in
theorem w254_636 {x0 : Int32} {x1 : Int32} {ls : List AV} : wp C 254 (n + 1) 636 ls [aI x0, aI x1] M b = ((x1.toInt = x0.toInt → wp C 254 n 641 ls [] M b) ∧ (¬ x1.toInt = x0.toInt → wp C 254 n 639 ls [] M b)) := (wp_s (x := (.if_icmp .eq 5, 3, 641, 0)) rfl rfl).trans ceq
set_option maxRecDepth 30000 in
theorem w254_639 {ls : List AV} : wp C 254 (n + 1) 639 ls [] M b = (wp C 254 n 640 ls [aI (iZ 0)] M b) := (wp_s rfl rfl).trans rfl
set_option maxRecDepth 30000 in
theorem w254_640 {x0 : Int32} {ls : List AV} : wp C 254 (n + 1) 640 ls [aI x0] M b = (isB x0 ∧ cQ C (some (aI x0)) M) := (wp_s (x := (.ireturn, 1, 0, 0)) rfl rfl).trans (rt_Z rfl)
set_option maxRecDepth 30000 in
theorem w254_641 {v0 : AV} {v1 : AV} {v2 : AV} {v3 : AV} {v4 : AV} {p5 : Int32} {ls : List AV} : wp C 254 (n + 1) 641 (v0 :: v1 :: v2 :: v3 :: v4 :: aI p5 :: ls) [] M b = (wp C 254 n 643 (v0 :: v1 :: v2 :: v3 :: v4 :: aI p5 :: ls) [aI p5] M b) := (wp_s rfl rfl).trans rfl
set_option maxRecDepth 30000 in
theorem w254_643 {x0 : Int32} {ls : List AV} : wp C 254 (n + 1) 643 ls [aI x0] M b = ((x0.toInt = 0 → wp C 254 n 646 ls [] M b) ∧ (¬ x0.toInt = 0 → wp C 254 n 658 ls [] M b)) := (wp_s (x := (.ifCond .ne 15, 3, 658, 0)) rfl rfl).trans zne
set_option maxRecDepth 30000 in
theorem w254_646 {v0 : AV} {v1 : AV} {v2 : AV} {o3 : Option Nat} {ls : List AV} : wp C 254 (n + 1) 646 (v0 :: v1 :: v2 :: aR o3 :: ls) [] M b = (wp C 254 n 647 (v0 :: v1 :: v2 :: aR o3 :: ls) [aR o3] M b) := (wp_s rfl rfl).trans rfl
set_option maxRecDepth 30000 in
theorem w254_647 {r0 : Option Nat} {ls : List AV} : wp C 254 (n + 1) 647 ls [aR r0] M b = (wp C 254 n 648 ls [aI (iZ 0), aR r0] M b) := (wp_s rfl rfl).trans rfl
set_option maxRecDepth 30000 in
theorem w254_648 {x0 : Int32} {a1 : Nat} {ls : List AV} : wp C 254 (n + 1) 648 ls [aI x0, aR (some a1)] M b = (iA M a1 21 x0 ∧ wp C 254 n 649 ls [aL (mJ M a1 (iN x0))] M b) := (wp_s rfl rfl).trans rfl
set_option maxRecDepth 30000 in
theorem w254_649 {v0 : AV} {v1 : AV} {v2 : AV} {v3 : AV} {v4 : AV} {v5 : AV} {p6 : Int32} {y0 : Int64} {ls : List AV} : wp C 254 (n + 1) 649 (v0 :: v1 :: v2 :: v3 :: v4 :: v5 :: aI p6 :: ls) [aL y0] M b = (wp C 254 n 651 (v0 :: v1 :: v2 :: v3 :: v4 :: v5 :: aI p6 :: ls) [aI p6, aL y0] M b) := (wp_s rfl rfl).trans rfl
set_option maxRecDepth 30000 in
theorem w254_651 {x0 : Int32} {y1 : Int64} {ls : List AV} : wp C 254 (n + 1) 651 ls [aI x0, aL y1] M b = (wp C 254 n 652 ls [aL x0.toInt64, aL y1] M b) := (wp_s rfl rfl).trans rfl
set_option maxRecDepth 30000 in
theorem w254_652 {y0 : Int64} {y1 : Int64} {ls : List AV} : wp C 254 (n + 1) 652 ls [aL y0, aL y1] M b = (wp C 254 n 653 ls [aI (lg_cmp y1 y0)] M b) := (wp_s rfl rfl).trans rfl
set_option maxRecDepth 30000 in
theorem w254_653 {x0 : Int32} {ls : List AV} : wp C 254 (n + 1) 653 ls [aI x0] M b = ((x0.toInt = 0 → wp C 254 n 658 ls [] M b) ∧ (¬ x0.toInt = 0 → wp C 254 n 656 ls [] M b)) := (wp_s (x := (.ifCond .eq 5, 3, 658, 0)) rfl rfl).trans zeq
set_option maxRecDepth 30000 in
theorem w254_656 {ls : List AV} : wp C 254 (n + 1) 656 ls [] M b = (wp C 254 n 657 ls [aI (iZ 0)] M b) := (wp_s rfl rfl).trans rfl
set_option maxRecDepth 30000 in
theorem w254_657 {x0 : Int32} {ls : List AV} : wp C 254 (n + 1) 657 ls [aI x0] M b = (isB x0 ∧ cQ C (some (aI x0)) M) := (wp_s (x := (.ireturn, 1, 0, 0)) rfl rfl).trans (rt_Z rfl)
set_option maxRecDepth 30000 in
theorem w254_658 {ls : List AV} : wp C 254 (n + 1) 658 ls [] M b = (wp C 254 n 1838 ls [] M b) := (wp_s rfl rfl).trans rfl
set_option maxRecDepth 30000 in
theorem w254_661 {v0 : AV} {o1 : Option Nat} {ls : List AV} : wp C 254 (n + 1) 661 (v0 :: aR o1 :: ls) [] M b = (wp C 254 n 662 (v0 :: aR o1 :: ls) [aR o1] M b) := (wp_s rfl rfl).trans rfl
set_option maxRecDepth 30000 in
theorem w254_662 {o0 : Option Nat} {r0 : Option Nat} {ls : List AV} : wp C 254 (n + 1) 662 (aR o0 :: ls) [aR r0] M b = (wp C 254 n 663 (aR o0 :: ls) [aR o0, aR r0] M b) := (wp_s rfl rfl).trans rfl
set_option maxRecDepth 30000 in
theorem w254_663 {v0 : AV} {v1 : AV} {v2 : AV} {v3 : AV} {p4 : Int32} {r0 : Option Nat} {r1 : Option Nat} {ls : List AV} : wp C 254 (n + 1) 663 (v0 :: v1 :: v2 :: v3 :: aI p4 :: ls) [aR r0, aR r1] M b = (wp C 254 n 665 (v0 :: v1 :: v2 :: v3 :: aI p4 :: ls) [aI p4, aR r0, aR r1] M b) := (wp_s rfl rfl).trans rfl
set_option maxRecDepth 30000 in
theorem w254_665 {x0 : Int32} {r1 : Option Nat} {r2 : Option Nat} {ls : List AV} : wp C 254 (n + 1) 665 ls [aI x0, aR r1, aR r2] M b = (wp C 254 n 666 ls [aI (iZ 1), aI x0, aR r1, aR r2] M b) := (wp_s rfl rfl).trans rfl
set_option maxRecDepth 30000 in
theorem w254_666 {x0 : Int32} {x1 : Int32} {r2 : Option Nat} {r3 : Option Nat} {ls : List AV} : wp C 254 (n + 1) 666 ls [aI x0, aI x1, aR r2, aR r3] M b = (wp C 254 n 667 ls [aI (x1 + x0), aR r2, aR r3] M b) := (wp_s rfl rfl).trans rfl
set_option maxRecDepth 30000 in
theorem w254_667 {x0 : Int32} {a1 : Nat} {r2 : Option Nat} {ls : List AV} : wp C 254 (n + 1) 667 ls [aI x0, aR (some a1), aR r2] M b = ((a1 = 60 ∧ inb x0 (cL C)) ∧ wp C 254 n 668 ls [aI (cS C (iN x0)), aR r2] M b) := (wp_s rfl rfl).trans rfl
set_option maxRecDepth 30000 in
theorem w254_668 {o0 : Option Nat} {x0 : Int32} {r1 : Option Nat} {ls : List AV} : wp C 254 (n + 1) 668 (aR o0 :: ls) [aI x0, aR r1] M b = (wp C 254 n 669 (aR o0 :: ls) [aR o0, aI x0, aR r1] M b) := (wp_s rfl rfl).trans rfl
set_option maxRecDepth 30000 in
theorem w254_669 {v0 : AV} {v1 : AV} {v2 : AV} {v3 : AV} {p4 : Int32} {r0 : Option Nat} {x1 : Int32} {r2 : Option Nat} {ls : List AV} : wp C 254 (n + 1) 669 (v0 :: v1 :: v2 :: v3 :: aI p4 :: ls) [aR r0, aI x1, aR r2] M b = (wp C 254 n 671 (v0 :: v1 :: v2 :: v3 :: aI p4 :: ls) [aI p4, aR r0, aI x1, aR r2] M b) := (wp_s rfl rfl).trans rfl
set_option maxRecDepth 30000 in
theorem w254_671 {x0 : Int32} {r1 : Option Nat} {x2 : Int32} {r3 : Option Nat} {ls : List AV} : wp C 254 (n + 1) 671 ls [aI x0, aR r1, aI x2, aR r3] M b = (wp C 254 n 672 ls [aI (iZ 2), aI x0, aR r1, aI x2, aR r3] M b) := (wp_s rfl rfl).trans rfl
set_option maxRecDepth 30000 in
theorem w254_672 {x0 : Int32} {x1 : Int32} {r2 : Option Nat} {x3 : Int32} {r4 : Option Nat} {ls : List AV} : wp C 254 (n + 1) 672 ls [aI x0, aI x1, aR r2, aI x3, aR r4] M b = (wp C 254 n 673 ls [aI (x1 + x0), aR r2, aI x3, aR r4] M b) := (wp_s rfl rfl).trans rfl
set_option maxRecDepth 30000 in
theorem w254_673 {x0 : Int32} {a1 : Nat} {x2 : Int32} {r3 : Option Nat} {ls : List AV} : wp C 254 (n + 1) 673 ls [aI x0, aR (some a1), aI x2, aR r3] M b = ((a1 = 60 ∧ inb x0 (cL C)) ∧ wp C 254 n 674 ls [aI (cS C (iN x0)), aI x2, aR r3] M b) := (wp_s rfl rfl).trans rfl
set_option maxRecDepth 30000 in
theorem w254_674 {o0 : Option Nat} {x0 : Int32} {x1 : Int32} {r2 : Option Nat} {ls : List AV} : wp C 254 (n + 1) 674 (aR o0 :: ls) [aI x0, aI x1, aR r2] M b = (wp C 254 n 675 (aR o0 :: ls) [aR o0, aI x0, aI x1, aR r2] M b) := (wp_s rfl rfl).trans rfl
set_option maxRecDepth 30000 in
theorem w254_675 {v0 : AV} {v1 : AV} {v2 : AV} {v3 : AV} {p4 : Int32} {r0 : Option Nat} {x1 : Int32} {x2 : Int32} {r3 : Option Nat} {ls : List AV} : wp C 254 (n + 1) 675 (v0 :: v1 :: v2 :: v3 :: aI p4 :: ls) [aR r0, aI x1, aI x2, aR r3] M b = (wp C 254 n 677 (v0 :: v1 :: v2 :: v3 :: aI p4 :: ls) [aI p4, aR r0, aI x1, aI x2, aR r3] M b) := (wp_s rfl rfl).trans rfl
set_option maxRecDepth 30000 in
theorem w254_677 {x0 : Int32} {r1 : Option Nat} {x2 : Int32} {x3 : Int32} {r4 : Option Nat} {ls : List AV} : wp C 254 (n + 1) 677 ls [aI x0, aR r1, aI x2, aI x3, aR r4] M b = (wp C 254 n 678 ls [aI (iZ 3), aI x0, aR r1, aI x2, aI x3, aR r4] M b) := (wp_s rfl rfl).trans rfl
set_option maxRecDepth 30000 in
theorem w254_678 {x0 : Int32} {x1 : Int32} {r2 : Option Nat} {x3 : Int32} {x4 : Int32} {r5 : Option Nat} {ls : List AV} : wp C 254 (n + 1) 678 ls [aI x0, aI x1, aR r2, aI x3, aI x4, aR r5] M b = (wp C 254 n 679 ls [aI (x1 + x0), aR r2, aI x3, aI x4, aR r5] M b) := (wp_s rfl rfl).trans rfl
set_option maxRecDepth 30000 in
theorem w254_679 {x0 : Int32} {a1 : Nat} {x2 : Int32} {x3 : Int32} {r4 : Option Nat} {ls : List AV} : wp C 254 (n + 1) 679 ls [aI x0, aR (some a1), aI x2, aI x3, aR r4] M b = ((a1 = 60 ∧ inb x0 (cL C)) ∧ wp C 254 n 680 ls [aI (cS C (iN x0)), aI x2, aI x3, aR r4] M b) := (wp_s rfl rfl).trans rfl
set_option maxRecDepth 30000 in
theorem w254_680 {o0 : Option Nat} {x0 : Int32} {x1 : Int32} {x2 : Int32} {r3 : Option Nat} {ls : List AV} : wp C 254 (n + 1) 680 (aR o0 :: ls) [aI x0, aI x1, aI x2, aR r3] M b = (wp C 254 n 681 (aR o0 :: ls) [aR o0, aI x0, aI x1, aI x2, aR r3] M b) := (wp_s rfl rfl).trans rfl
set_option maxRecDepth 30000 in
theorem w254_681 {v0 : AV} {v1 : AV} {v2 : AV} {v3 : AV} {p4 : Int32} {r0 : Option Nat} {x1 : Int32} {x2 : Int32} {x3 : Int32} {r4 : Option Nat} {ls : List AV} : wp C 254 (n + 1) 681 (v0 :: v1 :: v2 :: v3 :: aI p4 :: ls) [aR r0, aI x1, aI x2, aI x3, aR r4] M b = (wp C 254 n 683 (v0 :: v1 :: v2 :: v3 :: aI p4 :: ls) [aI p4, aR r0, aI x1, aI x2, aI x3, aR r4] M b) := (wp_s rfl rfl).trans rfl
set_option maxRecDepth 30000 in
theorem w254_683 {x0 : Int32} {r1 : Option Nat} {x2 : Int32} {x3 : Int32} {x4 : Int32} {r5 : Option Nat} {ls : List AV} : wp C 254 (n + 1) 683 ls [aI x0, aR r1, aI x2, aI x3, aI x4, aR r5] M b = (wp C 254 n 684 ls [aI (iZ 4), aI x0, aR r1, aI x2, aI x3, aI x4, aR r5] M b) := (wp_s rfl rfl).trans rfl
set_option maxRecDepth 30000 in
theorem w254_684 {x0 : Int32} {x1 : Int32} {r2 : Option Nat} {x3 : Int32} {x4 : Int32} {x5 : Int32} {r6 : Option Nat} {ls : List AV} : wp C 254 (n + 1) 684 ls [aI x0, aI x1, aR r2, aI x3, aI x4, aI x5, aR r6] M b = (wp C 254 n 685 ls [aI (x1 + x0), aR r2, aI x3, aI x4, aI x5, aR r6] M b) := (wp_s rfl rfl).trans rfl
set_option maxRecDepth 30000 in
theorem w254_685 {x0 : Int32} {a1 : Nat} {x2 : Int32} {x3 : Int32} {x4 : Int32} {r5 : Option Nat} {ls : List AV} : wp C 254 (n + 1) 685 ls [aI x0, aR (some a1), aI x2, aI x3, aI x4, aR r5] M b = ((a1 = 60 ∧ inb x0 (cL C)) ∧ wp C 254 n 686 ls [aI (cS C (iN x0)), aI x2, aI x3, aI x4, aR r5] M b) := (wp_s rfl rfl).trans rfl
set_option maxRecDepth 30000 in
theorem w254_686 {o0 : Option Nat} {x0 : Int32} {x1 : Int32} {x2 : Int32} {x3 : Int32} {r4 : Option Nat} {ls : List AV} : wp C 254 (n + 1) 686 (aR o0 :: ls) [aI x0, aI x1, aI x2, aI x3, aR r4] M b = (wp C 254 n 687 (aR o0 :: ls) [aR o0, aI x0, aI x1, aI x2, aI x3, aR r4] M b) := (wp_s rfl rfl).trans rfl
set_option maxRecDepth 30000 in
theorem w254_687 {v0 : AV} {v1 : AV} {v2 : AV} {v3 : AV} {p4 : Int32} {r0 : Option Nat} {x1 : Int32} {x2 : Int32} {x3 : Int32} {x4 : Int32} {r5 : Option Nat} {ls : List AV} : wp C 254 (n + 1) 687 (v0 :: v1 :: v2 :: v3 :: aI p4 :: ls) [aR r0, aI x1, aI x2, aI x3, aI x4, aR r5] M b = (wp C 254 n 689 (v0 :: v1 :: v2 :: v3 :: aI p4 :: ls) [aI p4, aR r0, aI x1, aI x2, aI x3, aI x4, aR r5] M b) := (wp_s rfl rfl).trans rfl
set_option maxRecDepth 30000 in
theorem w254_689 {x0 : Int32} {r1 : Option Nat} {x2 : Int32} {x3 : Int32} {x4 : Int32} {x5 : Int32} {r6 : Option Nat} {ls : List AV} : wp C 254 (n + 1) 689 ls [aI x0, aR r1, aI x2, aI x3, aI x4, aI x5, aR r6] M b = (wp C 254 n 690 ls [aI (iZ 5), aI x0, aR r1, aI x2, aI x3, aI x4, aI x5, aR r6] M b) := (wp_s rfl rfl).trans rfl
set_option maxRecDepth 30000 in
theorem w254_690 {x0 : Int32} {x1 : Int32} {r2 : Option Nat} {x3 : Int32} {x4 : Int32} {x5 : Int32} {x6 : Int32} {r7 : Option Nat} {ls : List AV} : wp C 254 (n + 1) 690 ls [aI x0, aI x1, aR r2, aI x3, aI x4, aI x5, aI x6, aR r7] M b = (wp C 254 n 691 ls [aI (x1 + x0), aR r2, aI x3, aI x4, aI x5, aI x6, aR r7] M b) := (wp_s rfl rfl).trans rfl
set_option maxRecDepth 30000 in
theorem w254_691 {x0 : Int32} {a1 : Nat} {x2 : Int32} {x3 : Int32} {x4 : Int32} {x5 : Int32} {r6 : Option Nat} {ls : List AV} : wp C 254 (n + 1) 691 ls [aI x0, aR (some a1), aI x2, aI x3, aI x4, aI x5, aR r6] M b = ((a1 = 60 ∧ inb x0 (cL C)) ∧ wp C 254 n 692 ls [aI (cS C (iN x0)), aI x2, aI x3, aI x4, aI x5, aR r6] M b) := (wp_s rfl rfl).trans rfl
set_option maxRecDepth 30000 in
theorem w254_692 {v0 : AV} {v1 : AV} {v2 : AV} {o3 : Option Nat} {x0 : Int32} {x1 : Int32} {x2 : Int32} {x3 : Int32} {x4 : Int32} {r5 : Option Nat} {ls : List AV} : wp C 254 (n + 1) 692 (v0 :: v1 :: v2 :: aR o3 :: ls) [aI x0, aI x1, aI x2, aI x3, aI x4, aR r5] M b = (wp C 254 n 693 (v0 :: v1 :: v2 :: aR o3 :: ls) [aR o3, aI x0, aI x1, aI x2, aI x3, aI x4, aR r5] M b) := (wp_s rfl rfl).trans rfl
set_option maxRecDepth 30000 in
theorem w254_693 {r0 : Option Nat} {x1 : Int32} {x2 : Int32} {x3 : Int32} {x4 : Int32} {x5 : Int32} {r6 : Option Nat} {ls : List AV} : wp C 254 (n + 1) 693 ls [aR r0, aI x1, aI x2, aI x3, aI x4, aI x5, aR r6] M b = (CALL C 239 [aR r6, aI x5, aI x4, aI x3, aI x2, aI x1, aR r0] M b (kR (wp C 254 n 696 ls) []) (cX C)) := (wp_s (x := (.invokestatic 129, 3, 239, 7)) rfl rfl).trans (cs_row (by decide) (Nat.le_of_ble_eq_true rfl) (Nat.le_of_ble_eq_true rfl))
set_option maxRecDepth 30000 in
theorem w254_696 {v0 : AV} {v1 : AV} {v2 : AV} {v3 : AV} {p4 : Int32} {v5 : AV} {x0 : Int32} {ls : List AV} : wp C 254 (n + 1) 696 (v0 :: v1 :: v2 :: v3 :: aI p4 :: v5 :: ls) [aI x0] M b = (wp C 254 n 698 (v0 :: v1 :: v2 :: v3 :: aI p4 :: aI x0 :: ls) [] M b) := (wp_s rfl rfl).trans rfl
set_option maxRecDepth 30000 in
theorem w254_698 {v0 : AV} {v1 : AV} {o2 : Option Nat} {ls : List AV} : wp C 254 (n + 1) 698 (v0 :: v1 :: aR o2 :: ls) [] M b = (wp C 254 n 699 (v0 :: v1 :: aR o2 :: ls) [aR o2] M b) := (wp_s rfl rfl).trans rfl
set_option maxRecDepth 30000 in
theorem w254_699 {o0 : Option Nat} {r0 : Option Nat} {ls : List AV} : wp C 254 (n + 1) 699 (aR o0 :: ls) [aR r0] M b = (wp C 254 n 700 (aR o0 :: ls) [aR o0, aR r0] M b) := (wp_s rfl rfl).trans rfl
set_option maxRecDepth 30000 in
theorem w254_700 {v0 : AV} {v1 : AV} {v2 : AV} {v3 : AV} {p4 : Int32} {r0 : Option Nat} {r1 : Option Nat} {ls : List AV} : wp C 254 (n + 1) 700 (v0 :: v1 :: v2 :: v3 :: aI p4 :: ls) [aR r0, aR r1] M b = (wp C 254 n 702 (v0 :: v1 :: v2 :: v3 :: aI p4 :: ls) [aI p4, aR r0, aR r1] M b) := (wp_s rfl rfl).trans rfl
set_option maxRecDepth 30000 in
theorem w254_702 {x0 : Int32} {r1 : Option Nat} {r2 : Option Nat} {ls : List AV} : wp C 254 (n + 1) 702 ls [aI x0, aR r1, aR r2] M b = (wp C 254 n 703 ls [aI (iZ 1), aI x0, aR r1, aR r2] M b) := (wp_s rfl rfl).trans rfl
set_option maxRecDepth 30000 in
theorem w254_703 {x0 : Int32} {x1 : Int32} {r2 : Option Nat} {r3 : Option Nat} {ls : List AV} : wp C 254 (n + 1) 703 ls [aI x0, aI x1, aR r2, aR r3] M b = (wp C 254 n 704 ls [aI (x1 + x0), aR r2, aR r3] M b) := (wp_s rfl rfl).trans rfl
set_option maxRecDepth 30000 in
theorem w254_704 {x0 : Int32} {a1 : Nat} {r2 : Option Nat} {ls : List AV} : wp C 254 (n + 1) 704 ls [aI x0, aR (some a1), aR r2] M b = ((a1 = 60 ∧ inb x0 (cL C)) ∧ wp C 254 n 705 ls [aI (cS C (iN x0)), aR r2] M b) := (wp_s rfl rfl).trans rfl
set_option maxRecDepth 30000 in
theorem w254_705 {o0 : Option Nat} {x0 : Int32} {r1 : Option Nat} {ls : List AV} : wp C 254 (n + 1) 705 (aR o0 :: ls) [aI x0, aR r1] M b = (wp C 254 n 706 (aR o0 :: ls) [aR o0, aI x0, aR r1] M b) := (wp_s rfl rfl).trans rfl
set_option maxRecDepth 30000 in
theorem w254_706 {v0 : AV} {v1 : AV} {v2 : AV} {v3 : AV} {p4 : Int32} {r0 : Option Nat} {x1 : Int32} {r2 : Option Nat} {ls : List AV} : wp C 254 (n + 1) 706 (v0 :: v1 :: v2 :: v3 :: aI p4 :: ls) [aR r0, aI x1, aR r2] M b = (wp C 254 n 708 (v0 :: v1 :: v2 :: v3 :: aI p4 :: ls) [aI p4, aR r0, aI x1, aR r2] M b) := (wp_s rfl rfl).trans rfl
set_option maxRecDepth 30000 in
theorem w254_708 {x0 : Int32} {r1 : Option Nat} {x2 : Int32} {r3 : Option Nat} {ls : List AV} : wp C 254 (n + 1) 708 ls [aI x0, aR r1, aI x2, aR r3] M b = (wp C 254 n 709 ls [aI (iZ 2), aI x0, aR r1, aI x2, aR r3] M b) := (wp_s rfl rfl).trans rfl
set_option maxRecDepth 30000 in
theorem w254_709 {x0 : Int32} {x1 : Int32} {r2 : Option Nat} {x3 : Int32} {r4 : Option Nat} {ls : List AV} : wp C 254 (n + 1) 709 ls [aI x0, aI x1, aR r2, aI x3, aR r4] M b = (wp C 254 n 710 ls [aI (x1 + x0), aR r2, aI x3, aR r4] M b) := (wp_s rfl rfl).trans rfl
set_option maxRecDepth 30000 in
theorem w254_710 {x0 : Int32} {a1 : Nat} {x2 : Int32} {r3 : Option Nat} {ls : List AV} : wp C 254 (n + 1) 710 ls [aI x0, aR (some a1), aI x2, aR r3] M b = ((a1 = 60 ∧ inb x0 (cL C)) ∧ wp C 254 n 711 ls [aI (cS C (iN x0)), aI x2, aR r3] M b) := (wp_s rfl rfl).trans rfl
set_option maxRecDepth 30000 in
theorem w254_711 {o0 : Option Nat} {x0 : Int32} {x1 : Int32} {r2 : Option Nat} {ls : List AV} : wp C 254 (n + 1) 711 (aR o0 :: ls) [aI x0, aI x1, aR r2] M b = (wp C 254 n 712 (aR o0 :: ls) [aR o0, aI x0, aI x1, aR r2] M b) := (wp_s rfl rfl).trans rfl
set_option maxRecDepth 30000 in
theorem w254_712 {v0 : AV} {v1 : AV} {v2 : AV} {v3 : AV} {p4 : Int32} {r0 : Option Nat} {x1 : Int32} {x2 : Int32} {r3 : Option Nat} {ls : List AV} : wp C 254 (n + 1) 712 (v0 :: v1 :: v2 :: v3 :: aI p4 :: ls) [aR r0, aI x1, aI x2, aR r3] M b = (wp C 254 n 714 (v0 :: v1 :: v2 :: v3 :: aI p4 :: ls) [aI p4, aR r0, aI x1, aI x2, aR r3] M b) := (wp_s rfl rfl).trans rfl
set_option maxRecDepth 30000 in
theorem w254_714 {x0 : Int32} {r1 : Option Nat} {x2 : Int32} {x3 : Int32} {r4 : Option Nat} {ls : List AV} : wp C 254 (n + 1) 714 ls [aI x0, aR r1, aI x2, aI x3, aR r4] M b = (wp C 254 n 715 ls [aI (iZ 3), aI x0, aR r1, aI x2, aI x3, aR r4] M b) := (wp_s rfl rfl).trans rfl
set_option maxRecDepth 30000 in
theorem w254_715 {x0 : Int32} {x1 : Int32} {r2 : Option Nat} {x3 : Int32} {x4 : Int32} {r5 : Option Nat} {ls : List AV} : wp C 254 (n + 1) 715 ls [aI x0, aI x1, aR r2, aI x3, aI x4, aR r5] M b = (wp C 254 n 716 ls [aI (x1 + x0), aR r2, aI x3, aI x4, aR r5] M b) := (wp_s rfl rfl).trans rfl
set_option maxRecDepth 30000 in
theorem w254_716 {x0 : Int32} {a1 : Nat} {x2 : Int32} {x3 : Int32} {r4 : Option Nat} {ls : List AV} : wp C 254 (n + 1) 716 ls [aI x0, aR (some a1), aI x2, aI x3, aR r4] M b = ((a1 = 60 ∧ inb x0 (cL C)) ∧ wp C 254 n 717 ls [aI (cS C (iN x0)), aI x2, aI x3, aR r4] M b) := (wp_s rfl rfl).trans rfl
set_option maxRecDepth 30000 in
theorem w254_717 {o0 : Option Nat} {x0 : Int32} {x1 : Int32} {x2 : Int32} {r3 : Option Nat} {ls : List AV} : wp C 254 (n + 1) 717 (aR o0 :: ls) [aI x0, aI x1, aI x2, aR r3] M b = (wp C 254 n 718 (aR o0 :: ls) [aR o0, aI x0, aI x1, aI x2, aR r3] M b) := (wp_s rfl rfl).trans rfl
set_option maxRecDepth 30000 in
theorem w254_718 {v0 : AV} {v1 : AV} {v2 : AV} {v3 : AV} {p4 : Int32} {r0 : Option Nat} {x1 : Int32} {x2 : Int32} {x3 : Int32} {r4 : Option Nat} {ls : List AV} : wp C 254 (n + 1) 718 (v0 :: v1 :: v2 :: v3 :: aI p4 :: ls) [aR r0, aI x1, aI x2, aI x3, aR r4] M b = (wp C 254 n 720 (v0 :: v1 :: v2 :: v3 :: aI p4 :: ls) [aI p4, aR r0, aI x1, aI x2, aI x3, aR r4] M b) := (wp_s rfl rfl).trans rfl
set_option maxRecDepth 30000 in
theorem w254_720 {x0 : Int32} {r1 : Option Nat} {x2 : Int32} {x3 : Int32} {x4 : Int32} {r5 : Option Nat} {ls : List AV} : wp C 254 (n + 1) 720 ls [aI x0, aR r1, aI x2, aI x3, aI x4, aR r5] M b = (wp C 254 n 721 ls [aI (iZ 4), aI x0, aR r1, aI x2, aI x3, aI x4, aR r5] M b) := (wp_s rfl rfl).trans rfl
set_option maxRecDepth 30000 in
theorem w254_721 {x0 : Int32} {x1 : Int32} {r2 : Option Nat} {x3 : Int32} {x4 : Int32} {x5 : Int32} {r6 : Option Nat} {ls : List AV} : wp C 254 (n + 1) 721 ls [aI x0, aI x1, aR r2, aI x3, aI x4, aI x5, aR r6] M b = (wp C 254 n 722 ls [aI (x1 + x0), aR r2, aI x3, aI x4, aI x5, aR r6] M b) := (wp_s rfl rfl).trans rfl
set_option maxRecDepth 30000 in
theorem w254_722 {x0 : Int32} {a1 : Nat} {x2 : Int32} {x3 : Int32} {x4 : Int32} {r5 : Option Nat} {ls : List AV} : wp C 254 (n + 1) 722 ls [aI x0, aR (some a1), aI x2, aI x3, aI x4, aR r5] M b = ((a1 = 60 ∧ inb x0 (cL C)) ∧ wp C 254 n 723 ls [aI (cS C (iN x0)), aI x2, aI x3, aI x4, aR r5] M b) := (wp_s rfl rfl).trans rfl
set_option maxRecDepth 30000 in
theorem w254_723 {o0 : Option Nat} {x0 : Int32} {x1 : Int32} {x2 : Int32} {x3 : Int32} {r4 : Option Nat} {ls : List AV} : wp C 254 (n + 1) 723 (aR o0 :: ls) [aI x0, aI x1, aI x2, aI x3, aR r4] M b = (wp C 254 n 724 (aR o0 :: ls) [aR o0, aI x0, aI x1, aI x2, aI x3, aR r4] M b) := (wp_s rfl rfl).trans rfl
set_option maxRecDepth 30000 in
theorem w254_724 {v0 : AV} {v1 : AV} {v2 : AV} {v3 : AV} {p4 : Int32} {r0 : Option Nat} {x1 : Int32} {x2 : Int32} {x3 : Int32} {x4 : Int32} {r5 : Option Nat} {ls : List AV} : wp C 254 (n + 1) 724 (v0 :: v1 :: v2 :: v3 :: aI p4 :: ls) [aR r0, aI x1, aI x2, aI x3, aI x4, aR r5] M b = (wp C 254 n 726 (v0 :: v1 :: v2 :: v3 :: aI p4 :: ls) [aI p4, aR r0, aI x1, aI x2, aI x3, aI x4, aR r5] M b) := (wp_s rfl rfl).trans rfl
set_option maxRecDepth 30000 in
theorem w254_726 {x0 : Int32} {r1 : Option Nat} {x2 : Int32} {x3 : Int32} {x4 : Int32} {x5 : Int32} {r6 : Option Nat} {ls : List AV} : wp C 254 (n + 1) 726 ls [aI x0, aR r1, aI x2, aI x3, aI x4, aI x5, aR r6] M b = (wp C 254 n 727 ls [aI (iZ 5), aI x0, aR r1, aI x2, aI x3, aI x4, aI x5, aR r6] M b) := (wp_s rfl rfl).trans rfl
set_option maxRecDepth 30000 in
theorem w254_727 {x0 : Int32} {x1 : Int32} {r2 : Option Nat} {x3 : Int32} {x4 : Int32} {x5 : Int32} {x6 : Int32} {r7 : Option Nat} {ls : List AV} : wp C 254 (n + 1) 727 ls [aI x0, aI x1, aR r2, aI x3, aI x4, aI x5, aI x6, aR r7] M b = (wp C 254 n 728 ls [aI (x1 + x0), aR r2, aI x3, aI x4, aI x5, aI x6, aR r7] M b) := (wp_s rfl rfl).trans rfl
set_option maxRecDepth 30000 in
theorem w254_728 {x0 : Int32} {a1 : Nat} {x2 : Int32} {x3 : Int32} {x4 : Int32} {x5 : Int32} {r6 : Option Nat} {ls : List AV} : wp C 254 (n + 1) 728 ls [aI x0, aR (some a1), aI x2, aI x3, aI x4, aI x5, aR r6] M b = ((a1 = 60 ∧ inb x0 (cL C)) ∧ wp C 254 n 729 ls [aI (cS C (iN x0)), aI x2, aI x3, aI x4, aI x5, aR r6] M b) := (wp_s rfl rfl).trans rfl
set_option maxRecDepth 30000 in
theorem w254_729 {x0 : Int32} {x1 : Int32} {x2 : Int32} {x3 : Int32} {x4 : Int32} {a5 : Nat} {ls : List AV} : wp C 254 (n + 1) 729 ls [aI x0, aI x1, aI x2, aI x3, aI x4, aR (some a5)] M b = (oB M a5 12 ∧ CALL C 59 [aR (some a5), aI x4, aI x3, aI x2, aI x1, aI x0] M b (kR (wp C 254 n 732 ls) []) (cX C)) := (wp_s (x := (.invokevirtual 132, 3, 59, 5)) rfl rfl).trans (cv_row (by decide) (Nat.le_of_ble_eq_true rfl) (Nat.le_of_ble_eq_true rfl) rfl)
set_option maxRecDepth 30000 in
theorem w254_732 {v0 : AV} {v1 : AV} {v2 : AV} {v3 : AV} {v4 : AV} {p5 : Int32} {v6 : AV} {x0 : Int32} {ls : List AV} : wp C 254 (n + 1) 732 (v0 :: v1 :: v2 :: v3 :: v4 :: aI p5 :: v6 :: ls) [aI x0] M b = (wp C 254 n 734 (v0 :: v1 :: v2 :: v3 :: v4 :: aI p5 :: aI x0 :: ls) [] M b) := (wp_s rfl rfl).trans rfl
set_option maxRecDepth 30000 in
theorem w254_734 {v0 : AV} {v1 : AV} {o2 : Option Nat} {ls : List AV} : wp C 254 (n + 1) 734 (v0 :: v1 :: aR o2 :: ls) [] M b = (wp C 254 n 735 (v0 :: v1 :: aR o2 :: ls) [aR o2] M b) := (wp_s rfl rfl).trans rfl
set_option maxRecDepth 30000 in
theorem w254_735 {a0 : Nat} {ls : List AV} : wp C 254 (n + 1) 735 ls [aR (some a0)] M b = (oB M a0 12 ∧ CALL C 19 [aR (some a0)] M b (kR (wp C 254 n 738 ls) []) (cX C)) := (wp_s (x := (.invokevirtual 96, 3, 19, 0)) rfl rfl).trans (cv_row (by decide) (Nat.le_of_ble_eq_true rfl) (Nat.le_of_ble_eq_true rfl) rfl)
set_option maxRecDepth 30000 in
theorem w254_738 {v0 : AV} {v1 : AV} {v2 : AV} {v3 : AV} {v4 : AV} {p5 : Int32} {x0 : Int32} {ls : List AV} : wp C 254 (n + 1) 738 (v0 :: v1 :: v2 :: v3 :: v4 :: aI p5 :: ls) [aI x0] M b = (wp C 254 n 740 (v0 :: v1 :: v2 :: v3 :: v4 :: aI p5 :: ls) [aI p5, aI x0] M b) := (wp_s rfl rfl).trans rfl
set_option maxRecDepth 30000 in
theorem w254_740 {x0 : Int32} {x1 : Int32} {ls : List AV} : wp C 254 (n + 1) 740 ls [aI x0, aI x1] M b = ((x1.toInt = x0.toInt → wp C 254 n 745 ls [] M b) ∧ (¬ x1.toInt = x0.toInt → wp C 254 n 743 ls [] M b)) := (wp_s (x := (.if_icmp .eq 5, 3, 745, 0)) rfl rfl).trans ceq
set_option maxRecDepth 30000 in
theorem w254_743 {ls : List AV} : wp C 254 (n + 1) 743 ls [] M b = (wp C 254 n 744 ls [aI (iZ 0)] M b) := (wp_s rfl rfl).trans rfl
set_option maxRecDepth 30000 in
theorem w254_744 {x0 : Int32} {ls : List AV} : wp C 254 (n + 1) 744 ls [aI x0] M b = (isB x0 ∧ cQ C (some (aI x0)) M) := (wp_s (x := (.ireturn, 1, 0, 0)) rfl rfl).trans (rt_Z rfl)
set_option maxRecDepth 30000 in
theorem w254_745 {v0 : AV} {v1 : AV} {v2 : AV} {v3 : AV} {v4 : AV} {p5 : Int32} {ls : List AV} : wp C 254 (n + 1) 745 (v0 :: v1 :: v2 :: v3 :: v4 :: aI p5 :: ls) [] M b = (wp C 254 n 747 (v0 :: v1 :: v2 :: v3 :: v4 :: aI p5 :: ls) [aI p5] M b) := (wp_s rfl rfl).trans rfl
set_option maxRecDepth 30000 in
theorem w254_747 {x0 : Int32} {ls : List AV} : wp C 254 (n + 1) 747 ls [aI x0] M b = ((x0.toInt = 0 → wp C 254 n 750 ls [] M b) ∧ (¬ x0.toInt = 0 → wp C 254 n 762 ls [] M b)) := (wp_s (x := (.ifCond .ne 15, 3, 762, 0)) rfl rfl).trans zne
set_option maxRecDepth 30000 in
theorem w254_750 {v0 : AV} {v1 : AV} {v2 : AV} {o3 : Option Nat} {ls : List AV} : wp C 254 (n + 1) 750 (v0 :: v1 :: v2 :: aR o3 :: ls) [] M b = (wp C 254 n 751 (v0 :: v1 :: v2 :: aR o3 :: ls) [aR o3] M b) := (wp_s rfl rfl).trans rfl
set_option maxRecDepth 30000 in
theorem w254_751 {r0 : Option Nat} {ls : List AV} : wp C 254 (n + 1) 751 ls [aR r0] M b = (wp C 254 n 752 ls [aI (iZ 0), aR r0] M b) := (wp_s rfl rfl).trans rfl
set_option maxRecDepth 30000 in
theorem w254_752 {x0 : Int32} {a1 : Nat} {ls : List AV} : wp C 254 (n + 1) 752 ls [aI x0, aR (some a1)] M b = (iA M a1 21 x0 ∧ wp C 254 n 753 ls [aL (mJ M a1 (iN x0))] M b) := (wp_s rfl rfl).trans rfl
set_option maxRecDepth 30000 in
theorem w254_753 {v0 : AV} {v1 : AV} {v2 : AV} {v3 : AV} {v4 : AV} {v5 : AV} {p6 : Int32} {y0 : Int64} {ls : List AV} : wp C 254 (n + 1) 753 (v0 :: v1 :: v2 :: v3 :: v4 :: v5 :: aI p6 :: ls) [aL y0] M b = (wp C 254 n 755 (v0 :: v1 :: v2 :: v3 :: v4 :: v5 :: aI p6 :: ls) [aI p6, aL y0] M b) := (wp_s rfl rfl).trans rfl
set_option maxRecDepth 30000 in
theorem w254_755 {x0 : Int32} {y1 : Int64} {ls : List AV} : wp C 254 (n + 1) 755 ls [aI x0, aL y1] M b = (wp C 254 n 756 ls [aL x0.toInt64, aL y1] M b) := (wp_s rfl rfl).trans rfl
set_option maxRecDepth 30000 in
theorem w254_756 {y0 : Int64} {y1 : Int64} {ls : List AV} : wp C 254 (n + 1) 756 ls [aL y0, aL y1] M b = (wp C 254 n 757 ls [aI (lg_cmp y1 y0)] M b) := (wp_s rfl rfl).trans rfl
set_option maxRecDepth 30000 in
theorem w254_757 {x0 : Int32} {ls : List AV} : wp C 254 (n + 1) 757 ls [aI x0] M b = ((x0.toInt = 0 → wp C 254 n 762 ls [] M b) ∧ (¬ x0.toInt = 0 → wp C 254 n 760 ls [] M b)) := (wp_s (x := (.ifCond .eq 5, 3, 762, 0)) rfl rfl).trans zeq
set_option maxRecDepth 30000 in
theorem w254_760 {ls : List AV} : wp C 254 (n + 1) 760 ls [] M b = (wp C 254 n 761 ls [aI (iZ 0)] M b) := (wp_s rfl rfl).trans rfl
set_option maxRecDepth 30000 in
theorem w254_761 {x0 : Int32} {ls : List AV} : wp C 254 (n + 1) 761 ls [aI x0] M b = (isB x0 ∧ cQ C (some (aI x0)) M) := (wp_s (x := (.ireturn, 1, 0, 0)) rfl rfl).trans (rt_Z rfl)
set_option maxRecDepth 30000 in
theorem w254_762 {ls : List AV} : wp C 254 (n + 1) 762 ls [] M b = (wp C 254 n 1838 ls [] M b) := (wp_s rfl rfl).trans rfl
set_option maxRecDepth 30000 in
theorem w254_765 {v0 : AV} {o1 : Option Nat} {ls : List AV} : wp C 254 (n + 1) 765 (v0 :: aR o1 :: ls) [] M b = (wp C 254 n 766 (v0 :: aR o1 :: ls) [aR o1] M b) := (wp_s rfl rfl).trans rfl
set_option maxRecDepth 30000 in
theorem w254_766 {o0 : Option Nat} {r0 : Option Nat} {ls : List AV} : wp C 254 (n + 1) 766 (aR o0 :: ls) [aR r0] M b = (wp C 254 n 767 (aR o0 :: ls) [aR o0, aR r0] M b) := (wp_s rfl rfl).trans rfl
set_option maxRecDepth 30000 in
theorem w254_767 {v0 : AV} {v1 : AV} {v2 : AV} {v3 : AV} {p4 : Int32} {r0 : Option Nat} {r1 : Option Nat} {ls : List AV} : wp C 254 (n + 1) 767 (v0 :: v1 :: v2 :: v3 :: aI p4 :: ls) [aR r0, aR r1] M b = (wp C 254 n 769 (v0 :: v1 :: v2 :: v3 :: aI p4 :: ls) [aI p4, aR r0, aR r1] M b) := (wp_s rfl rfl).trans rfl
set_option maxRecDepth 30000 in
theorem w254_769 {x0 : Int32} {r1 : Option Nat} {r2 : Option Nat} {ls : List AV} : wp C 254 (n + 1) 769 ls [aI x0, aR r1, aR r2] M b = (wp C 254 n 770 ls [aI (iZ 1), aI x0, aR r1, aR r2] M b) := (wp_s rfl rfl).trans rfl
set_option maxRecDepth 30000 in
theorem w254_770 {x0 : Int32} {x1 : Int32} {r2 : Option Nat} {r3 : Option Nat} {ls : List AV} : wp C 254 (n + 1) 770 ls [aI x0, aI x1, aR r2, aR r3] M b = (wp C 254 n 771 ls [aI (x1 + x0), aR r2, aR r3] M b) := (wp_s rfl rfl).trans rfl
set_option maxRecDepth 30000 in
theorem w254_771 {x0 : Int32} {a1 : Nat} {r2 : Option Nat} {ls : List AV} : wp C 254 (n + 1) 771 ls [aI x0, aR (some a1), aR r2] M b = ((a1 = 60 ∧ inb x0 (cL C)) ∧ wp C 254 n 772 ls [aI (cS C (iN x0)), aR r2] M b) := (wp_s rfl rfl).trans rfl
set_option maxRecDepth 30000 in
theorem w254_772 {o0 : Option Nat} {x0 : Int32} {r1 : Option Nat} {ls : List AV} : wp C 254 (n + 1) 772 (aR o0 :: ls) [aI x0, aR r1] M b = (wp C 254 n 773 (aR o0 :: ls) [aR o0, aI x0, aR r1] M b) := (wp_s rfl rfl).trans rfl
set_option maxRecDepth 30000 in
theorem w254_773 {v0 : AV} {v1 : AV} {v2 : AV} {v3 : AV} {p4 : Int32} {r0 : Option Nat} {x1 : Int32} {r2 : Option Nat} {ls : List AV} : wp C 254 (n + 1) 773 (v0 :: v1 :: v2 :: v3 :: aI p4 :: ls) [aR r0, aI x1, aR r2] M b = (wp C 254 n 775 (v0 :: v1 :: v2 :: v3 :: aI p4 :: ls) [aI p4, aR r0, aI x1, aR r2] M b) := (wp_s rfl rfl).trans rfl
set_option maxRecDepth 30000 in
theorem w254_775 {x0 : Int32} {r1 : Option Nat} {x2 : Int32} {r3 : Option Nat} {ls : List AV} : wp C 254 (n + 1) 775 ls [aI x0, aR r1, aI x2, aR r3] M b = (wp C 254 n 776 ls [aI (iZ 2), aI x0, aR r1, aI x2, aR r3] M b) := (wp_s rfl rfl).trans rfl
set_option maxRecDepth 30000 in
theorem w254_776 {x0 : Int32} {x1 : Int32} {r2 : Option Nat} {x3 : Int32} {r4 : Option Nat} {ls : List AV} : wp C 254 (n + 1) 776 ls [aI x0, aI x1, aR r2, aI x3, aR r4] M b = (wp C 254 n 777 ls [aI (x1 + x0), aR r2, aI x3, aR r4] M b) := (wp_s rfl rfl).trans rfl
set_option maxRecDepth 30000 in
theorem w254_777 {x0 : Int32} {a1 : Nat} {x2 : Int32} {r3 : Option Nat} {ls : List AV} : wp C 254 (n + 1) 777 ls [aI x0, aR (some a1), aI x2, aR r3] M b = ((a1 = 60 ∧ inb x0 (cL C)) ∧ wp C 254 n 778 ls [aI (cS C (iN x0)), aI x2, aR r3] M b) := (wp_s rfl rfl).trans rfl
set_option maxRecDepth 30000 in
theorem w254_778 {v0 : AV} {v1 : AV} {v2 : AV} {o3 : Option Nat} {x0 : Int32} {x1 : Int32} {r2 : Option Nat} {ls : List AV} : wp C 254 (n + 1) 778 (v0 :: v1 :: v2 :: aR o3 :: ls) [aI x0, aI x1, aR r2] M b = (wp C 254 n 779 (v0 :: v1 :: v2 :: aR o3 :: ls) [aR o3, aI x0, aI x1, aR r2] M b) := (wp_s rfl rfl).trans rfl
set_option maxRecDepth 30000 in
theorem w254_779 {r0 : Option Nat} {x1 : Int32} {x2 : Int32} {r3 : Option Nat} {ls : List AV} : wp C 254 (n + 1) 779 ls [aR r0, aI x1, aI x2, aR r3] M b = (CALL C 240 [aR r3, aI x2, aI x1, aR r0] M b (kR (wp C 254 n 782 ls) []) (cX C)) := (wp_s (x := (.invokestatic 133, 3, 240, 4)) rfl rfl).trans (cs_row (by decide) (Nat.le_of_ble_eq_true rfl) (Nat.le_of_ble_eq_true rfl))
set_option maxRecDepth 30000 in
theorem w254_782 {v0 : AV} {v1 : AV} {v2 : AV} {v3 : AV} {p4 : Int32} {v5 : AV} {x0 : Int32} {ls : List AV} : wp C 254 (n + 1) 782 (v0 :: v1 :: v2 :: v3 :: aI p4 :: v5 :: ls) [aI x0] M b = (wp C 254 n 784 (v0 :: v1 :: v2 :: v3 :: aI p4 :: aI x0 :: ls) [] M b) := (wp_s rfl rfl).trans rfl
set_option maxRecDepth 30000 in
theorem w254_784 {v0 : AV} {v1 : AV} {o2 : Option Nat} {ls : List AV} : wp C 254 (n + 1) 784 (v0 :: v1 :: aR o2 :: ls) [] M b = (wp C 254 n 785 (v0 :: v1 :: aR o2 :: ls) [aR o2] M b) := (wp_s rfl rfl).trans rfl
set_option maxRecDepth 30000 in
theorem w254_785 {o0 : Option Nat} {r0 : Option Nat} {ls : List AV} : wp C 254 (n + 1) 785 (aR o0 :: ls) [aR r0] M b = (wp C 254 n 786 (aR o0 :: ls) [aR o0, aR r0] M b) := (wp_s rfl rfl).trans rfl
set_option maxRecDepth 30000 in
theorem w254_786 {v0 : AV} {v1 : AV} {v2 : AV} {v3 : AV} {p4 : Int32} {r0 : Option Nat} {r1 : Option Nat} {ls : List AV} : wp C 254 (n + 1) 786 (v0 :: v1 :: v2 :: v3 :: aI p4 :: ls) [aR r0, aR r1] M b = (wp C 254 n 788 (v0 :: v1 :: v2 :: v3 :: aI p4 :: ls) [aI p4, aR r0, aR r1] M b) := (wp_s rfl rfl).trans rfl
set_option maxRecDepth 30000 in
theorem w254_788 {x0 : Int32} {r1 : Option Nat} {r2 : Option Nat} {ls : List AV} : wp C 254 (n + 1) 788 ls [aI x0, aR r1, aR r2] M b = (wp C 254 n 789 ls [aI (iZ 1), aI x0, aR r1, aR r2] M b) := (wp_s rfl rfl).trans rfl
set_option maxRecDepth 30000 in
theorem w254_789 {x0 : Int32} {x1 : Int32} {r2 : Option Nat} {r3 : Option Nat} {ls : List AV} : wp C 254 (n + 1) 789 ls [aI x0, aI x1, aR r2, aR r3] M b = (wp C 254 n 790 ls [aI (x1 + x0), aR r2, aR r3] M b) := (wp_s rfl rfl).trans rfl
set_option maxRecDepth 30000 in
theorem w254_790 {x0 : Int32} {a1 : Nat} {r2 : Option Nat} {ls : List AV} : wp C 254 (n + 1) 790 ls [aI x0, aR (some a1), aR r2] M b = ((a1 = 60 ∧ inb x0 (cL C)) ∧ wp C 254 n 791 ls [aI (cS C (iN x0)), aR r2] M b) := (wp_s rfl rfl).trans rfl
set_option maxRecDepth 30000 in
theorem w254_791 {o0 : Option Nat} {x0 : Int32} {r1 : Option Nat} {ls : List AV} : wp C 254 (n + 1) 791 (aR o0 :: ls) [aI x0, aR r1] M b = (wp C 254 n 792 (aR o0 :: ls) [aR o0, aI x0, aR r1] M b) := (wp_s rfl rfl).trans rfl
set_option maxRecDepth 30000 in
theorem w254_792 {v0 : AV} {v1 : AV} {v2 : AV} {v3 : AV} {p4 : Int32} {r0 : Option Nat} {x1 : Int32} {r2 : Option Nat} {ls : List AV} : wp C 254 (n + 1) 792 (v0 :: v1 :: v2 :: v3 :: aI p4 :: ls) [aR r0, aI x1, aR r2] M b = (wp C 254 n 794 (v0 :: v1 :: v2 :: v3 :: aI p4 :: ls) [aI p4, aR r0, aI x1, aR r2] M b) := (wp_s rfl rfl).trans rfl
set_option maxRecDepth 30000 in
theorem w254_794 {x0 : Int32} {r1 : Option Nat} {x2 : Int32} {r3 : Option Nat} {ls : List AV} : wp C 254 (n + 1) 794 ls [aI x0, aR r1, aI x2, aR r3] M b = (wp C 254 n 795 ls [aI (iZ 2), aI x0, aR r1, aI x2, aR r3] M b) := (wp_s rfl rfl).trans rfl
set_option maxRecDepth 30000 in
theorem w254_795 {x0 : Int32} {x1 : Int32} {r2 : Option Nat} {x3 : Int32} {r4 : Option Nat} {ls : List AV} : wp C 254 (n + 1) 795 ls [aI x0, aI x1, aR r2, aI x3, aR r4] M b = (wp C 254 n 796 ls [aI (x1 + x0), aR r2, aI x3, aR r4] M b) := (wp_s rfl rfl).trans rfl
set_option maxRecDepth 30000 in
theorem w254_796 {x0 : Int32} {a1 : Nat} {x2 : Int32} {r3 : Option Nat} {ls : List AV} : wp C 254 (n + 1) 796 ls [aI x0, aR (some a1), aI x2, aR r3] M b = ((a1 = 60 ∧ inb x0 (cL C)) ∧ wp C 254 n 797 ls [aI (cS C (iN x0)), aI x2, aR r3] M b) := (wp_s rfl rfl).trans rfl
set_option maxRecDepth 30000 in
theorem w254_797 {x0 : Int32} {x1 : Int32} {a2 : Nat} {ls : List AV} : wp C 254 (n + 1) 797 ls [aI x0, aI x1, aR (some a2)] M b = (oB M a2 12 ∧ CALL C 63 [aR (some a2), aI x1, aI x0] M b (kR (wp C 254 n 800 ls) []) (cX C)) := (wp_s (x := (.invokevirtual 135, 3, 63, 2)) rfl rfl).trans (cv_row (by decide) (Nat.le_of_ble_eq_true rfl) (Nat.le_of_ble_eq_true rfl) rfl)
set_option maxRecDepth 30000 in
theorem w254_800 {v0 : AV} {v1 : AV} {v2 : AV} {v3 : AV} {v4 : AV} {p5 : Int32} {v6 : AV} {x0 : Int32} {ls : List AV} : wp C 254 (n + 1) 800 (v0 :: v1 :: v2 :: v3 :: v4 :: aI p5 :: v6 :: ls) [aI x0] M b = (wp C 254 n 802 (v0 :: v1 :: v2 :: v3 :: v4 :: aI p5 :: aI x0 :: ls) [] M b) := (wp_s rfl rfl).trans rfl
set_option maxRecDepth 30000 in
theorem w254_802 {v0 : AV} {v1 : AV} {o2 : Option Nat} {ls : List AV} : wp C 254 (n + 1) 802 (v0 :: v1 :: aR o2 :: ls) [] M b = (wp C 254 n 803 (v0 :: v1 :: aR o2 :: ls) [aR o2] M b) := (wp_s rfl rfl).trans rfl
set_option maxRecDepth 30000 in
theorem w254_803 {a0 : Nat} {ls : List AV} : wp C 254 (n + 1) 803 ls [aR (some a0)] M b = (oB M a0 12 ∧ CALL C 19 [aR (some a0)] M b (kR (wp C 254 n 806 ls) []) (cX C)) := (wp_s (x := (.invokevirtual 96, 3, 19, 0)) rfl rfl).trans (cv_row (by decide) (Nat.le_of_ble_eq_true rfl) (Nat.le_of_ble_eq_true rfl) rfl)
set_option maxRecDepth 30000 in
theorem w254_806 {v0 : AV} {v1 : AV} {v2 : AV} {v3 : AV} {v4 : AV} {p5 : Int32} {x0 : Int32} {ls : List AV} : wp C 254 (n + 1) 806 (v0 :: v1 :: v2 :: v3 :: v4 :: aI p5 :: ls) [aI x0] M b = (wp C 254 n 808 (v0 :: v1 :: v2 :: v3 :: v4 :: aI p5 :: ls) [aI p5, aI x0] M b) := (wp_s rfl rfl).trans rfl
set_option maxRecDepth 30000 in
theorem w254_808 {x0 : Int32} {x1 : Int32} {ls : List AV} : wp C 254 (n + 1) 808 ls [aI x0, aI x1] M b = ((x1.toInt = x0.toInt → wp C 254 n 813 ls [] M b) ∧ (¬ x1.toInt = x0.toInt → wp C 254 n 811 ls [] M b)) := (wp_s (x := (.if_icmp .eq 5, 3, 813, 0)) rfl rfl).trans ceq
set_option maxRecDepth 30000 in
theorem w254_811 {ls : List AV} : wp C 254 (n + 1) 811 ls [] M b = (wp C 254 n 812 ls [aI (iZ 0)] M b) := (wp_s rfl rfl).trans rfl
set_option maxRecDepth 30000 in
theorem w254_812 {x0 : Int32} {ls : List AV} : wp C 254 (n + 1) 812 ls [aI x0] M b = (isB x0 ∧ cQ C (some (aI x0)) M) := (wp_s (x := (.ireturn, 1, 0, 0)) rfl rfl).trans (rt_Z rfl)
set_option maxRecDepth 30000 in
theorem w254_813 {v0 : AV} {v1 : AV} {v2 : AV} {v3 : AV} {v4 : AV} {p5 : Int32} {ls : List AV} : wp C 254 (n + 1) 813 (v0 :: v1 :: v2 :: v3 :: v4 :: aI p5 :: ls) [] M b = (wp C 254 n 815 (v0 :: v1 :: v2 :: v3 :: v4 :: aI p5 :: ls) [aI p5] M b) := (wp_s rfl rfl).trans rfl
set_option maxRecDepth 30000 in
theorem w254_815 {x0 : Int32} {ls : List AV} : wp C 254 (n + 1) 815 ls [aI x0] M b = ((x0.toInt = 0 → wp C 254 n 818 ls [] M b) ∧ (¬ x0.toInt = 0 → wp C 254 n 830 ls [] M b)) := (wp_s (x := (.ifCond .ne 15, 3, 830, 0)) rfl rfl).trans zne
set_option maxRecDepth 30000 in
theorem w254_818 {v0 : AV} {v1 : AV} {v2 : AV} {o3 : Option Nat} {ls : List AV} : wp C 254 (n + 1) 818 (v0 :: v1 :: v2 :: aR o3 :: ls) [] M b = (wp C 254 n 819 (v0 :: v1 :: v2 :: aR o3 :: ls) [aR o3] M b) := (wp_s rfl rfl).trans rfl
set_option maxRecDepth 30000 in
theorem w254_819 {r0 : Option Nat} {ls : List AV} : wp C 254 (n + 1) 819 ls [aR r0] M b = (wp C 254 n 820 ls [aI (iZ 0), aR r0] M b) := (wp_s rfl rfl).trans rfl
set_option maxRecDepth 30000 in
theorem w254_820 {x0 : Int32} {a1 : Nat} {ls : List AV} : wp C 254 (n + 1) 820 ls [aI x0, aR (some a1)] M b = (iA M a1 21 x0 ∧ wp C 254 n 821 ls [aL (mJ M a1 (iN x0))] M b) := (wp_s rfl rfl).trans rfl
set_option maxRecDepth 30000 in
theorem w254_821 {v0 : AV} {v1 : AV} {v2 : AV} {v3 : AV} {v4 : AV} {v5 : AV} {p6 : Int32} {y0 : Int64} {ls : List AV} : wp C 254 (n + 1) 821 (v0 :: v1 :: v2 :: v3 :: v4 :: v5 :: aI p6 :: ls) [aL y0] M b = (wp C 254 n 823 (v0 :: v1 :: v2 :: v3 :: v4 :: v5 :: aI p6 :: ls) [aI p6, aL y0] M b) := (wp_s rfl rfl).trans rfl
set_option maxRecDepth 30000 in
theorem w254_823 {x0 : Int32} {y1 : Int64} {ls : List AV} : wp C 254 (n + 1) 823 ls [aI x0, aL y1] M b = (wp C 254 n 824 ls [aL x0.toInt64, aL y1] M b) := (wp_s rfl rfl).trans rfl
set_option maxRecDepth 30000 in
theorem w254_824 {y0 : Int64} {y1 : Int64} {ls : List AV} : wp C 254 (n + 1) 824 ls [aL y0, aL y1] M b = (wp C 254 n 825 ls [aI (lg_cmp y1 y0)] M b) := (wp_s rfl rfl).trans rfl
set_option maxRecDepth 30000 in
theorem w254_825 {x0 : Int32} {ls : List AV} : wp C 254 (n + 1) 825 ls [aI x0] M b = ((x0.toInt = 0 → wp C 254 n 830 ls [] M b) ∧ (¬ x0.toInt = 0 → wp C 254 n 828 ls [] M b)) := (wp_s (x := (.ifCond .eq 5, 3, 830, 0)) rfl rfl).trans zeq
set_option maxRecDepth 30000 in
theorem w254_828 {ls : List AV} : wp C 254 (n + 1) 828 ls [] M b = (wp C 254 n 829 ls [aI (iZ 0)] M b) := (wp_s rfl rfl).trans rfl
set_option maxRecDepth 30000 in
theorem w254_829 {x0 : Int32} {ls : List AV} : wp C 254 (n + 1) 829 ls [aI x0] M b = (isB x0 ∧ cQ C (some (aI x0)) M) := (wp_s (x := (.ireturn, 1, 0, 0)) rfl rfl).trans (rt_Z rfl)
set_option maxRecDepth 30000 in
theorem w254_830 {ls : List AV} : wp C 254 (n + 1) 830 ls [] M b = (wp C 254 n 1838 ls [] M b) := (wp_s rfl rfl).trans rfl
set_option maxRecDepth 30000 in
theorem w254_833 {v0 : AV} {o1 : Option Nat} {ls : List AV} : wp C 254 (n + 1) 833 (v0 :: aR o1 :: ls) [] M b = (wp C 254 n 834 (v0 :: aR o1 :: ls) [aR o1] M b) := (wp_s rfl rfl).trans rfl
set_option maxRecDepth 30000 in
theorem w254_834 {o0 : Option Nat} {r0 : Option Nat} {ls : List AV} : wp C 254 (n + 1) 834 (aR o0 :: ls) [aR r0] M b = (wp C 254 n 835 (aR o0 :: ls) [aR o0, aR r0] M b) := (wp_s rfl rfl).trans rfl
set_option maxRecDepth 30000 in
theorem w254_835 {v0 : AV} {v1 : AV} {v2 : AV} {v3 : AV} {p4 : Int32} {r0 : Option Nat} {r1 : Option Nat} {ls : List AV} : wp C 254 (n + 1) 835 (v0 :: v1 :: v2 :: v3 :: aI p4 :: ls) [aR r0, aR r1] M b = (wp C 254 n 837 (v0 :: v1 :: v2 :: v3 :: aI p4 :: ls) [aI p4, aR r0, aR r1] M b) := (wp_s rfl rfl).trans rfl
set_option maxRecDepth 30000 in
theorem w254_837 {x0 : Int32} {r1 : Option Nat} {r2 : Option Nat} {ls : List AV} : wp C 254 (n + 1) 837 ls [aI x0, aR r1, aR r2] M b = (wp C 254 n 838 ls [aI (iZ 1), aI x0, aR r1, aR r2] M b) := (wp_s rfl rfl).trans rfl
set_option maxRecDepth 30000 in
theorem w254_838 {x0 : Int32} {x1 : Int32} {r2 : Option Nat} {r3 : Option Nat} {ls : List AV} : wp C 254 (n + 1) 838 ls [aI x0, aI x1, aR r2, aR r3] M b = (wp C 254 n 839 ls [aI (x1 + x0), aR r2, aR r3] M b) := (wp_s rfl rfl).trans rfl
set_option maxRecDepth 30000 in
theorem w254_839 {x0 : Int32} {a1 : Nat} {r2 : Option Nat} {ls : List AV} : wp C 254 (n + 1) 839 ls [aI x0, aR (some a1), aR r2] M b = ((a1 = 60 ∧ inb x0 (cL C)) ∧ wp C 254 n 840 ls [aI (cS C (iN x0)), aR r2] M b) := (wp_s rfl rfl).trans rfl
set_option maxRecDepth 30000 in
theorem w254_840 {o0 : Option Nat} {x0 : Int32} {r1 : Option Nat} {ls : List AV} : wp C 254 (n + 1) 840 (aR o0 :: ls) [aI x0, aR r1] M b = (wp C 254 n 841 (aR o0 :: ls) [aR o0, aI x0, aR r1] M b) := (wp_s rfl rfl).trans rfl
set_option maxRecDepth 30000 in
theorem w254_841 {v0 : AV} {v1 : AV} {v2 : AV} {v3 : AV} {p4 : Int32} {r0 : Option Nat} {x1 : Int32} {r2 : Option Nat} {ls : List AV} : wp C 254 (n + 1) 841 (v0 :: v1 :: v2 :: v3 :: aI p4 :: ls) [aR r0, aI x1, aR r2] M b = (wp C 254 n 843 (v0 :: v1 :: v2 :: v3 :: aI p4 :: ls) [aI p4, aR r0, aI x1, aR r2] M b) := (wp_s rfl rfl).trans rfl
set_option maxRecDepth 30000 in
theorem w254_843 {x0 : Int32} {r1 : Option Nat} {x2 : Int32} {r3 : Option Nat} {ls : List AV} : wp C 254 (n + 1) 843 ls [aI x0, aR r1, aI x2, aR r3] M b = (wp C 254 n 844 ls [aI (iZ 2), aI x0, aR r1, aI x2, aR r3] M b) := (wp_s rfl rfl).trans rfl
set_option maxRecDepth 30000 in
theorem w254_844 {x0 : Int32} {x1 : Int32} {r2 : Option Nat} {x3 : Int32} {r4 : Option Nat} {ls : List AV} : wp C 254 (n + 1) 844 ls [aI x0, aI x1, aR r2, aI x3, aR r4] M b = (wp C 254 n 845 ls [aI (x1 + x0), aR r2, aI x3, aR r4] M b) := (wp_s rfl rfl).trans rfl
set_option maxRecDepth 30000 in
theorem w254_845 {x0 : Int32} {a1 : Nat} {x2 : Int32} {r3 : Option Nat} {ls : List AV} : wp C 254 (n + 1) 845 ls [aI x0, aR (some a1), aI x2, aR r3] M b = ((a1 = 60 ∧ inb x0 (cL C)) ∧ wp C 254 n 846 ls [aI (cS C (iN x0)), aI x2, aR r3] M b) := (wp_s rfl rfl).trans rfl
set_option maxRecDepth 30000 in
theorem w254_846 {o0 : Option Nat} {x0 : Int32} {x1 : Int32} {r2 : Option Nat} {ls : List AV} : wp C 254 (n + 1) 846 (aR o0 :: ls) [aI x0, aI x1, aR r2] M b = (wp C 254 n 847 (aR o0 :: ls) [aR o0, aI x0, aI x1, aR r2] M b) := (wp_s rfl rfl).trans rfl
set_option maxRecDepth 30000 in
theorem w254_847 {v0 : AV} {v1 : AV} {v2 : AV} {v3 : AV} {p4 : Int32} {r0 : Option Nat} {x1 : Int32} {x2 : Int32} {r3 : Option Nat} {ls : List AV} : wp C 254 (n + 1) 847 (v0 :: v1 :: v2 :: v3 :: aI p4 :: ls) [aR r0, aI x1, aI x2, aR r3] M b = (wp C 254 n 849 (v0 :: v1 :: v2 :: v3 :: aI p4 :: ls) [aI p4, aR r0, aI x1, aI x2, aR r3] M b) := (wp_s rfl rfl).trans rfl
set_option maxRecDepth 30000 in
theorem w254_849 {x0 : Int32} {r1 : Option Nat} {x2 : Int32} {x3 : Int32} {r4 : Option Nat} {ls : List AV} : wp C 254 (n + 1) 849 ls [aI x0, aR r1, aI x2, aI x3, aR r4] M b = (wp C 254 n 850 ls [aI (iZ 3), aI x0, aR r1, aI x2, aI x3, aR r4] M b) := (wp_s rfl rfl).trans rfl
set_option maxRecDepth 30000 in
theorem w254_850 {x0 : Int32} {x1 : Int32} {r2 : Option Nat} {x3 : Int32} {x4 : Int32} {r5 : Option Nat} {ls : List AV} : wp C 254 (n + 1) 850 ls [aI x0, aI x1, aR r2, aI x3, aI x4, aR r5] M b = (wp C 254 n 851 ls [aI (x1 + x0), aR r2, aI x3, aI x4, aR r5] M b) := (wp_s rfl rfl).trans rfl
set_option maxRecDepth 30000 in
theorem w254_851 {x0 : Int32} {a1 : Nat} {x2 : Int32} {x3 : Int32} {r4 : Option Nat} {ls : List AV} : wp C 254 (n + 1) 851 ls [aI x0, aR (some a1), aI x2, aI x3, aR r4] M b = ((a1 = 60 ∧ inb x0 (cL C)) ∧ wp C 254 n 852 ls [aI (cS C (iN x0)), aI x2, aI x3, aR r4] M b) := (wp_s rfl rfl).trans rfl
set_option maxRecDepth 30000 in
theorem w254_852 {v0 : AV} {v1 : AV} {v2 : AV} {o3 : Option Nat} {x0 : Int32} {x1 : Int32} {x2 : Int32} {r3 : Option Nat} {ls : List AV} : wp C 254 (n + 1) 852 (v0 :: v1 :: v2 :: aR o3 :: ls) [aI x0, aI x1, aI x2, aR r3] M b = (wp C 254 n 853 (v0 :: v1 :: v2 :: aR o3 :: ls) [aR o3, aI x0, aI x1, aI x2, aR r3] M b) := (wp_s rfl rfl).trans rfl
set_option maxRecDepth 30000 in
theorem w254_853 {r0 : Option Nat} {x1 : Int32} {x2 : Int32} {x3 : Int32} {r4 : Option Nat} {ls : List AV} : wp C 254 (n + 1) 853 ls [aR r0, aI x1, aI x2, aI x3, aR r4] M b = (CALL C 241 [aR r4, aI x3, aI x2, aI x1, aR r0] M b (kR (wp C 254 n 856 ls) []) (cX C)) := (wp_s (x := (.invokestatic 136, 3, 241, 5)) rfl rfl).trans (cs_row (by decide) (Nat.le_of_ble_eq_true rfl) (Nat.le_of_ble_eq_true rfl))
set_option maxRecDepth 30000 in
theorem w254_856 {v0 : AV} {v1 : AV} {v2 : AV} {v3 : AV} {p4 : Int32} {v5 : AV} {x0 : Int32} {ls : List AV} : wp C 254 (n + 1) 856 (v0 :: v1 :: v2 :: v3 :: aI p4 :: v5 :: ls) [aI x0] M b = (wp C 254 n 858 (v0 :: v1 :: v2 :: v3 :: aI p4 :: aI x0 :: ls) [] M b) := (wp_s rfl rfl).trans rfl
set_option maxRecDepth 30000 in
theorem w254_858 {v0 : AV} {v1 : AV} {o2 : Option Nat} {ls : List AV} : wp C 254 (n + 1) 858 (v0 :: v1 :: aR o2 :: ls) [] M b = (wp C 254 n 859 (v0 :: v1 :: aR o2 :: ls) [aR o2] M b) := (wp_s rfl rfl).trans rfl
set_option maxRecDepth 30000 in
theorem w254_859 {o0 : Option Nat} {r0 : Option Nat} {ls : List AV} : wp C 254 (n + 1) 859 (aR o0 :: ls) [aR r0] M b = (wp C 254 n 860 (aR o0 :: ls) [aR o0, aR r0] M b) := (wp_s rfl rfl).trans rfl
set_option maxRecDepth 30000 in
theorem w254_860 {v0 : AV} {v1 : AV} {v2 : AV} {v3 : AV} {p4 : Int32} {r0 : Option Nat} {r1 : Option Nat} {ls : List AV} : wp C 254 (n + 1) 860 (v0 :: v1 :: v2 :: v3 :: aI p4 :: ls) [aR r0, aR r1] M b = (wp C 254 n 862 (v0 :: v1 :: v2 :: v3 :: aI p4 :: ls) [aI p4, aR r0, aR r1] M b) := (wp_s rfl rfl).trans rfl
set_option maxRecDepth 30000 in
theorem w254_862 {x0 : Int32} {r1 : Option Nat} {r2 : Option Nat} {ls : List AV} : wp C 254 (n + 1) 862 ls [aI x0, aR r1, aR r2] M b = (wp C 254 n 863 ls [aI (iZ 1), aI x0, aR r1, aR r2] M b) := (wp_s rfl rfl).trans rfl
set_option maxRecDepth 30000 in
theorem w254_863 {x0 : Int32} {x1 : Int32} {r2 : Option Nat} {r3 : Option Nat} {ls : List AV} : wp C 254 (n + 1) 863 ls [aI x0, aI x1, aR r2, aR r3] M b = (wp C 254 n 864 ls [aI (x1 + x0), aR r2, aR r3] M b) := (wp_s rfl rfl).trans rfl
set_option maxRecDepth 30000 in
theorem w254_864 {x0 : Int32} {a1 : Nat} {r2 : Option Nat} {ls : List AV} : wp C 254 (n + 1) 864 ls [aI x0, aR (some a1), aR r2] M b = ((a1 = 60 ∧ inb x0 (cL C)) ∧ wp C 254 n 865 ls [aI (cS C (iN x0)), aR r2] M b) := (wp_s rfl rfl).trans rfl
set_option maxRecDepth 30000 in
theorem w254_865 {o0 : Option Nat} {x0 : Int32} {r1 : Option Nat} {ls : List AV} : wp C 254 (n + 1) 865 (aR o0 :: ls) [aI x0, aR r1] M b = (wp C 254 n 866 (aR o0 :: ls) [aR o0, aI x0, aR r1] M b) := (wp_s rfl rfl).trans rfl
set_option maxRecDepth 30000 in
theorem w254_866 {v0 : AV} {v1 : AV} {v2 : AV} {v3 : AV} {p4 : Int32} {r0 : Option Nat} {x1 : Int32} {r2 : Option Nat} {ls : List AV} : wp C 254 (n + 1) 866 (v0 :: v1 :: v2 :: v3 :: aI p4 :: ls) [aR r0, aI x1, aR r2] M b = (wp C 254 n 868 (v0 :: v1 :: v2 :: v3 :: aI p4 :: ls) [aI p4, aR r0, aI x1, aR r2] M b) := (wp_s rfl rfl).trans rfl
set_option maxRecDepth 30000 in
theorem w254_868 {x0 : Int32} {r1 : Option Nat} {x2 : Int32} {r3 : Option Nat} {ls : List AV} : wp C 254 (n + 1) 868 ls [aI x0, aR r1, aI x2, aR r3] M b = (wp C 254 n 869 ls [aI (iZ 2), aI x0, aR r1, aI x2, aR r3] M b) := (wp_s rfl rfl).trans rfl
set_option maxRecDepth 30000 in
theorem w254_869 {x0 : Int32} {x1 : Int32} {r2 : Option Nat} {x3 : Int32} {r4 : Option Nat} {ls : List AV} : wp C 254 (n + 1) 869 ls [aI x0, aI x1, aR r2, aI x3, aR r4] M b = (wp C 254 n 870 ls [aI (x1 + x0), aR r2, aI x3, aR r4] M b) := (wp_s rfl rfl).trans rfl
set_option maxRecDepth 30000 in
theorem w254_870 {x0 : Int32} {a1 : Nat} {x2 : Int32} {r3 : Option Nat} {ls : List AV} : wp C 254 (n + 1) 870 ls [aI x0, aR (some a1), aI x2, aR r3] M b = ((a1 = 60 ∧ inb x0 (cL C)) ∧ wp C 254 n 871 ls [aI (cS C (iN x0)), aI x2, aR r3] M b) := (wp_s rfl rfl).trans rfl
set_option maxRecDepth 30000 in
theorem w254_871 {o0 : Option Nat} {x0 : Int32} {x1 : Int32} {r2 : Option Nat} {ls : List AV} : wp C 254 (n + 1) 871 (aR o0 :: ls) [aI x0, aI x1, aR r2] M b = (wp C 254 n 872 (aR o0 :: ls) [aR o0, aI x0, aI x1, aR r2] M b) := (wp_s rfl rfl).trans rfl
set_option maxRecDepth 30000 in
theorem w254_872 {v0 : AV} {v1 : AV} {v2 : AV} {v3 : AV} {p4 : Int32} {r0 : Option Nat} {x1 : Int32} {x2 : Int32} {r3 : Option Nat} {ls : List AV} : wp C 254 (n + 1) 872 (v0 :: v1 :: v2 :: v3 :: aI p4 :: ls) [aR r0, aI x1, aI x2, aR r3] M b = (wp C 254 n 874 (v0 :: v1 :: v2 :: v3 :: aI p4 :: ls) [aI p4, aR r0, aI x1, aI x2, aR r3] M b) := (wp_s rfl rfl).trans rfl
set_option maxRecDepth 30000 in
theorem w254_874 {x0 : Int32} {r1 : Option Nat} {x2 : Int32} {x3 : Int32} {r4 : Option Nat} {ls : List AV} : wp C 254 (n + 1) 874 ls [aI x0, aR r1, aI x2, aI x3, aR r4] M b = (wp C 254 n 875 ls [aI (iZ 3), aI x0, aR r1, aI x2, aI x3, aR r4] M b) := (wp_s rfl rfl).trans rfl
set_option maxRecDepth 30000 in
theorem w254_875 {x0 : Int32} {x1 : Int32} {r2 : Option Nat} {x3 : Int32} {x4 : Int32} {r5 : Option Nat} {ls : List AV} : wp C 254 (n + 1) 875 ls [aI x0, aI x1, aR r2, aI x3, aI x4, aR r5] M b = (wp C 254 n 876 ls [aI (x1 + x0), aR r2, aI x3, aI x4, aR r5] M b) := (wp_s rfl rfl).trans rfl
set_option maxRecDepth 30000 in
theorem w254_876 {x0 : Int32} {a1 : Nat} {x2 : Int32} {x3 : Int32} {r4 : Option Nat} {ls : List AV} : wp C 254 (n + 1) 876 ls [aI x0, aR (some a1), aI x2, aI x3, aR r4] M b = ((a1 = 60 ∧ inb x0 (cL C)) ∧ wp C 254 n 877 ls [aI (cS C (iN x0)), aI x2, aI x3, aR r4] M b) := (wp_s rfl rfl).trans rfl
set_option maxRecDepth 30000 in
theorem w254_877 {x0 : Int32} {x1 : Int32} {x2 : Int32} {a3 : Nat} {ls : List AV} : wp C 254 (n + 1) 877 ls [aI x0, aI x1, aI x2, aR (some a3)] M b = (oB M a3 12 ∧ CALL C 75 [aR (some a3), aI x2, aI x1, aI x0] M b (kR (wp C 254 n 880 ls) []) (cX C)) := (wp_s (x := (.invokevirtual 138, 3, 75, 3)) rfl rfl).trans (cv_row (by decide) (Nat.le_of_ble_eq_true rfl) (Nat.le_of_ble_eq_true rfl) rfl)
set_option maxRecDepth 30000 in
theorem w254_880 {v0 : AV} {v1 : AV} {v2 : AV} {v3 : AV} {v4 : AV} {p5 : Int32} {v6 : AV} {x0 : Int32} {ls : List AV} : wp C 254 (n + 1) 880 (v0 :: v1 :: v2 :: v3 :: v4 :: aI p5 :: v6 :: ls) [aI x0] M b = (wp C 254 n 882 (v0 :: v1 :: v2 :: v3 :: v4 :: aI p5 :: aI x0 :: ls) [] M b) := (wp_s rfl rfl).trans rfl
set_option maxRecDepth 30000 in
theorem w254_882 {v0 : AV} {v1 : AV} {o2 : Option Nat} {ls : List AV} : wp C 254 (n + 1) 882 (v0 :: v1 :: aR o2 :: ls) [] M b = (wp C 254 n 883 (v0 :: v1 :: aR o2 :: ls) [aR o2] M b) := (wp_s rfl rfl).trans rfl
set_option maxRecDepth 30000 in
theorem w254_883 {a0 : Nat} {ls : List AV} : wp C 254 (n + 1) 883 ls [aR (some a0)] M b = (oB M a0 12 ∧ CALL C 19 [aR (some a0)] M b (kR (wp C 254 n 886 ls) []) (cX C)) := (wp_s (x := (.invokevirtual 96, 3, 19, 0)) rfl rfl).trans (cv_row (by decide) (Nat.le_of_ble_eq_true rfl) (Nat.le_of_ble_eq_true rfl) rfl)
set_option maxRecDepth 30000 in
theorem w254_886 {v0 : AV} {v1 : AV} {v2 : AV} {v3 : AV} {v4 : AV} {p5 : Int32} {x0 : Int32} {ls : List AV} : wp C 254 (n + 1) 886 (v0 :: v1 :: v2 :: v3 :: v4 :: aI p5 :: ls) [aI x0] M b = (wp C 254 n 888 (v0 :: v1 :: v2 :: v3 :: v4 :: aI p5 :: ls) [aI p5, aI x0] M b) := (wp_s rfl rfl).trans rfl
set_option maxRecDepth 30000 in
theorem w254_888 {x0 : Int32} {x1 : Int32} {ls : List AV} : wp C 254 (n + 1) 888 ls [aI x0, aI x1] M b = ((x1.toInt = x0.toInt → wp C 254 n 893 ls [] M b) ∧ (¬ x1.toInt = x0.toInt → wp C 254 n 891 ls [] M b)) := (wp_s (x := (.if_icmp .eq 5, 3, 893, 0)) rfl rfl).trans ceq
set_option maxRecDepth 30000 in
theorem w254_891 {ls : List AV} : wp C 254 (n + 1) 891 ls [] M b = (wp C 254 n 892 ls [aI (iZ 0)] M b) := (wp_s rfl rfl).trans rfl
set_option maxRecDepth 30000 in
theorem w254_892 {x0 : Int32} {ls : List AV} : wp C 254 (n + 1) 892 ls [aI x0] M b = (isB x0 ∧ cQ C (some (aI x0)) M) := (wp_s (x := (.ireturn, 1, 0, 0)) rfl rfl).trans (rt_Z rfl)
set_option maxRecDepth 30000 in
theorem w254_893 {v0 : AV} {v1 : AV} {v2 : AV} {v3 : AV} {v4 : AV} {p5 : Int32} {ls : List AV} : wp C 254 (n + 1) 893 (v0 :: v1 :: v2 :: v3 :: v4 :: aI p5 :: ls) [] M b = (wp C 254 n 895 (v0 :: v1 :: v2 :: v3 :: v4 :: aI p5 :: ls) [aI p5] M b) := (wp_s rfl rfl).trans rfl
set_option maxRecDepth 30000 in
theorem w254_895 {x0 : Int32} {ls : List AV} : wp C 254 (n + 1) 895 ls [aI x0] M b = ((x0.toInt = 0 → wp C 254 n 898 ls [] M b) ∧ (¬ x0.toInt = 0 → wp C 254 n 910 ls [] M b)) := (wp_s (x := (.ifCond .ne 15, 3, 910, 0)) rfl rfl).trans zne
set_option maxRecDepth 30000 in
theorem w254_898 {v0 : AV} {v1 : AV} {v2 : AV} {o3 : Option Nat} {ls : List AV} : wp C 254 (n + 1) 898 (v0 :: v1 :: v2 :: aR o3 :: ls) [] M b = (wp C 254 n 899 (v0 :: v1 :: v2 :: aR o3 :: ls) [aR o3] M b) := (wp_s rfl rfl).trans rfl
set_option maxRecDepth 30000 in
theorem w254_899 {r0 : Option Nat} {ls : List AV} : wp C 254 (n + 1) 899 ls [aR r0] M b = (wp C 254 n 900 ls [aI (iZ 0), aR r0] M b) := (wp_s rfl rfl).trans rfl
set_option maxRecDepth 30000 in
theorem w254_900 {x0 : Int32} {a1 : Nat} {ls : List AV} : wp C 254 (n + 1) 900 ls [aI x0, aR (some a1)] M b = (iA M a1 21 x0 ∧ wp C 254 n 901 ls [aL (mJ M a1 (iN x0))] M b) := (wp_s rfl rfl).trans rfl
set_option maxRecDepth 30000 in
theorem w254_901 {v0 : AV} {v1 : AV} {v2 : AV} {v3 : AV} {v4 : AV} {v5 : AV} {p6 : Int32} {y0 : Int64} {ls : List AV} : wp C 254 (n + 1) 901 (v0 :: v1 :: v2 :: v3 :: v4 :: v5 :: aI p6 :: ls) [aL y0] M b = (wp C 254 n 903 (v0 :: v1 :: v2 :: v3 :: v4 :: v5 :: aI p6 :: ls) [aI p6, aL y0] M b) := (wp_s rfl rfl).trans rfl
set_option maxRecDepth 30000 in
theorem w254_903 {x0 : Int32} {y1 : Int64} {ls : List AV} : wp C 254 (n + 1) 903 ls [aI x0, aL y1] M b = (wp C 254 n 904 ls [aL x0.toInt64, aL y1] M b) := (wp_s rfl rfl).trans rfl
set_option maxRecDepth 30000 in
theorem w254_904 {y0 : Int64} {y1 : Int64} {ls : List AV} : wp C 254 (n + 1) 904 ls [aL y0, aL y1] M b = (wp C 254 n 905 ls [aI (lg_cmp y1 y0)] M b) := (wp_s rfl rfl).trans rfl
set_option maxRecDepth 30000 in
theorem w254_905 {x0 : Int32} {ls : List AV} : wp C 254 (n + 1) 905 ls [aI x0] M b = ((x0.toInt = 0 → wp C 254 n 910 ls [] M b) ∧ (¬ x0.toInt = 0 → wp C 254 n 908 ls [] M b)) := (wp_s (x := (.ifCond .eq 5, 3, 910, 0)) rfl rfl).trans zeq
set_option maxRecDepth 30000 in
theorem w254_908 {ls : List AV} : wp C 254 (n + 1) 908 ls [] M b = (wp C 254 n 909 ls [aI (iZ 0)] M b) := (wp_s rfl rfl).trans rfl
set_option maxRecDepth 30000 in
theorem w254_909 {x0 : Int32} {ls : List AV} : wp C 254 (n + 1) 909 ls [aI x0] M b = (isB x0 ∧ cQ C (some (aI x0)) M) := (wp_s (x := (.ireturn, 1, 0, 0)) rfl rfl).trans (rt_Z rfl)
set_option maxRecDepth 30000 in
theorem w254_910 {ls : List AV} : wp C 254 (n + 1) 910 ls [] M b = (wp C 254 n 1838 ls [] M b) := (wp_s rfl rfl).trans rfl
set_option maxRecDepth 30000 in
theorem w254_913 {v0 : AV} {o1 : Option Nat} {ls : List AV} : wp C 254 (n + 1) 913 (v0 :: aR o1 :: ls) [] M b = (wp C 254 n 914 (v0 :: aR o1 :: ls) [aR o1] M b) := (wp_s rfl rfl).trans rfl
set_option maxRecDepth 30000 in
theorem w254_914 {o0 : Option Nat} {r0 : Option Nat} {ls : List AV} : wp C 254 (n + 1) 914 (aR o0 :: ls) [aR r0] M b = (wp C 254 n 915 (aR o0 :: ls) [aR o0, aR r0] M b) := (wp_s rfl rfl).trans rfl
set_option maxRecDepth 30000 in
theorem w254_915 {v0 : AV} {v1 : AV} {v2 : AV} {v3 : AV} {p4 : Int32} {r0 : Option Nat} {r1 : Option Nat} {ls : List AV} : wp C 254 (n + 1) 915 (v0 :: v1 :: v2 :: v3 :: aI p4 :: ls) [aR r0, aR r1] M b = (wp C 254 n 917 (v0 :: v1 :: v2 :: v3 :: aI p4 :: ls) [aI p4, aR r0, aR r1] M b) := (wp_s rfl rfl).trans rfl
set_option maxRecDepth 30000 in
theorem w254_917 {x0 : Int32} {r1 : Option Nat} {r2 : Option Nat} {ls : List AV} : wp C 254 (n + 1) 917 ls [aI x0, aR r1, aR r2] M b = (wp C 254 n 918 ls [aI (iZ 1), aI x0, aR r1, aR r2] M b) := (wp_s rfl rfl).trans rfl
set_option maxRecDepth 30000 in
theorem w254_918 {x0 : Int32} {x1 : Int32} {r2 : Option Nat} {r3 : Option Nat} {ls : List AV} : wp C 254 (n + 1) 918 ls [aI x0, aI x1, aR r2, aR r3] M b = (wp C 254 n 919 ls [aI (x1 + x0), aR r2, aR r3] M b) := (wp_s rfl rfl).trans rfl
set_option maxRecDepth 30000 in
theorem w254_919 {x0 : Int32} {a1 : Nat} {r2 : Option Nat} {ls : List AV} : wp C 254 (n + 1) 919 ls [aI x0, aR (some a1), aR r2] M b = ((a1 = 60 ∧ inb x0 (cL C)) ∧ wp C 254 n 920 ls [aI (cS C (iN x0)), aR r2] M b) := (wp_s rfl rfl).trans rfl
set_option maxRecDepth 30000 in
theorem w254_920 {o0 : Option Nat} {x0 : Int32} {r1 : Option Nat} {ls : List AV} : wp C 254 (n + 1) 920 (aR o0 :: ls) [aI x0, aR r1] M b = (wp C 254 n 921 (aR o0 :: ls) [aR o0, aI x0, aR r1] M b) := (wp_s rfl rfl).trans rfl
set_option maxRecDepth 30000 in
theorem w254_921 {v0 : AV} {v1 : AV} {v2 : AV} {v3 : AV} {p4 : Int32} {r0 : Option Nat} {x1 : Int32} {r2 : Option Nat} {ls : List AV} : wp C 254 (n + 1) 921 (v0 :: v1 :: v2 :: v3 :: aI p4 :: ls) [aR r0, aI x1, aR r2] M b = (wp C 254 n 923 (v0 :: v1 :: v2 :: v3 :: aI p4 :: ls) [aI p4, aR r0, aI x1, aR r2] M b) := (wp_s rfl rfl).trans rfl
set_option maxRecDepth 30000 in
theorem w254_923 {x0 : Int32} {r1 : Option Nat} {x2 : Int32} {r3 : Option Nat} {ls : List AV} : wp C 254 (n + 1) 923 ls [aI x0, aR r1, aI x2, aR r3] M b = (wp C 254 n 924 ls [aI (iZ 2), aI x0, aR r1, aI x2, aR r3] M b) := (wp_s rfl rfl).trans rfl
set_option maxRecDepth 30000 in
theorem w254_924 {x0 : Int32} {x1 : Int32} {r2 : Option Nat} {x3 : Int32} {r4 : Option Nat} {ls : List AV} : wp C 254 (n + 1) 924 ls [aI x0, aI x1, aR r2, aI x3, aR r4] M b = (wp C 254 n 925 ls [aI (x1 + x0), aR r2, aI x3, aR r4] M b) := (wp_s rfl rfl).trans rfl
set_option maxRecDepth 30000 in
theorem w254_925 {x0 : Int32} {a1 : Nat} {x2 : Int32} {r3 : Option Nat} {ls : List AV} : wp C 254 (n + 1) 925 ls [aI x0, aR (some a1), aI x2, aR r3] M b = ((a1 = 60 ∧ inb x0 (cL C)) ∧ wp C 254 n 926 ls [aI (cS C (iN x0)), aI x2, aR r3] M b) := (wp_s rfl rfl).trans rfl
set_option maxRecDepth 30000 in
theorem w254_926 {o0 : Option Nat} {x0 : Int32} {x1 : Int32} {r2 : Option Nat} {ls : List AV} : wp C 254 (n + 1) 926 (aR o0 :: ls) [aI x0, aI x1, aR r2] M b = (wp C 254 n 927 (aR o0 :: ls) [aR o0, aI x0, aI x1, aR r2] M b) := (wp_s rfl rfl).trans rfl
set_option maxRecDepth 30000 in
theorem w254_927 {v0 : AV} {v1 : AV} {v2 : AV} {v3 : AV} {p4 : Int32} {r0 : Option Nat} {x1 : Int32} {x2 : Int32} {r3 : Option Nat} {ls : List AV} : wp C 254 (n + 1) 927 (v0 :: v1 :: v2 :: v3 :: aI p4 :: ls) [aR r0, aI x1, aI x2, aR r3] M b = (wp C 254 n 929 (v0 :: v1 :: v2 :: v3 :: aI p4 :: ls) [aI p4, aR r0, aI x1, aI x2, aR r3] M b) := (wp_s rfl rfl).trans rfl
set_option maxRecDepth 30000 in
theorem w254_929 {x0 : Int32} {r1 : Option Nat} {x2 : Int32} {x3 : Int32} {r4 : Option Nat} {ls : List AV} : wp C 254 (n + 1) 929 ls [aI x0, aR r1, aI x2, aI x3, aR r4] M b = (wp C 254 n 930 ls [aI (iZ 3), aI x0, aR r1, aI x2, aI x3, aR r4] M b) := (wp_s rfl rfl).trans rfl
set_option maxRecDepth 30000 in
theorem w254_930 {x0 : Int32} {x1 : Int32} {r2 : Option Nat} {x3 : Int32} {x4 : Int32} {r5 : Option Nat} {ls : List AV} : wp C 254 (n + 1) 930 ls [aI x0, aI x1, aR r2, aI x3, aI x4, aR r5] M b = (wp C 254 n 931 ls [aI (x1 + x0), aR r2, aI x3, aI x4, aR r5] M b) := (wp_s rfl rfl).trans rfl
set_option maxRecDepth 30000 in
theorem w254_931 {x0 : Int32} {a1 : Nat} {x2 : Int32} {x3 : Int32} {r4 : Option Nat} {ls : List AV} : wp C 254 (n + 1) 931 ls [aI x0, aR (some a1), aI x2, aI x3, aR r4] M b = ((a1 = 60 ∧ inb x0 (cL C)) ∧ wp C 254 n 932 ls [aI (cS C (iN x0)), aI x2, aI x3, aR r4] M b) := (wp_s rfl rfl).trans rfl
set_option maxRecDepth 30000 in
theorem w254_932 {v0 : AV} {v1 : AV} {v2 : AV} {o3 : Option Nat} {x0 : Int32} {x1 : Int32} {x2 : Int32} {r3 : Option Nat} {ls : List AV} : wp C 254 (n + 1) 932 (v0 :: v1 :: v2 :: aR o3 :: ls) [aI x0, aI x1, aI x2, aR r3] M b = (wp C 254 n 933 (v0 :: v1 :: v2 :: aR o3 :: ls) [aR o3, aI x0, aI x1, aI x2, aR r3] M b) := (wp_s rfl rfl).trans rfl
set_option maxRecDepth 30000 in
theorem w254_933 {r0 : Option Nat} {x1 : Int32} {x2 : Int32} {x3 : Int32} {r4 : Option Nat} {ls : List AV} : wp C 254 (n + 1) 933 ls [aR r0, aI x1, aI x2, aI x3, aR r4] M b = (CALL C 242 [aR r4, aI x3, aI x2, aI x1, aR r0] M b (kR (wp C 254 n 936 ls) []) (cX C)) := (wp_s (x := (.invokestatic 139, 3, 242, 5)) rfl rfl).trans (cs_row (by decide) (Nat.le_of_ble_eq_true rfl) (Nat.le_of_ble_eq_true rfl))
set_option maxRecDepth 30000 in
theorem w254_936 {v0 : AV} {v1 : AV} {v2 : AV} {v3 : AV} {p4 : Int32} {v5 : AV} {x0 : Int32} {ls : List AV} : wp C 254 (n + 1) 936 (v0 :: v1 :: v2 :: v3 :: aI p4 :: v5 :: ls) [aI x0] M b = (wp C 254 n 938 (v0 :: v1 :: v2 :: v3 :: aI p4 :: aI x0 :: ls) [] M b) := (wp_s rfl rfl).trans rfl
set_option maxRecDepth 30000 in
theorem w254_938 {v0 : AV} {v1 : AV} {o2 : Option Nat} {ls : List AV} : wp C 254 (n + 1) 938 (v0 :: v1 :: aR o2 :: ls) [] M b = (wp C 254 n 939 (v0 :: v1 :: aR o2 :: ls) [aR o2] M b) := (wp_s rfl rfl).trans rfl
set_option maxRecDepth 30000 in
theorem w254_939 {o0 : Option Nat} {r0 : Option Nat} {ls : List AV} : wp C 254 (n + 1) 939 (aR o0 :: ls) [aR r0] M b = (wp C 254 n 940 (aR o0 :: ls) [aR o0, aR r0] M b) := (wp_s rfl rfl).trans rfl
set_option maxRecDepth 30000 in
theorem w254_940 {v0 : AV} {v1 : AV} {v2 : AV} {v3 : AV} {p4 : Int32} {r0 : Option Nat} {r1 : Option Nat} {ls : List AV} : wp C 254 (n + 1) 940 (v0 :: v1 :: v2 :: v3 :: aI p4 :: ls) [aR r0, aR r1] M b = (wp C 254 n 942 (v0 :: v1 :: v2 :: v3 :: aI p4 :: ls) [aI p4, aR r0, aR r1] M b) := (wp_s rfl rfl).trans rfl
set_option maxRecDepth 30000 in
theorem w254_942 {x0 : Int32} {r1 : Option Nat} {r2 : Option Nat} {ls : List AV} : wp C 254 (n + 1) 942 ls [aI x0, aR r1, aR r2] M b = (wp C 254 n 943 ls [aI (iZ 1), aI x0, aR r1, aR r2] M b) := (wp_s rfl rfl).trans rfl
set_option maxRecDepth 30000 in
theorem w254_943 {x0 : Int32} {x1 : Int32} {r2 : Option Nat} {r3 : Option Nat} {ls : List AV} : wp C 254 (n + 1) 943 ls [aI x0, aI x1, aR r2, aR r3] M b = (wp C 254 n 944 ls [aI (x1 + x0), aR r2, aR r3] M b) := (wp_s rfl rfl).trans rfl
set_option maxRecDepth 30000 in
theorem w254_944 {x0 : Int32} {a1 : Nat} {r2 : Option Nat} {ls : List AV} : wp C 254 (n + 1) 944 ls [aI x0, aR (some a1), aR r2] M b = ((a1 = 60 ∧ inb x0 (cL C)) ∧ wp C 254 n 945 ls [aI (cS C (iN x0)), aR r2] M b) := (wp_s rfl rfl).trans rfl
set_option maxRecDepth 30000 in
theorem w254_945 {o0 : Option Nat} {x0 : Int32} {r1 : Option Nat} {ls : List AV} : wp C 254 (n + 1) 945 (aR o0 :: ls) [aI x0, aR r1] M b = (wp C 254 n 946 (aR o0 :: ls) [aR o0, aI x0, aR r1] M b) := (wp_s rfl rfl).trans rfl
set_option maxRecDepth 30000 in
theorem w254_946 {v0 : AV} {v1 : AV} {v2 : AV} {v3 : AV} {p4 : Int32} {r0 : Option Nat} {x1 : Int32} {r2 : Option Nat} {ls : List AV} : wp C 254 (n + 1) 946 (v0 :: v1 :: v2 :: v3 :: aI p4 :: ls) [aR r0, aI x1, aR r2] M b = (wp C 254 n 948 (v0 :: v1 :: v2 :: v3 :: aI p4 :: ls) [aI p4, aR r0, aI x1, aR r2] M b) := (wp_s rfl rfl).trans rfl
set_option maxRecDepth 30000 in
theorem w254_948 {x0 : Int32} {r1 : Option Nat} {x2 : Int32} {r3 : Option Nat} {ls : List AV} : wp C 254 (n + 1) 948 ls [aI x0, aR r1, aI x2, aR r3] M b = (wp C 254 n 949 ls [aI (iZ 2), aI x0, aR r1, aI x2, aR r3] M b) := (wp_s rfl rfl).trans rfl
set_option maxRecDepth 30000 in
theorem w254_949 {x0 : Int32} {x1 : Int32} {r2 : Option Nat} {x3 : Int32} {r4 : Option Nat} {ls : List AV} : wp C 254 (n + 1) 949 ls [aI x0, aI x1, aR r2, aI x3, aR r4] M b = (wp C 254 n 950 ls [aI (x1 + x0), aR r2, aI x3, aR r4] M b) := (wp_s rfl rfl).trans rfl
set_option maxRecDepth 30000 in
theorem w254_950 {x0 : Int32} {a1 : Nat} {x2 : Int32} {r3 : Option Nat} {ls : List AV} : wp C 254 (n + 1) 950 ls [aI x0, aR (some a1), aI x2, aR r3] M b = ((a1 = 60 ∧ inb x0 (cL C)) ∧ wp C 254 n 951 ls [aI (cS C (iN x0)), aI x2, aR r3] M b) := (wp_s rfl rfl).trans rfl
set_option maxRecDepth 30000 in
theorem w254_951 {o0 : Option Nat} {x0 : Int32} {x1 : Int32} {r2 : Option Nat} {ls : List AV} : wp C 254 (n + 1) 951 (aR o0 :: ls) [aI x0, aI x1, aR r2] M b = (wp C 254 n 952 (aR o0 :: ls) [aR o0, aI x0, aI x1, aR r2] M b) := (wp_s rfl rfl).trans rfl
set_option maxRecDepth 30000 in
theorem w254_952 {v0 : AV} {v1 : AV} {v2 : AV} {v3 : AV} {p4 : Int32} {r0 : Option Nat} {x1 : Int32} {x2 : Int32} {r3 : Option Nat} {ls : List AV} : wp C 254 (n + 1) 952 (v0 :: v1 :: v2 :: v3 :: aI p4 :: ls) [aR r0, aI x1, aI x2, aR r3] M b = (wp C 254 n 954 (v0 :: v1 :: v2 :: v3 :: aI p4 :: ls) [aI p4, aR r0, aI x1, aI x2, aR r3] M b) := (wp_s rfl rfl).trans rfl
set_option maxRecDepth 30000 in
theorem w254_954 {x0 : Int32} {r1 : Option Nat} {x2 : Int32} {x3 : Int32} {r4 : Option Nat} {ls : List AV} : wp C 254 (n + 1) 954 ls [aI x0, aR r1, aI x2, aI x3, aR r4] M b = (wp C 254 n 955 ls [aI (iZ 3), aI x0, aR r1, aI x2, aI x3, aR r4] M b) := (wp_s rfl rfl).trans rfl
set_option maxRecDepth 30000 in
theorem w254_955 {x0 : Int32} {x1 : Int32} {r2 : Option Nat} {x3 : Int32} {x4 : Int32} {r5 : Option Nat} {ls : List AV} : wp C 254 (n + 1) 955 ls [aI x0, aI x1, aR r2, aI x3, aI x4, aR r5] M b = (wp C 254 n 956 ls [aI (x1 + x0), aR r2, aI x3, aI x4, aR r5] M b) := (wp_s rfl rfl).trans rfl
set_option maxRecDepth 30000 in
theorem w254_956 {x0 : Int32} {a1 : Nat} {x2 : Int32} {x3 : Int32} {r4 : Option Nat} {ls : List AV} : wp C 254 (n + 1) 956 ls [aI x0, aR (some a1), aI x2, aI x3, aR r4] M b = ((a1 = 60 ∧ inb x0 (cL C)) ∧ wp C 254 n 957 ls [aI (cS C (iN x0)), aI x2, aI x3, aR r4] M b) := (wp_s rfl rfl).trans rfl
set_option maxRecDepth 30000 in
theorem w254_957 {x0 : Int32} {x1 : Int32} {x2 : Int32} {a3 : Nat} {ls : List AV} : wp C 254 (n + 1) 957 ls [aI x0, aI x1, aI x2, aR (some a3)] M b = (oB M a3 12 ∧ CALL C 76 [aR (some a3), aI x2, aI x1, aI x0] M b (kR (wp C 254 n 960 ls) []) (cX C)) := (wp_s (x := (.invokevirtual 141, 3, 76, 3)) rfl rfl).trans (cv_row (by decide) (Nat.le_of_ble_eq_true rfl) (Nat.le_of_ble_eq_true rfl) rfl)
set_option maxRecDepth 30000 in
theorem w254_960 {v0 : AV} {v1 : AV} {v2 : AV} {v3 : AV} {v4 : AV} {p5 : Int32} {v6 : AV} {x0 : Int32} {ls : List AV} : wp C 254 (n + 1) 960 (v0 :: v1 :: v2 :: v3 :: v4 :: aI p5 :: v6 :: ls) [aI x0] M b = (wp C 254 n 962 (v0 :: v1 :: v2 :: v3 :: v4 :: aI p5 :: aI x0 :: ls) [] M b) := (wp_s rfl rfl).trans rfl
set_option maxRecDepth 30000 in
theorem w254_962 {v0 : AV} {v1 : AV} {o2 : Option Nat} {ls : List AV} : wp C 254 (n + 1) 962 (v0 :: v1 :: aR o2 :: ls) [] M b = (wp C 254 n 963 (v0 :: v1 :: aR o2 :: ls) [aR o2] M b) := (wp_s rfl rfl).trans rfl
set_option maxRecDepth 30000 in
theorem w254_963 {a0 : Nat} {ls : List AV} : wp C 254 (n + 1) 963 ls [aR (some a0)] M b = (oB M a0 12 ∧ CALL C 19 [aR (some a0)] M b (kR (wp C 254 n 966 ls) []) (cX C)) := (wp_s (x := (.invokevirtual 96, 3, 19, 0)) rfl rfl).trans (cv_row (by decide) (Nat.le_of_ble_eq_true rfl) (Nat.le_of_ble_eq_true rfl) rfl)
set_option maxRecDepth 30000 in
theorem w254_966 {v0 : AV} {v1 : AV} {v2 : AV} {v3 : AV} {v4 : AV} {p5 : Int32} {x0 : Int32} {ls : List AV} : wp C 254 (n + 1) 966 (v0 :: v1 :: v2 :: v3 :: v4 :: aI p5 :: ls) [aI x0] M b = (wp C 254 n 968 (v0 :: v1 :: v2 :: v3 :: v4 :: aI p5 :: ls) [aI p5, aI x0] M b) := (wp_s rfl rfl).trans rfl
set_option maxRecDepth 30000 in
theorem w254_968 {x0 : Int32} {x1 : Int32} {ls : List AV} : wp C 254 (n + 1) 968 ls [aI x0, aI x1] M b = ((x1.toInt = x0.toInt → wp C 254 n 973 ls [] M b) ∧ (¬ x1.toInt = x0.toInt → wp C 254 n 971 ls [] M b)) := (wp_s (x := (.if_icmp .eq 5, 3, 973, 0)) rfl rfl).trans ceq
set_option maxRecDepth 30000 in
theorem w254_971 {ls : List AV} : wp C 254 (n + 1) 971 ls [] M b = (wp C 254 n 972 ls [aI (iZ 0)] M b) := (wp_s rfl rfl).trans rfl
set_option maxRecDepth 30000 in
theorem w254_972 {x0 : Int32} {ls : List AV} : wp C 254 (n + 1) 972 ls [aI x0] M b = (isB x0 ∧ cQ C (some (aI x0)) M) := (wp_s (x := (.ireturn, 1, 0, 0)) rfl rfl).trans (rt_Z rfl)
set_option maxRecDepth 30000 in
theorem w254_973 {v0 : AV} {v1 : AV} {v2 : AV} {v3 : AV} {v4 : AV} {p5 : Int32} {ls : List AV} : wp C 254 (n + 1) 973 (v0 :: v1 :: v2 :: v3 :: v4 :: aI p5 :: ls) [] M b = (wp C 254 n 975 (v0 :: v1 :: v2 :: v3 :: v4 :: aI p5 :: ls) [aI p5] M b) := (wp_s rfl rfl).trans rfl
set_option maxRecDepth 30000 in
theorem w254_975 {x0 : Int32} {ls : List AV} : wp C 254 (n + 1) 975 ls [aI x0] M b = ((x0.toInt = 0 → wp C 254 n 978 ls [] M b) ∧ (¬ x0.toInt = 0 → wp C 254 n 990 ls [] M b)) := (wp_s (x := (.ifCond .ne 15, 3, 990, 0)) rfl rfl).trans zne
set_option maxRecDepth 30000 in
theorem w254_978 {v0 : AV} {v1 : AV} {v2 : AV} {o3 : Option Nat} {ls : List AV} : wp C 254 (n + 1) 978 (v0 :: v1 :: v2 :: aR o3 :: ls) [] M b = (wp C 254 n 979 (v0 :: v1 :: v2 :: aR o3 :: ls) [aR o3] M b) := (wp_s rfl rfl).trans rfl
set_option maxRecDepth 30000 in
theorem w254_979 {r0 : Option Nat} {ls : List AV} : wp C 254 (n + 1) 979 ls [aR r0] M b = (wp C 254 n 980 ls [aI (iZ 0), aR r0] M b) := (wp_s rfl rfl).trans rfl
set_option maxRecDepth 30000 in
theorem w254_980 {x0 : Int32} {a1 : Nat} {ls : List AV} : wp C 254 (n + 1) 980 ls [aI x0, aR (some a1)] M b = (iA M a1 21 x0 ∧ wp C 254 n 981 ls [aL (mJ M a1 (iN x0))] M b) := (wp_s rfl rfl).trans rfl
set_option maxRecDepth 30000 in
theorem w254_981 {v0 : AV} {v1 : AV} {v2 : AV} {v3 : AV} {v4 : AV} {v5 : AV} {p6 : Int32} {y0 : Int64} {ls : List AV} : wp C 254 (n + 1) 981 (v0 :: v1 :: v2 :: v3 :: v4 :: v5 :: aI p6 :: ls) [aL y0] M b = (wp C 254 n 983 (v0 :: v1 :: v2 :: v3 :: v4 :: v5 :: aI p6 :: ls) [aI p6, aL y0] M b) := (wp_s rfl rfl).trans rfl
set_option maxRecDepth 30000 in
theorem w254_983 {x0 : Int32} {y1 : Int64} {ls : List AV} : wp C 254 (n + 1) 983 ls [aI x0, aL y1] M b = (wp C 254 n 984 ls [aL x0.toInt64, aL y1] M b) := (wp_s rfl rfl).trans rfl
set_option maxRecDepth 30000 in
theorem w254_984 {y0 : Int64} {y1 : Int64} {ls : List AV} : wp C 254 (n + 1) 984 ls [aL y0, aL y1] M b = (wp C 254 n 985 ls [aI (lg_cmp y1 y0)] M b) := (wp_s rfl rfl).trans rfl
set_option maxRecDepth 30000 in
theorem w254_985 {x0 : Int32} {ls : List AV} : wp C 254 (n + 1) 985 ls [aI x0] M b = ((x0.toInt = 0 → wp C 254 n 990 ls [] M b) ∧ (¬ x0.toInt = 0 → wp C 254 n 988 ls [] M b)) := (wp_s (x := (.ifCond .eq 5, 3, 990, 0)) rfl rfl).trans zeq
set_option maxRecDepth 30000 in
theorem w254_988 {ls : List AV} : wp C 254 (n + 1) 988 ls [] M b = (wp C 254 n 989 ls [aI (iZ 0)] M b) := (wp_s rfl rfl).trans rfl
set_option maxRecDepth 30000 in
theorem w254_989 {x0 : Int32} {ls : List AV} : wp C 254 (n + 1) 989 ls [aI x0] M b = (isB x0 ∧ cQ C (some (aI x0)) M) := (wp_s (x := (.ireturn, 1, 0, 0)) rfl rfl).trans (rt_Z rfl)
set_option maxRecDepth 30000 in
theorem w254_990 {ls : List AV} : wp C 254 (n + 1) 990 ls [] M b = (wp C 254 n 1838 ls [] M b) := (wp_s rfl rfl).trans rfl
set_option maxRecDepth 30000 in
theorem w254_993 {v0 : AV} {o1 : Option Nat} {ls : List AV} : wp C 254 (n + 1) 993 (v0 :: aR o1 :: ls) [] M b = (wp C 254 n 994 (v0 :: aR o1 :: ls) [aR o1] M b) := (wp_s rfl rfl).trans rfl
set_option maxRecDepth 30000 in
theorem w254_994 {o0 : Option Nat} {r0 : Option Nat} {ls : List AV} : wp C 254 (n + 1) 994 (aR o0 :: ls) [aR r0] M b = (wp C 254 n 995 (aR o0 :: ls) [aR o0, aR r0] M b) := (wp_s rfl rfl).trans rfl
set_option maxRecDepth 30000 in
theorem w254_995 {v0 : AV} {v1 : AV} {v2 : AV} {v3 : AV} {p4 : Int32} {r0 : Option Nat} {r1 : Option Nat} {ls : List AV} : wp C 254 (n + 1) 995 (v0 :: v1 :: v2 :: v3 :: aI p4 :: ls) [aR r0, aR r1] M b = (wp C 254 n 997 (v0 :: v1 :: v2 :: v3 :: aI p4 :: ls) [aI p4, aR r0, aR r1] M b) := (wp_s rfl rfl).trans rfl
set_option maxRecDepth 30000 in
theorem w254_997 {x0 : Int32} {r1 : Option Nat} {r2 : Option Nat} {ls : List AV} : wp C 254 (n + 1) 997 ls [aI x0, aR r1, aR r2] M b = (wp C 254 n 998 ls [aI (iZ 1), aI x0, aR r1, aR r2] M b) := (wp_s rfl rfl).trans rfl
set_option maxRecDepth 30000 in
theorem w254_998 {x0 : Int32} {x1 : Int32} {r2 : Option Nat} {r3 : Option Nat} {ls : List AV} : wp C 254 (n + 1) 998 ls [aI x0, aI x1, aR r2, aR r3] M b = (wp C 254 n 999 ls [aI (x1 + x0), aR r2, aR r3] M b) := (wp_s rfl rfl).trans rfl
set_option maxRecDepth 30000 in
theorem w254_999 {x0 : Int32} {a1 : Nat} {r2 : Option Nat} {ls : List AV} : wp C 254 (n + 1) 999 ls [aI x0, aR (some a1), aR r2] M b = ((a1 = 60 ∧ inb x0 (cL C)) ∧ wp C 254 n 1000 ls [aI (cS C (iN x0)), aR r2] M b) := (wp_s rfl rfl).trans rfl
set_option maxRecDepth 30000 in
theorem w254_1000 {v0 : AV} {v1 : AV} {v2 : AV} {o3 : Option Nat} {x0 : Int32} {r1 : Option Nat} {ls : List AV} : wp C 254 (n + 1) 1000 (v0 :: v1 :: v2 :: aR o3 :: ls) [aI x0, aR r1] M b = (wp C 254 n 1001 (v0 :: v1 :: v2 :: aR o3 :: ls) [aR o3, aI x0, aR r1] M b) := (wp_s rfl rfl).trans rfl
set_option maxRecDepth 30000 in
theorem w254_1001 {r0 : Option Nat} {x1 : Int32} {r2 : Option Nat} {ls : List AV} : wp C 254 (n + 1) 1001 ls [aR r0, aI x1, aR r2] M b = (CALL C 243 [aR r2, aI x1, aR r0] M b (kR (wp C 254 n 1004 ls) []) (cX C)) := (wp_s (x := (.invokestatic 142, 3, 243, 3)) rfl rfl).trans (cs_row (by decide) (Nat.le_of_ble_eq_true rfl) (Nat.le_of_ble_eq_true rfl))
set_option maxRecDepth 30000 in
theorem w254_1004 {v0 : AV} {v1 : AV} {v2 : AV} {v3 : AV} {p4 : Int32} {v5 : AV} {x0 : Int32} {ls : List AV} : wp C 254 (n + 1) 1004 (v0 :: v1 :: v2 :: v3 :: aI p4 :: v5 :: ls) [aI x0] M b = (wp C 254 n 1006 (v0 :: v1 :: v2 :: v3 :: aI p4 :: aI x0 :: ls) [] M b) := (wp_s rfl rfl).trans rfl
set_option maxRecDepth 30000 in
theorem w254_1006 {v0 : AV} {v1 : AV} {o2 : Option Nat} {ls : List AV} : wp C 254 (n + 1) 1006 (v0 :: v1 :: aR o2 :: ls) [] M b = (wp C 254 n 1007 (v0 :: v1 :: aR o2 :: ls) [aR o2] M b) := (wp_s rfl rfl).trans rfl
set_option maxRecDepth 30000 in
theorem w254_1007 {o0 : Option Nat} {r0 : Option Nat} {ls : List AV} : wp C 254 (n + 1) 1007 (aR o0 :: ls) [aR r0] M b = (wp C 254 n 1008 (aR o0 :: ls) [aR o0, aR r0] M b) := (wp_s rfl rfl).trans rfl
set_option maxRecDepth 30000 in
theorem w254_1008 {v0 : AV} {v1 : AV} {v2 : AV} {v3 : AV} {p4 : Int32} {r0 : Option Nat} {r1 : Option Nat} {ls : List AV} : wp C 254 (n + 1) 1008 (v0 :: v1 :: v2 :: v3 :: aI p4 :: ls) [aR r0, aR r1] M b = (wp C 254 n 1010 (v0 :: v1 :: v2 :: v3 :: aI p4 :: ls) [aI p4, aR r0, aR r1] M b) := (wp_s rfl rfl).trans rfl
set_option maxRecDepth 30000 in
theorem w254_1010 {x0 : Int32} {r1 : Option Nat} {r2 : Option Nat} {ls : List AV} : wp C 254 (n + 1) 1010 ls [aI x0, aR r1, aR r2] M b = (wp C 254 n 1011 ls [aI (iZ 1), aI x0, aR r1, aR r2] M b) := (wp_s rfl rfl).trans rfl
set_option maxRecDepth 30000 in
theorem w254_1011 {x0 : Int32} {x1 : Int32} {r2 : Option Nat} {r3 : Option Nat} {ls : List AV} : wp C 254 (n + 1) 1011 ls [aI x0, aI x1, aR r2, aR r3] M b = (wp C 254 n 1012 ls [aI (x1 + x0), aR r2, aR r3] M b) := (wp_s rfl rfl).trans rfl
set_option maxRecDepth 30000 in
theorem w254_1012 {x0 : Int32} {a1 : Nat} {r2 : Option Nat} {ls : List AV} : wp C 254 (n + 1) 1012 ls [aI x0, aR (some a1), aR r2] M b = ((a1 = 60 ∧ inb x0 (cL C)) ∧ wp C 254 n 1013 ls [aI (cS C (iN x0)), aR r2] M b) := (wp_s rfl rfl).trans rfl
set_option maxRecDepth 30000 in
theorem w254_1013 {x0 : Int32} {a1 : Nat} {ls : List AV} : wp C 254 (n + 1) 1013 ls [aI x0, aR (some a1)] M b = (oB M a1 12 ∧ CALL C 77 [aR (some a1), aI x0] M b (kR (wp C 254 n 1016 ls) []) (cX C)) := (wp_s (x := (.invokevirtual 144, 3, 77, 1)) rfl rfl).trans (cv_row (by decide) (Nat.le_of_ble_eq_true rfl) (Nat.le_of_ble_eq_true rfl) rfl)
set_option maxRecDepth 30000 in
theorem w254_1016 {v0 : AV} {v1 : AV} {v2 : AV} {v3 : AV} {v4 : AV} {p5 : Int32} {v6 : AV} {x0 : Int32} {ls : List AV} : wp C 254 (n + 1) 1016 (v0 :: v1 :: v2 :: v3 :: v4 :: aI p5 :: v6 :: ls) [aI x0] M b = (wp C 254 n 1018 (v0 :: v1 :: v2 :: v3 :: v4 :: aI p5 :: aI x0 :: ls) [] M b) := (wp_s rfl rfl).trans rfl
set_option maxRecDepth 30000 in
theorem w254_1018 {v0 : AV} {v1 : AV} {o2 : Option Nat} {ls : List AV} : wp C 254 (n + 1) 1018 (v0 :: v1 :: aR o2 :: ls) [] M b = (wp C 254 n 1019 (v0 :: v1 :: aR o2 :: ls) [aR o2] M b) := (wp_s rfl rfl).trans rfl
set_option maxRecDepth 30000 in
theorem w254_1019 {a0 : Nat} {ls : List AV} : wp C 254 (n + 1) 1019 ls [aR (some a0)] M b = (oB M a0 12 ∧ CALL C 19 [aR (some a0)] M b (kR (wp C 254 n 1022 ls) []) (cX C)) := (wp_s (x := (.invokevirtual 96, 3, 19, 0)) rfl rfl).trans (cv_row (by decide) (Nat.le_of_ble_eq_true rfl) (Nat.le_of_ble_eq_true rfl) rfl)
set_option maxRecDepth 30000 in
theorem w254_1022 {v0 : AV} {v1 : AV} {v2 : AV} {v3 : AV} {v4 : AV} {p5 : Int32} {x0 : Int32} {ls : List AV} : wp C 254 (n + 1) 1022 (v0 :: v1 :: v2 :: v3 :: v4 :: aI p5 :: ls) [aI x0] M b = (wp C 254 n 1024 (v0 :: v1 :: v2 :: v3 :: v4 :: aI p5 :: ls) [aI p5, aI x0] M b) := (wp_s rfl rfl).trans rfl
set_option maxRecDepth 30000 in
theorem w254_1024 {x0 : Int32} {x1 : Int32} {ls : List AV} : wp C 254 (n + 1) 1024 ls [aI x0, aI x1] M b = ((x1.toInt = x0.toInt → wp C 254 n 1029 ls [] M b) ∧ (¬ x1.toInt = x0.toInt → wp C 254 n 1027 ls [] M b)) := (wp_s (x := (.if_icmp .eq 5, 3, 1029, 0)) rfl rfl).trans ceq
set_option maxRecDepth 30000 in
theorem w254_1027 {ls : List AV} : wp C 254 (n + 1) 1027 ls [] M b = (wp C 254 n 1028 ls [aI (iZ 0)] M b) := (wp_s rfl rfl).trans rfl
set_option maxRecDepth 30000 in
theorem w254_1028 {x0 : Int32} {ls : List AV} : wp C 254 (n + 1) 1028 ls [aI x0] M b = (isB x0 ∧ cQ C (some (aI x0)) M) := (wp_s (x := (.ireturn, 1, 0, 0)) rfl rfl).trans (rt_Z rfl)
set_option maxRecDepth 30000 in
theorem w254_1029 {v0 : AV} {v1 : AV} {v2 : AV} {v3 : AV} {v4 : AV} {p5 : Int32} {ls : List AV} : wp C 254 (n + 1) 1029 (v0 :: v1 :: v2 :: v3 :: v4 :: aI p5 :: ls) [] M b = (wp C 254 n 1031 (v0 :: v1 :: v2 :: v3 :: v4 :: aI p5 :: ls) [aI p5] M b) := (wp_s rfl rfl).trans rfl
set_option maxRecDepth 30000 in
theorem w254_1031 {x0 : Int32} {ls : List AV} : wp C 254 (n + 1) 1031 ls [aI x0] M b = ((x0.toInt = 0 → wp C 254 n 1034 ls [] M b) ∧ (¬ x0.toInt = 0 → wp C 254 n 1046 ls [] M b)) := (wp_s (x := (.ifCond .ne 15, 3, 1046, 0)) rfl rfl).trans zne
set_option maxRecDepth 30000 in
theorem w254_1034 {v0 : AV} {v1 : AV} {v2 : AV} {o3 : Option Nat} {ls : List AV} : wp C 254 (n + 1) 1034 (v0 :: v1 :: v2 :: aR o3 :: ls) [] M b = (wp C 254 n 1035 (v0 :: v1 :: v2 :: aR o3 :: ls) [aR o3] M b) := (wp_s rfl rfl).trans rfl
set_option maxRecDepth 30000 in
theorem w254_1035 {r0 : Option Nat} {ls : List AV} : wp C 254 (n + 1) 1035 ls [aR r0] M b = (wp C 254 n 1036 ls [aI (iZ 0), aR r0] M b) := (wp_s rfl rfl).trans rfl
set_option maxRecDepth 30000 in
theorem w254_1036 {x0 : Int32} {a1 : Nat} {ls : List AV} : wp C 254 (n + 1) 1036 ls [aI x0, aR (some a1)] M b = (iA M a1 21 x0 ∧ wp C 254 n 1037 ls [aL (mJ M a1 (iN x0))] M b) := (wp_s rfl rfl).trans rfl
set_option maxRecDepth 30000 in
theorem w254_1037 {v0 : AV} {v1 : AV} {v2 : AV} {v3 : AV} {v4 : AV} {v5 : AV} {p6 : Int32} {y0 : Int64} {ls : List AV} : wp C 254 (n + 1) 1037 (v0 :: v1 :: v2 :: v3 :: v4 :: v5 :: aI p6 :: ls) [aL y0] M b = (wp C 254 n 1039 (v0 :: v1 :: v2 :: v3 :: v4 :: v5 :: aI p6 :: ls) [aI p6, aL y0] M b) := (wp_s rfl rfl).trans rfl
set_option maxRecDepth 30000 in
theorem w254_1039 {x0 : Int32} {y1 : Int64} {ls : List AV} : wp C 254 (n + 1) 1039 ls [aI x0, aL y1] M b = (wp C 254 n 1040 ls [aL x0.toInt64, aL y1] M b) := (wp_s rfl rfl).trans rfl
set_option maxRecDepth 30000 in
theorem w254_1040 {y0 : Int64} {y1 : Int64} {ls : List AV} : wp C 254 (n + 1) 1040 ls [aL y0, aL y1] M b = (wp C 254 n 1041 ls [aI (lg_cmp y1 y0)] M b) := (wp_s rfl rfl).trans rfl
set_option maxRecDepth 30000 in
theorem w254_1041 {x0 : Int32} {ls : List AV} : wp C 254 (n + 1) 1041 ls [aI x0] M b = ((x0.toInt = 0 → wp C 254 n 1046 ls [] M b) ∧ (¬ x0.toInt = 0 → wp C 254 n 1044 ls [] M b)) := (wp_s (x := (.ifCond .eq 5, 3, 1046, 0)) rfl rfl).trans zeq
set_option maxRecDepth 30000 in
theorem w254_1044 {ls : List AV} : wp C 254 (n + 1) 1044 ls [] M b = (wp C 254 n 1045 ls [aI (iZ 0)] M b) := (wp_s rfl rfl).trans rfl
set_option maxRecDepth 30000 in
theorem w254_1045 {x0 : Int32} {ls : List AV} : wp C 254 (n + 1) 1045 ls [aI x0] M b = (isB x0 ∧ cQ C (some (aI x0)) M) := (wp_s (x := (.ireturn, 1, 0, 0)) rfl rfl).trans (rt_Z rfl)
set_option maxRecDepth 30000 in
theorem w254_1046 {ls : List AV} : wp C 254 (n + 1) 1046 ls [] M b = (wp C 254 n 1838 ls [] M b) := (wp_s rfl rfl).trans rfl
set_option maxRecDepth 30000 in
theorem w254_1049 {v0 : AV} {o1 : Option Nat} {ls : List AV} : wp C 254 (n + 1) 1049 (v0 :: aR o1 :: ls) [] M b = (wp C 254 n 1050 (v0 :: aR o1 :: ls) [aR o1] M b) := (wp_s rfl rfl).trans rfl
set_option maxRecDepth 30000 in
theorem w254_1050 {o0 : Option Nat} {r0 : Option Nat} {ls : List AV} : wp C 254 (n + 1) 1050 (aR o0 :: ls) [aR r0] M b = (wp C 254 n 1051 (aR o0 :: ls) [aR o0, aR r0] M b) := (wp_s rfl rfl).trans rfl
set_option maxRecDepth 30000 in
theorem w254_1051 {v0 : AV} {v1 : AV} {v2 : AV} {v3 : AV} {p4 : Int32} {r0 : Option Nat} {r1 : Option Nat} {ls : List AV} : wp C 254 (n + 1) 1051 (v0 :: v1 :: v2 :: v3 :: aI p4 :: ls) [aR r0, aR r1] M b = (wp C 254 n 1053 (v0 :: v1 :: v2 :: v3 :: aI p4 :: ls) [aI p4, aR r0, aR r1] M b) := (wp_s rfl rfl).trans rfl
set_option maxRecDepth 30000 in
theorem w254_1053 {x0 : Int32} {r1 : Option Nat} {r2 : Option Nat} {ls : List AV} : wp C 254 (n + 1) 1053 ls [aI x0, aR r1, aR r2] M b = (wp C 254 n 1054 ls [aI (iZ 1), aI x0, aR r1, aR r2] M b) := (wp_s rfl rfl).trans rfl
set_option maxRecDepth 30000 in
theorem w254_1054 {x0 : Int32} {x1 : Int32} {r2 : Option Nat} {r3 : Option Nat} {ls : List AV} : wp C 254 (n + 1) 1054 ls [aI x0, aI x1, aR r2, aR r3] M b = (wp C 254 n 1055 ls [aI (x1 + x0), aR r2, aR r3] M b) := (wp_s rfl rfl).trans rfl
set_option maxRecDepth 30000 in
theorem w254_1055 {x0 : Int32} {a1 : Nat} {r2 : Option Nat} {ls : List AV} : wp C 254 (n + 1) 1055 ls [aI x0, aR (some a1), aR r2] M b = ((a1 = 60 ∧ inb x0 (cL C)) ∧ wp C 254 n 1056 ls [aI (cS C (iN x0)), aR r2] M b) := (wp_s rfl rfl).trans rfl
set_option maxRecDepth 30000 in
theorem w254_1056 {o0 : Option Nat} {x0 : Int32} {r1 : Option Nat} {ls : List AV} : wp C 254 (n + 1) 1056 (aR o0 :: ls) [aI x0, aR r1] M b = (wp C 254 n 1057 (aR o0 :: ls) [aR o0, aI x0, aR r1] M b) := (wp_s rfl rfl).trans rfl
set_option maxRecDepth 30000 in
theorem w254_1057 {v0 : AV} {v1 : AV} {v2 : AV} {v3 : AV} {p4 : Int32} {r0 : Option Nat} {x1 : Int32} {r2 : Option Nat} {ls : List AV} : wp C 254 (n + 1) 1057 (v0 :: v1 :: v2 :: v3 :: aI p4 :: ls) [aR r0, aI x1, aR r2] M b = (wp C 254 n 1059 (v0 :: v1 :: v2 :: v3 :: aI p4 :: ls) [aI p4, aR r0, aI x1, aR r2] M b) := (wp_s rfl rfl).trans rfl
set_option maxRecDepth 30000 in
theorem w254_1059 {x0 : Int32} {r1 : Option Nat} {x2 : Int32} {r3 : Option Nat} {ls : List AV} : wp C 254 (n + 1) 1059 ls [aI x0, aR r1, aI x2, aR r3] M b = (wp C 254 n 1060 ls [aI (iZ 2), aI x0, aR r1, aI x2, aR r3] M b) := (wp_s rfl rfl).trans rfl
set_option maxRecDepth 30000 in
theorem w254_1060 {x0 : Int32} {x1 : Int32} {r2 : Option Nat} {x3 : Int32} {r4 : Option Nat} {ls : List AV} : wp C 254 (n + 1) 1060 ls [aI x0, aI x1, aR r2, aI x3, aR r4] M b = (wp C 254 n 1061 ls [aI (x1 + x0), aR r2, aI x3, aR r4] M b) := (wp_s rfl rfl).trans rfl
set_option maxRecDepth 30000 in
theorem w254_1061 {x0 : Int32} {a1 : Nat} {x2 : Int32} {r3 : Option Nat} {ls : List AV} : wp C 254 (n + 1) 1061 ls [aI x0, aR (some a1), aI x2, aR r3] M b = ((a1 = 60 ∧ inb x0 (cL C)) ∧ wp C 254 n 1062 ls [aI (cS C (iN x0)), aI x2, aR r3] M b) := (wp_s rfl rfl).trans rfl
set_option maxRecDepth 30000 in
theorem w254_1062 {o0 : Option Nat} {x0 : Int32} {x1 : Int32} {r2 : Option Nat} {ls : List AV} : wp C 254 (n + 1) 1062 (aR o0 :: ls) [aI x0, aI x1, aR r2] M b = (wp C 254 n 1063 (aR o0 :: ls) [aR o0, aI x0, aI x1, aR r2] M b) := (wp_s rfl rfl).trans rfl
set_option maxRecDepth 30000 in
theorem w254_1063 {v0 : AV} {v1 : AV} {v2 : AV} {v3 : AV} {p4 : Int32} {r0 : Option Nat} {x1 : Int32} {x2 : Int32} {r3 : Option Nat} {ls : List AV} : wp C 254 (n + 1) 1063 (v0 :: v1 :: v2 :: v3 :: aI p4 :: ls) [aR r0, aI x1, aI x2, aR r3] M b = (wp C 254 n 1065 (v0 :: v1 :: v2 :: v3 :: aI p4 :: ls) [aI p4, aR r0, aI x1, aI x2, aR r3] M b) := (wp_s rfl rfl).trans rfl
set_option maxRecDepth 30000 in
theorem w254_1065 {x0 : Int32} {r1 : Option Nat} {x2 : Int32} {x3 : Int32} {r4 : Option Nat} {ls : List AV} : wp C 254 (n + 1) 1065 ls [aI x0, aR r1, aI x2, aI x3, aR r4] M b = (wp C 254 n 1066 ls [aI (iZ 3), aI x0, aR r1, aI x2, aI x3, aR r4] M b) := (wp_s rfl rfl).trans rfl
set_option maxRecDepth 30000 in
theorem w254_1066 {x0 : Int32} {x1 : Int32} {r2 : Option Nat} {x3 : Int32} {x4 : Int32} {r5 : Option Nat} {ls : List AV} : wp C 254 (n + 1) 1066 ls [aI x0, aI x1, aR r2, aI x3, aI x4, aR r5] M b = (wp C 254 n 1067 ls [aI (x1 + x0), aR r2, aI x3, aI x4, aR r5] M b) := (wp_s rfl rfl).trans rfl
set_option maxRecDepth 30000 in
theorem w254_1067 {x0 : Int32} {a1 : Nat} {x2 : Int32} {x3 : Int32} {r4 : Option Nat} {ls : List AV} : wp C 254 (n + 1) 1067 ls [aI x0, aR (some a1), aI x2, aI x3, aR r4] M b = ((a1 = 60 ∧ inb x0 (cL C)) ∧ wp C 254 n 1068 ls [aI (cS C (iN x0)), aI x2, aI x3, aR r4] M b) := (wp_s rfl rfl).trans rfl
set_option maxRecDepth 30000 in
theorem w254_1068 {v0 : AV} {v1 : AV} {v2 : AV} {o3 : Option Nat} {x0 : Int32} {x1 : Int32} {x2 : Int32} {r3 : Option Nat} {ls : List AV} : wp C 254 (n + 1) 1068 (v0 :: v1 :: v2 :: aR o3 :: ls) [aI x0, aI x1, aI x2, aR r3] M b = (wp C 254 n 1069 (v0 :: v1 :: v2 :: aR o3 :: ls) [aR o3, aI x0, aI x1, aI x2, aR r3] M b) := (wp_s rfl rfl).trans rfl
set_option maxRecDepth 30000 in
theorem w254_1069 {r0 : Option Nat} {x1 : Int32} {x2 : Int32} {x3 : Int32} {r4 : Option Nat} {ls : List AV} : wp C 254 (n + 1) 1069 ls [aR r0, aI x1, aI x2, aI x3, aR r4] M b = (CALL C 244 [aR r4, aI x3, aI x2, aI x1, aR r0] M b (kR (wp C 254 n 1072 ls) []) (cX C)) := (wp_s (x := (.invokestatic 145, 3, 244, 5)) rfl rfl).trans (cs_row (by decide) (Nat.le_of_ble_eq_true rfl) (Nat.le_of_ble_eq_true rfl))
set_option maxRecDepth 30000 in
theorem w254_1072 {v0 : AV} {v1 : AV} {v2 : AV} {v3 : AV} {p4 : Int32} {v5 : AV} {x0 : Int32} {ls : List AV} : wp C 254 (n + 1) 1072 (v0 :: v1 :: v2 :: v3 :: aI p4 :: v5 :: ls) [aI x0] M b = (wp C 254 n 1074 (v0 :: v1 :: v2 :: v3 :: aI p4 :: aI x0 :: ls) [] M b) := (wp_s rfl rfl).trans rfl
set_option maxRecDepth 30000 in
theorem w254_1074 {v0 : AV} {v1 : AV} {o2 : Option Nat} {ls : List AV} : wp C 254 (n + 1) 1074 (v0 :: v1 :: aR o2 :: ls) [] M b = (wp C 254 n 1075 (v0 :: v1 :: aR o2 :: ls) [aR o2] M b) := (wp_s rfl rfl).trans rfl
set_option maxRecDepth 30000 in
theorem w254_1075 {o0 : Option Nat} {r0 : Option Nat} {ls : List AV} : wp C 254 (n + 1) 1075 (aR o0 :: ls) [aR r0] M b = (wp C 254 n 1076 (aR o0 :: ls) [aR o0, aR r0] M b) := (wp_s rfl rfl).trans rfl
set_option maxRecDepth 30000 in
theorem w254_1076 {v0 : AV} {v1 : AV} {v2 : AV} {v3 : AV} {p4 : Int32} {r0 : Option Nat} {r1 : Option Nat} {ls : List AV} : wp C 254 (n + 1) 1076 (v0 :: v1 :: v2 :: v3 :: aI p4 :: ls) [aR r0, aR r1] M b = (wp C 254 n 1078 (v0 :: v1 :: v2 :: v3 :: aI p4 :: ls) [aI p4, aR r0, aR r1] M b) := (wp_s rfl rfl).trans rfl
set_option maxRecDepth 30000 in
theorem w254_1078 {x0 : Int32} {r1 : Option Nat} {r2 : Option Nat} {ls : List AV} : wp C 254 (n + 1) 1078 ls [aI x0, aR r1, aR r2] M b = (wp C 254 n 1079 ls [aI (iZ 1), aI x0, aR r1, aR r2] M b) := (wp_s rfl rfl).trans rfl
set_option maxRecDepth 30000 in
theorem w254_1079 {x0 : Int32} {x1 : Int32} {r2 : Option Nat} {r3 : Option Nat} {ls : List AV} : wp C 254 (n + 1) 1079 ls [aI x0, aI x1, aR r2, aR r3] M b = (wp C 254 n 1080 ls [aI (x1 + x0), aR r2, aR r3] M b) := (wp_s rfl rfl).trans rfl
set_option maxRecDepth 30000 in
theorem w254_1080 {x0 : Int32} {a1 : Nat} {r2 : Option Nat} {ls : List AV} : wp C 254 (n + 1) 1080 ls [aI x0, aR (some a1), aR r2] M b = ((a1 = 60 ∧ inb x0 (cL C)) ∧ wp C 254 n 1081 ls [aI (cS C (iN x0)), aR r2] M b) := (wp_s rfl rfl).trans rfl
set_option maxRecDepth 30000 in
theorem w254_1081 {o0 : Option Nat} {x0 : Int32} {r1 : Option Nat} {ls : List AV} : wp C 254 (n + 1) 1081 (aR o0 :: ls) [aI x0, aR r1] M b = (wp C 254 n 1082 (aR o0 :: ls) [aR o0, aI x0, aR r1] M b) := (wp_s rfl rfl).trans rfl
set_option maxRecDepth 30000 in
theorem w254_1082 {v0 : AV} {v1 : AV} {v2 : AV} {v3 : AV} {p4 : Int32} {r0 : Option Nat} {x1 : Int32} {r2 : Option Nat} {ls : List AV} : wp C 254 (n + 1) 1082 (v0 :: v1 :: v2 :: v3 :: aI p4 :: ls) [aR r0, aI x1, aR r2] M b = (wp C 254 n 1084 (v0 :: v1 :: v2 :: v3 :: aI p4 :: ls) [aI p4, aR r0, aI x1, aR r2] M b) := (wp_s rfl rfl).trans rfl
set_option maxRecDepth 30000 in
theorem w254_1084 {x0 : Int32} {r1 : Option Nat} {x2 : Int32} {r3 : Option Nat} {ls : List AV} : wp C 254 (n + 1) 1084 ls [aI x0, aR r1, aI x2, aR r3] M b = (wp C 254 n 1085 ls [aI (iZ 2), aI x0, aR r1, aI x2, aR r3] M b) := (wp_s rfl rfl).trans rfl
set_option maxRecDepth 30000 in
theorem w254_1085 {x0 : Int32} {x1 : Int32} {r2 : Option Nat} {x3 : Int32} {r4 : Option Nat} {ls : List AV} : wp C 254 (n + 1) 1085 ls [aI x0, aI x1, aR r2, aI x3, aR r4] M b = (wp C 254 n 1086 ls [aI (x1 + x0), aR r2, aI x3, aR r4] M b) := (wp_s rfl rfl).trans rfl
set_option maxRecDepth 30000 in
theorem w254_1086 {x0 : Int32} {a1 : Nat} {x2 : Int32} {r3 : Option Nat} {ls : List AV} : wp C 254 (n + 1) 1086 ls [aI x0, aR (some a1), aI x2, aR r3] M b = ((a1 = 60 ∧ inb x0 (cL C)) ∧ wp C 254 n 1087 ls [aI (cS C (iN x0)), aI x2, aR r3] M b) := (wp_s rfl rfl).trans rfl
set_option maxRecDepth 30000 in
theorem w254_1087 {o0 : Option Nat} {x0 : Int32} {x1 : Int32} {r2 : Option Nat} {ls : List AV} : wp C 254 (n + 1) 1087 (aR o0 :: ls) [aI x0, aI x1, aR r2] M b = (wp C 254 n 1088 (aR o0 :: ls) [aR o0, aI x0, aI x1, aR r2] M b) := (wp_s rfl rfl).trans rfl
set_option maxRecDepth 30000 in
theorem w254_1088 {v0 : AV} {v1 : AV} {v2 : AV} {v3 : AV} {p4 : Int32} {r0 : Option Nat} {x1 : Int32} {x2 : Int32} {r3 : Option Nat} {ls : List AV} : wp C 254 (n + 1) 1088 (v0 :: v1 :: v2 :: v3 :: aI p4 :: ls) [aR r0, aI x1, aI x2, aR r3] M b = (wp C 254 n 1090 (v0 :: v1 :: v2 :: v3 :: aI p4 :: ls) [aI p4, aR r0, aI x1, aI x2, aR r3] M b) := (wp_s rfl rfl).trans rfl
set_option maxRecDepth 30000 in
theorem w254_1090 {x0 : Int32} {r1 : Option Nat} {x2 : Int32} {x3 : Int32} {r4 : Option Nat} {ls : List AV} : wp C 254 (n + 1) 1090 ls [aI x0, aR r1, aI x2, aI x3, aR r4] M b = (wp C 254 n 1091 ls [aI (iZ 3), aI x0, aR r1, aI x2, aI x3, aR r4] M b) := (wp_s rfl rfl).trans rfl
set_option maxRecDepth 30000 in
theorem w254_1091 {x0 : Int32} {x1 : Int32} {r2 : Option Nat} {x3 : Int32} {x4 : Int32} {r5 : Option Nat} {ls : List AV} : wp C 254 (n + 1) 1091 ls [aI x0, aI x1, aR r2, aI x3, aI x4, aR r5] M b = (wp C 254 n 1092 ls [aI (x1 + x0), aR r2, aI x3, aI x4, aR r5] M b) := (wp_s rfl rfl).trans rfl
set_option maxRecDepth 30000 in
theorem w254_1092 {x0 : Int32} {a1 : Nat} {x2 : Int32} {x3 : Int32} {r4 : Option Nat} {ls : List AV} : wp C 254 (n + 1) 1092 ls [aI x0, aR (some a1), aI x2, aI x3, aR r4] M b = ((a1 = 60 ∧ inb x0 (cL C)) ∧ wp C 254 n 1093 ls [aI (cS C (iN x0)), aI x2, aI x3, aR r4] M b) := (wp_s rfl rfl).trans rfl
set_option maxRecDepth 30000 in
theorem w254_1093 {x0 : Int32} {x1 : Int32} {x2 : Int32} {a3 : Nat} {ls : List AV} : wp C 254 (n + 1) 1093 ls [aI x0, aI x1, aI x2, aR (some a3)] M b = (oB M a3 12 ∧ CALL C 78 [aR (some a3), aI x2, aI x1, aI x0] M b (kR (wp C 254 n 1096 ls) []) (cX C)) := (wp_s (x := (.invokevirtual 147, 3, 78, 3)) rfl rfl).trans (cv_row (by decide) (Nat.le_of_ble_eq_true rfl) (Nat.le_of_ble_eq_true rfl) rfl)
set_option maxRecDepth 30000 in
theorem w254_1096 {v0 : AV} {v1 : AV} {v2 : AV} {v3 : AV} {v4 : AV} {p5 : Int32} {v6 : AV} {x0 : Int32} {ls : List AV} : wp C 254 (n + 1) 1096 (v0 :: v1 :: v2 :: v3 :: v4 :: aI p5 :: v6 :: ls) [aI x0] M b = (wp C 254 n 1098 (v0 :: v1 :: v2 :: v3 :: v4 :: aI p5 :: aI x0 :: ls) [] M b) := (wp_s rfl rfl).trans rfl
set_option maxRecDepth 30000 in
theorem w254_1098 {v0 : AV} {v1 : AV} {o2 : Option Nat} {ls : List AV} : wp C 254 (n + 1) 1098 (v0 :: v1 :: aR o2 :: ls) [] M b = (wp C 254 n 1099 (v0 :: v1 :: aR o2 :: ls) [aR o2] M b) := (wp_s rfl rfl).trans rfl
set_option maxRecDepth 30000 in
theorem w254_1099 {a0 : Nat} {ls : List AV} : wp C 254 (n + 1) 1099 ls [aR (some a0)] M b = (oB M a0 12 ∧ CALL C 19 [aR (some a0)] M b (kR (wp C 254 n 1102 ls) []) (cX C)) := (wp_s (x := (.invokevirtual 96, 3, 19, 0)) rfl rfl).trans (cv_row (by decide) (Nat.le_of_ble_eq_true rfl) (Nat.le_of_ble_eq_true rfl) rfl)
set_option maxRecDepth 30000 in
theorem w254_1102 {v0 : AV} {v1 : AV} {v2 : AV} {v3 : AV} {v4 : AV} {p5 : Int32} {x0 : Int32} {ls : List AV} : wp C 254 (n + 1) 1102 (v0 :: v1 :: v2 :: v3 :: v4 :: aI p5 :: ls) [aI x0] M b = (wp C 254 n 1104 (v0 :: v1 :: v2 :: v3 :: v4 :: aI p5 :: ls) [aI p5, aI x0] M b) := (wp_s rfl rfl).trans rfl
set_option maxRecDepth 30000 in
theorem w254_1104 {x0 : Int32} {x1 : Int32} {ls : List AV} : wp C 254 (n + 1) 1104 ls [aI x0, aI x1] M b = ((x1.toInt = x0.toInt → wp C 254 n 1109 ls [] M b) ∧ (¬ x1.toInt = x0.toInt → wp C 254 n 1107 ls [] M b)) := (wp_s (x := (.if_icmp .eq 5, 3, 1109, 0)) rfl rfl).trans ceq
set_option maxRecDepth 30000 in
theorem w254_1107 {ls : List AV} : wp C 254 (n + 1) 1107 ls [] M b = (wp C 254 n 1108 ls [aI (iZ 0)] M b) := (wp_s rfl rfl).trans rfl
set_option maxRecDepth 30000 in
theorem w254_1108 {x0 : Int32} {ls : List AV} : wp C 254 (n + 1) 1108 ls [aI x0] M b = (isB x0 ∧ cQ C (some (aI x0)) M) := (wp_s (x := (.ireturn, 1, 0, 0)) rfl rfl).trans (rt_Z rfl)
set_option maxRecDepth 30000 in
theorem w254_1109 {v0 : AV} {v1 : AV} {v2 : AV} {v3 : AV} {v4 : AV} {p5 : Int32} {ls : List AV} : wp C 254 (n + 1) 1109 (v0 :: v1 :: v2 :: v3 :: v4 :: aI p5 :: ls) [] M b = (wp C 254 n 1111 (v0 :: v1 :: v2 :: v3 :: v4 :: aI p5 :: ls) [aI p5] M b) := (wp_s rfl rfl).trans rfl
set_option maxRecDepth 30000 in
theorem w254_1111 {x0 : Int32} {ls : List AV} : wp C 254 (n + 1) 1111 ls [aI x0] M b = ((x0.toInt = 0 → wp C 254 n 1114 ls [] M b) ∧ (¬ x0.toInt = 0 → wp C 254 n 1133 ls [] M b)) := (wp_s (x := (.ifCond .ne 22, 3, 1133, 0)) rfl rfl).trans zne
set_option maxRecDepth 30000 in
theorem w254_1114 {v0 : AV} {v1 : AV} {v2 : AV} {o3 : Option Nat} {ls : List AV} : wp C 254 (n + 1) 1114 (v0 :: v1 :: v2 :: aR o3 :: ls) [] M b = (wp C 254 n 1115 (v0 :: v1 :: v2 :: aR o3 :: ls) [aR o3] M b) := (wp_s rfl rfl).trans rfl
set_option maxRecDepth 30000 in
theorem w254_1115 {r0 : Option Nat} {ls : List AV} : wp C 254 (n + 1) 1115 ls [aR r0] M b = (wp C 254 n 1116 ls [aI (iZ 0), aR r0] M b) := (wp_s rfl rfl).trans rfl
set_option maxRecDepth 30000 in
theorem w254_1116 {x0 : Int32} {a1 : Nat} {ls : List AV} : wp C 254 (n + 1) 1116 ls [aI x0, aR (some a1)] M b = (iA M a1 21 x0 ∧ wp C 254 n 1117 ls [aL (mJ M a1 (iN x0))] M b) := (wp_s rfl rfl).trans rfl
set_option maxRecDepth 30000 in
theorem w254_1117 {v0 : AV} {v1 : AV} {v2 : AV} {v3 : AV} {v4 : AV} {v5 : AV} {p6 : Int32} {y0 : Int64} {ls : List AV} : wp C 254 (n + 1) 1117 (v0 :: v1 :: v2 :: v3 :: v4 :: v5 :: aI p6 :: ls) [aL y0] M b = (wp C 254 n 1119 (v0 :: v1 :: v2 :: v3 :: v4 :: v5 :: aI p6 :: ls) [aI p6, aL y0] M b) := (wp_s rfl rfl).trans rfl
set_option maxRecDepth 30000 in
theorem w254_1119 {x0 : Int32} {y1 : Int64} {ls : List AV} : wp C 254 (n + 1) 1119 ls [aI x0, aL y1] M b = ((x0.toInt = 0 → wp C 254 n 1126 ls [aL y1] M b) ∧ (¬ x0.toInt = 0 → wp C 254 n 1122 ls [aL y1] M b)) := (wp_s (x := (.ifCond .eq 7, 3, 1126, 0)) rfl rfl).trans zeq
set_option maxRecDepth 30000 in
theorem w254_1122 {y0 : Int64} {ls : List AV} : wp C 254 (n + 1) 1122 ls [aL y0] M b = (wp C 254 n 1123 ls [aL (jZ 1), aL y0] M b) := (wp_s rfl rfl).trans rfl
set_option maxRecDepth 30000 in
theorem w254_1123 {y0 : Int64} {y1 : Int64} {ls : List AV} : wp C 254 (n + 1) 1123 ls [aL y0, aL y1] M b = (wp C 254 n 1127 ls [aL y0, aL y1] M b) := (wp_s rfl rfl).trans rfl
set_option maxRecDepth 30000 in
theorem w254_1126 {y0 : Int64} {ls : List AV} : wp C 254 (n + 1) 1126 ls [aL y0] M b = (wp C 254 n 1127 ls [aL (jZ 0), aL y0] M b) := (wp_s rfl rfl).trans rfl
set_option maxRecDepth 30000 in
theorem w254_1127 {y0 : Int64} {y1 : Int64} {ls : List AV} : wp C 254 (n + 1) 1127 ls [aL y0, aL y1] M b = (wp C 254 n 1128 ls [aI (lg_cmp y1 y0)] M b) := (wp_s rfl rfl).trans rfl
set_option maxRecDepth 30000 in
theorem w254_1128 {x0 : Int32} {ls : List AV} : wp C 254 (n + 1) 1128 ls [aI x0] M b = ((x0.toInt = 0 → wp C 254 n 1133 ls [] M b) ∧ (¬ x0.toInt = 0 → wp C 254 n 1131 ls [] M b)) := (wp_s (x := (.ifCond .eq 5, 3, 1133, 0)) rfl rfl).trans zeq
set_option maxRecDepth 30000 in
theorem w254_1131 {ls : List AV} : wp C 254 (n + 1) 1131 ls [] M b = (wp C 254 n 1132 ls [aI (iZ 0)] M b) := (wp_s rfl rfl).trans rfl
set_option maxRecDepth 30000 in
theorem w254_1132 {x0 : Int32} {ls : List AV} : wp C 254 (n + 1) 1132 ls [aI x0] M b = (isB x0 ∧ cQ C (some (aI x0)) M) := (wp_s (x := (.ireturn, 1, 0, 0)) rfl rfl).trans (rt_Z rfl)
set_option maxRecDepth 30000 in
theorem w254_1133 {ls : List AV} : wp C 254 (n + 1) 1133 ls [] M b = (wp C 254 n 1838 ls [] M b) := (wp_s rfl rfl).trans rfl
set_option maxRecDepth 30000 in
theorem w254_1136 {v0 : AV} {o1 : Option Nat} {ls : List AV} : wp C 254 (n + 1) 1136 (v0 :: aR o1 :: ls) [] M b = (wp C 254 n 1137 (v0 :: aR o1 :: ls) [aR o1] M b) := (wp_s rfl rfl).trans rfl
set_option maxRecDepth 30000 in
theorem w254_1137 {o0 : Option Nat} {r0 : Option Nat} {ls : List AV} : wp C 254 (n + 1) 1137 (aR o0 :: ls) [aR r0] M b = (wp C 254 n 1138 (aR o0 :: ls) [aR o0, aR r0] M b) := (wp_s rfl rfl).trans rfl
set_option maxRecDepth 30000 in
theorem w254_1138 {v0 : AV} {v1 : AV} {v2 : AV} {v3 : AV} {p4 : Int32} {r0 : Option Nat} {r1 : Option Nat} {ls : List AV} : wp C 254 (n + 1) 1138 (v0 :: v1 :: v2 :: v3 :: aI p4 :: ls) [aR r0, aR r1] M b = (wp C 254 n 1140 (v0 :: v1 :: v2 :: v3 :: aI p4 :: ls) [aI p4, aR r0, aR r1] M b) := (wp_s rfl rfl).trans rfl
set_option maxRecDepth 30000 in
theorem w254_1140 {x0 : Int32} {r1 : Option Nat} {r2 : Option Nat} {ls : List AV} : wp C 254 (n + 1) 1140 ls [aI x0, aR r1, aR r2] M b = (wp C 254 n 1141 ls [aI (iZ 1), aI x0, aR r1, aR r2] M b) := (wp_s rfl rfl).trans rfl
set_option maxRecDepth 30000 in
theorem w254_1141 {x0 : Int32} {x1 : Int32} {r2 : Option Nat} {r3 : Option Nat} {ls : List AV} : wp C 254 (n + 1) 1141 ls [aI x0, aI x1, aR r2, aR r3] M b = (wp C 254 n 1142 ls [aI (x1 + x0), aR r2, aR r3] M b) := (wp_s rfl rfl).trans rfl
set_option maxRecDepth 30000 in
theorem w254_1142 {x0 : Int32} {a1 : Nat} {r2 : Option Nat} {ls : List AV} : wp C 254 (n + 1) 1142 ls [aI x0, aR (some a1), aR r2] M b = ((a1 = 60 ∧ inb x0 (cL C)) ∧ wp C 254 n 1143 ls [aI (cS C (iN x0)), aR r2] M b) := (wp_s rfl rfl).trans rfl
set_option maxRecDepth 30000 in
theorem w254_1143 {o0 : Option Nat} {x0 : Int32} {r1 : Option Nat} {ls : List AV} : wp C 254 (n + 1) 1143 (aR o0 :: ls) [aI x0, aR r1] M b = (wp C 254 n 1144 (aR o0 :: ls) [aR o0, aI x0, aR r1] M b) := (wp_s rfl rfl).trans rfl
set_option maxRecDepth 30000 in
theorem w254_1144 {v0 : AV} {v1 : AV} {v2 : AV} {v3 : AV} {p4 : Int32} {r0 : Option Nat} {x1 : Int32} {r2 : Option Nat} {ls : List AV} : wp C 254 (n + 1) 1144 (v0 :: v1 :: v2 :: v3 :: aI p4 :: ls) [aR r0, aI x1, aR r2] M b = (wp C 254 n 1146 (v0 :: v1 :: v2 :: v3 :: aI p4 :: ls) [aI p4, aR r0, aI x1, aR r2] M b) := (wp_s rfl rfl).trans rfl
set_option maxRecDepth 30000 in
theorem w254_1146 {x0 : Int32} {r1 : Option Nat} {x2 : Int32} {r3 : Option Nat} {ls : List AV} : wp C 254 (n + 1) 1146 ls [aI x0, aR r1, aI x2, aR r3] M b = (wp C 254 n 1147 ls [aI (iZ 2), aI x0, aR r1, aI x2, aR r3] M b) := (wp_s rfl rfl).trans rfl
set_option maxRecDepth 30000 in
theorem w254_1147 {x0 : Int32} {x1 : Int32} {r2 : Option Nat} {x3 : Int32} {r4 : Option Nat} {ls : List AV} : wp C 254 (n + 1) 1147 ls [aI x0, aI x1, aR r2, aI x3, aR r4] M b = (wp C 254 n 1148 ls [aI (x1 + x0), aR r2, aI x3, aR r4] M b) := (wp_s rfl rfl).trans rfl
set_option maxRecDepth 30000 in
theorem w254_1148 {x0 : Int32} {a1 : Nat} {x2 : Int32} {r3 : Option Nat} {ls : List AV} : wp C 254 (n + 1) 1148 ls [aI x0, aR (some a1), aI x2, aR r3] M b = ((a1 = 60 ∧ inb x0 (cL C)) ∧ wp C 254 n 1149 ls [aI (cS C (iN x0)), aI x2, aR r3] M b) := (wp_s rfl rfl).trans rfl
set_option maxRecDepth 30000 in
theorem w254_1149 {o0 : Option Nat} {x0 : Int32} {x1 : Int32} {r2 : Option Nat} {ls : List AV} : wp C 254 (n + 1) 1149 (aR o0 :: ls) [aI x0, aI x1, aR r2] M b = (wp C 254 n 1150 (aR o0 :: ls) [aR o0, aI x0, aI x1, aR r2] M b) := (wp_s rfl rfl).trans rfl
set_option maxRecDepth 30000 in
theorem w254_1150 {v0 : AV} {v1 : AV} {v2 : AV} {v3 : AV} {p4 : Int32} {r0 : Option Nat} {x1 : Int32} {x2 : Int32} {r3 : Option Nat} {ls : List AV} : wp C 254 (n + 1) 1150 (v0 :: v1 :: v2 :: v3 :: aI p4 :: ls) [aR r0, aI x1, aI x2, aR r3] M b = (wp C 254 n 1152 (v0 :: v1 :: v2 :: v3 :: aI p4 :: ls) [aI p4, aR r0, aI x1, aI x2, aR r3] M b) := (wp_s rfl rfl).trans rfl
set_option maxRecDepth 30000 in
theorem w254_1152 {x0 : Int32} {r1 : Option Nat} {x2 : Int32} {x3 : Int32} {r4 : Option Nat} {ls : List AV} : wp C 254 (n + 1) 1152 ls [aI x0, aR r1, aI x2, aI x3, aR r4] M b = (wp C 254 n 1153 ls [aI (iZ 3), aI x0, aR r1, aI x2, aI x3, aR r4] M b) := (wp_s rfl rfl).trans rfl
set_option maxRecDepth 30000 in
theorem w254_1153 {x0 : Int32} {x1 : Int32} {r2 : Option Nat} {x3 : Int32} {x4 : Int32} {r5 : Option Nat} {ls : List AV} : wp C 254 (n + 1) 1153 ls [aI x0, aI x1, aR r2, aI x3, aI x4, aR r5] M b = (wp C 254 n 1154 ls [aI (x1 + x0), aR r2, aI x3, aI x4, aR r5] M b) := (wp_s rfl rfl).trans rfl
set_option maxRecDepth 30000 in
theorem w254_1154 {x0 : Int32} {a1 : Nat} {x2 : Int32} {x3 : Int32} {r4 : Option Nat} {ls : List AV} : wp C 254 (n + 1) 1154 ls [aI x0, aR (some a1), aI x2, aI x3, aR r4] M b = ((a1 = 60 ∧ inb x0 (cL C)) ∧ wp C 254 n 1155 ls [aI (cS C (iN x0)), aI x2, aI x3, aR r4] M b) := (wp_s rfl rfl).trans rfl
set_option maxRecDepth 30000 in
theorem w254_1155 {o0 : Option Nat} {x0 : Int32} {x1 : Int32} {x2 : Int32} {r3 : Option Nat} {ls : List AV} : wp C 254 (n + 1) 1155 (aR o0 :: ls) [aI x0, aI x1, aI x2, aR r3] M b = (wp C 254 n 1156 (aR o0 :: ls) [aR o0, aI x0, aI x1, aI x2, aR r3] M b) := (wp_s rfl rfl).trans rfl
set_option maxRecDepth 30000 in
theorem w254_1156 {v0 : AV} {v1 : AV} {v2 : AV} {v3 : AV} {p4 : Int32} {r0 : Option Nat} {x1 : Int32} {x2 : Int32} {x3 : Int32} {r4 : Option Nat} {ls : List AV} : wp C 254 (n + 1) 1156 (v0 :: v1 :: v2 :: v3 :: aI p4 :: ls) [aR r0, aI x1, aI x2, aI x3, aR r4] M b = (wp C 254 n 1158 (v0 :: v1 :: v2 :: v3 :: aI p4 :: ls) [aI p4, aR r0, aI x1, aI x2, aI x3, aR r4] M b) := (wp_s rfl rfl).trans rfl
set_option maxRecDepth 30000 in
theorem w254_1158 {x0 : Int32} {r1 : Option Nat} {x2 : Int32} {x3 : Int32} {x4 : Int32} {r5 : Option Nat} {ls : List AV} : wp C 254 (n + 1) 1158 ls [aI x0, aR r1, aI x2, aI x3, aI x4, aR r5] M b = (wp C 254 n 1159 ls [aI (iZ 4), aI x0, aR r1, aI x2, aI x3, aI x4, aR r5] M b) := (wp_s rfl rfl).trans rfl
set_option maxRecDepth 30000 in
theorem w254_1159 {x0 : Int32} {x1 : Int32} {r2 : Option Nat} {x3 : Int32} {x4 : Int32} {x5 : Int32} {r6 : Option Nat} {ls : List AV} : wp C 254 (n + 1) 1159 ls [aI x0, aI x1, aR r2, aI x3, aI x4, aI x5, aR r6] M b = (wp C 254 n 1160 ls [aI (x1 + x0), aR r2, aI x3, aI x4, aI x5, aR r6] M b) := (wp_s rfl rfl).trans rfl
set_option maxRecDepth 30000 in
theorem w254_1160 {x0 : Int32} {a1 : Nat} {x2 : Int32} {x3 : Int32} {x4 : Int32} {r5 : Option Nat} {ls : List AV} : wp C 254 (n + 1) 1160 ls [aI x0, aR (some a1), aI x2, aI x3, aI x4, aR r5] M b = ((a1 = 60 ∧ inb x0 (cL C)) ∧ wp C 254 n 1161 ls [aI (cS C (iN x0)), aI x2, aI x3, aI x4, aR r5] M b) := (wp_s rfl rfl).trans rfl
set_option maxRecDepth 30000 in
theorem w254_1161 {v0 : AV} {v1 : AV} {v2 : AV} {o3 : Option Nat} {x0 : Int32} {x1 : Int32} {x2 : Int32} {x3 : Int32} {r4 : Option Nat} {ls : List AV} : wp C 254 (n + 1) 1161 (v0 :: v1 :: v2 :: aR o3 :: ls) [aI x0, aI x1, aI x2, aI x3, aR r4] M b = (wp C 254 n 1162 (v0 :: v1 :: v2 :: aR o3 :: ls) [aR o3, aI x0, aI x1, aI x2, aI x3, aR r4] M b) := (wp_s rfl rfl).trans rfl
set_option maxRecDepth 30000 in
theorem w254_1162 {r0 : Option Nat} {x1 : Int32} {x2 : Int32} {x3 : Int32} {x4 : Int32} {r5 : Option Nat} {ls : List AV} : wp C 254 (n + 1) 1162 ls [aR r0, aI x1, aI x2, aI x3, aI x4, aR r5] M b = (CALL C 245 [aR r5, aI x4, aI x3, aI x2, aI x1, aR r0] M b (kR (wp C 254 n 1165 ls) []) (cX C)) := (wp_s (x := (.invokestatic 148, 3, 245, 6)) rfl rfl).trans (cs_row (by decide) (Nat.le_of_ble_eq_true rfl) (Nat.le_of_ble_eq_true rfl))
set_option maxRecDepth 30000 in
theorem w254_1165 {v0 : AV} {v1 : AV} {v2 : AV} {v3 : AV} {p4 : Int32} {v5 : AV} {x0 : Int32} {ls : List AV} : wp C 254 (n + 1) 1165 (v0 :: v1 :: v2 :: v3 :: aI p4 :: v5 :: ls) [aI x0] M b = (wp C 254 n 1167 (v0 :: v1 :: v2 :: v3 :: aI p4 :: aI x0 :: ls) [] M b) := (wp_s rfl rfl).trans rfl
set_option maxRecDepth 30000 in
theorem w254_1167 {v0 : AV} {v1 : AV} {o2 : Option Nat} {ls : List AV} : wp C 254 (n + 1) 1167 (v0 :: v1 :: aR o2 :: ls) [] M b = (wp C 254 n 1168 (v0 :: v1 :: aR o2 :: ls) [aR o2] M b) := (wp_s rfl rfl).trans rfl
set_option maxRecDepth 30000 in
theorem w254_1168 {o0 : Option Nat} {r0 : Option Nat} {ls : List AV} : wp C 254 (n + 1) 1168 (aR o0 :: ls) [aR r0] M b = (wp C 254 n 1169 (aR o0 :: ls) [aR o0, aR r0] M b) := (wp_s rfl rfl).trans rfl
set_option maxRecDepth 30000 in
theorem w254_1169 {v0 : AV} {v1 : AV} {v2 : AV} {v3 : AV} {p4 : Int32} {r0 : Option Nat} {r1 : Option Nat} {ls : List AV} : wp C 254 (n + 1) 1169 (v0 :: v1 :: v2 :: v3 :: aI p4 :: ls) [aR r0, aR r1] M b = (wp C 254 n 1171 (v0 :: v1 :: v2 :: v3 :: aI p4 :: ls) [aI p4, aR r0, aR r1] M b) := (wp_s rfl rfl).trans rfl
set_option maxRecDepth 30000 in
theorem w254_1171 {x0 : Int32} {r1 : Option Nat} {r2 : Option Nat} {ls : List AV} : wp C 254 (n + 1) 1171 ls [aI x0, aR r1, aR r2] M b = (wp C 254 n 1172 ls [aI (iZ 1), aI x0, aR r1, aR r2] M b) := (wp_s rfl rfl).trans rfl
set_option maxRecDepth 30000 in
theorem w254_1172 {x0 : Int32} {x1 : Int32} {r2 : Option Nat} {r3 : Option Nat} {ls : List AV} : wp C 254 (n + 1) 1172 ls [aI x0, aI x1, aR r2, aR r3] M b = (wp C 254 n 1173 ls [aI (x1 + x0), aR r2, aR r3] M b) := (wp_s rfl rfl).trans rfl
set_option maxRecDepth 30000 in
theorem w254_1173 {x0 : Int32} {a1 : Nat} {r2 : Option Nat} {ls : List AV} : wp C 254 (n + 1) 1173 ls [aI x0, aR (some a1), aR r2] M b = ((a1 = 60 ∧ inb x0 (cL C)) ∧ wp C 254 n 1174 ls [aI (cS C (iN x0)), aR r2] M b) := (wp_s rfl rfl).trans rfl
set_option maxRecDepth 30000 in
theorem w254_1174 {o0 : Option Nat} {x0 : Int32} {r1 : Option Nat} {ls : List AV} : wp C 254 (n + 1) 1174 (aR o0 :: ls) [aI x0, aR r1] M b = (wp C 254 n 1175 (aR o0 :: ls) [aR o0, aI x0, aR r1] M b) := (wp_s rfl rfl).trans rfl
set_option maxRecDepth 30000 in
theorem w254_1175 {v0 : AV} {v1 : AV} {v2 : AV} {v3 : AV} {p4 : Int32} {r0 : Option Nat} {x1 : Int32} {r2 : Option Nat} {ls : List AV} : wp C 254 (n + 1) 1175 (v0 :: v1 :: v2 :: v3 :: aI p4 :: ls) [aR r0, aI x1, aR r2] M b = (wp C 254 n 1177 (v0 :: v1 :: v2 :: v3 :: aI p4 :: ls) [aI p4, aR r0, aI x1, aR r2] M b) := (wp_s rfl rfl).trans rfl
set_option maxRecDepth 30000 in
theorem w254_1177 {x0 : Int32} {r1 : Option Nat} {x2 : Int32} {r3 : Option Nat} {ls : List AV} : wp C 254 (n + 1) 1177 ls [aI x0, aR r1, aI x2, aR r3] M b = (wp C 254 n 1178 ls [aI (iZ 2), aI x0, aR r1, aI x2, aR r3] M b) := (wp_s rfl rfl).trans rfl
set_option maxRecDepth 30000 in
theorem w254_1178 {x0 : Int32} {x1 : Int32} {r2 : Option Nat} {x3 : Int32} {r4 : Option Nat} {ls : List AV} : wp C 254 (n + 1) 1178 ls [aI x0, aI x1, aR r2, aI x3, aR r4] M b = (wp C 254 n 1179 ls [aI (x1 + x0), aR r2, aI x3, aR r4] M b) := (wp_s rfl rfl).trans rfl
set_option maxRecDepth 30000 in
theorem w254_1179 {x0 : Int32} {a1 : Nat} {x2 : Int32} {r3 : Option Nat} {ls : List AV} : wp C 254 (n + 1) 1179 ls [aI x0, aR (some a1), aI x2, aR r3] M b = ((a1 = 60 ∧ inb x0 (cL C)) ∧ wp C 254 n 1180 ls [aI (cS C (iN x0)), aI x2, aR r3] M b) := (wp_s rfl rfl).trans rfl
set_option maxRecDepth 30000 in
theorem w254_1180 {o0 : Option Nat} {x0 : Int32} {x1 : Int32} {r2 : Option Nat} {ls : List AV} : wp C 254 (n + 1) 1180 (aR o0 :: ls) [aI x0, aI x1, aR r2] M b = (wp C 254 n 1181 (aR o0 :: ls) [aR o0, aI x0, aI x1, aR r2] M b) := (wp_s rfl rfl).trans rfl
set_option maxRecDepth 30000 in
theorem w254_1181 {v0 : AV} {v1 : AV} {v2 : AV} {v3 : AV} {p4 : Int32} {r0 : Option Nat} {x1 : Int32} {x2 : Int32} {r3 : Option Nat} {ls : List AV} : wp C 254 (n + 1) 1181 (v0 :: v1 :: v2 :: v3 :: aI p4 :: ls) [aR r0, aI x1, aI x2, aR r3] M b = (wp C 254 n 1183 (v0 :: v1 :: v2 :: v3 :: aI p4 :: ls) [aI p4, aR r0, aI x1, aI x2, aR r3] M b) := (wp_s rfl rfl).trans rfl
set_option maxRecDepth 30000 in
theorem w254_1183 {x0 : Int32} {r1 : Option Nat} {x2 : Int32} {x3 : Int32} {r4 : Option Nat} {ls : List AV} : wp C 254 (n + 1) 1183 ls [aI x0, aR r1, aI x2, aI x3, aR r4] M b = (wp C 254 n 1184 ls [aI (iZ 3), aI x0, aR r1, aI x2, aI x3, aR r4] M b) := (wp_s rfl rfl).trans rfl
set_option maxRecDepth 30000 in
theorem w254_1184 {x0 : Int32} {x1 : Int32} {r2 : Option Nat} {x3 : Int32} {x4 : Int32} {r5 : Option Nat} {ls : List AV} : wp C 254 (n + 1) 1184 ls [aI x0, aI x1, aR r2, aI x3, aI x4, aR r5] M b = (wp C 254 n 1185 ls [aI (x1 + x0), aR r2, aI x3, aI x4, aR r5] M b) := (wp_s rfl rfl).trans rfl
set_option maxRecDepth 30000 in
theorem w254_1185 {x0 : Int32} {a1 : Nat} {x2 : Int32} {x3 : Int32} {r4 : Option Nat} {ls : List AV} : wp C 254 (n + 1) 1185 ls [aI x0, aR (some a1), aI x2, aI x3, aR r4] M b = ((a1 = 60 ∧ inb x0 (cL C)) ∧ wp C 254 n 1186 ls [aI (cS C (iN x0)), aI x2, aI x3, aR r4] M b) := (wp_s rfl rfl).trans rfl
set_option maxRecDepth 30000 in
theorem w254_1186 {o0 : Option Nat} {x0 : Int32} {x1 : Int32} {x2 : Int32} {r3 : Option Nat} {ls : List AV} : wp C 254 (n + 1) 1186 (aR o0 :: ls) [aI x0, aI x1, aI x2, aR r3] M b = (wp C 254 n 1187 (aR o0 :: ls) [aR o0, aI x0, aI x1, aI x2, aR r3] M b) := (wp_s rfl rfl).trans rfl
set_option maxRecDepth 30000 in
theorem w254_1187 {v0 : AV} {v1 : AV} {v2 : AV} {v3 : AV} {p4 : Int32} {r0 : Option Nat} {x1 : Int32} {x2 : Int32} {x3 : Int32} {r4 : Option Nat} {ls : List AV} : wp C 254 (n + 1) 1187 (v0 :: v1 :: v2 :: v3 :: aI p4 :: ls) [aR r0, aI x1, aI x2, aI x3, aR r4] M b = (wp C 254 n 1189 (v0 :: v1 :: v2 :: v3 :: aI p4 :: ls) [aI p4, aR r0, aI x1, aI x2, aI x3, aR r4] M b) := (wp_s rfl rfl).trans rfl
set_option maxRecDepth 30000 in
theorem w254_1189 {x0 : Int32} {r1 : Option Nat} {x2 : Int32} {x3 : Int32} {x4 : Int32} {r5 : Option Nat} {ls : List AV} : wp C 254 (n + 1) 1189 ls [aI x0, aR r1, aI x2, aI x3, aI x4, aR r5] M b = (wp C 254 n 1190 ls [aI (iZ 4), aI x0, aR r1, aI x2, aI x3, aI x4, aR r5] M b) := (wp_s rfl rfl).trans rfl
set_option maxRecDepth 30000 in
theorem w254_1190 {x0 : Int32} {x1 : Int32} {r2 : Option Nat} {x3 : Int32} {x4 : Int32} {x5 : Int32} {r6 : Option Nat} {ls : List AV} : wp C 254 (n + 1) 1190 ls [aI x0, aI x1, aR r2, aI x3, aI x4, aI x5, aR r6] M b = (wp C 254 n 1191 ls [aI (x1 + x0), aR r2, aI x3, aI x4, aI x5, aR r6] M b) := (wp_s rfl rfl).trans rfl
set_option maxRecDepth 30000 in
theorem w254_1191 {x0 : Int32} {a1 : Nat} {x2 : Int32} {x3 : Int32} {x4 : Int32} {r5 : Option Nat} {ls : List AV} : wp C 254 (n + 1) 1191 ls [aI x0, aR (some a1), aI x2, aI x3, aI x4, aR r5] M b = ((a1 = 60 ∧ inb x0 (cL C)) ∧ wp C 254 n 1192 ls [aI (cS C (iN x0)), aI x2, aI x3, aI x4, aR r5] M b) := (wp_s rfl rfl).trans rfl
set_option maxRecDepth 30000 in
theorem w254_1192 {x0 : Int32} {x1 : Int32} {x2 : Int32} {x3 : Int32} {a4 : Nat} {ls : List AV} : wp C 254 (n + 1) 1192 ls [aI x0, aI x1, aI x2, aI x3, aR (some a4)] M b = (oB M a4 12 ∧ CALL C 81 [aR (some a4), aI x3, aI x2, aI x1, aI x0] M b (kR (wp C 254 n 1195 ls) []) (cX C)) := (wp_s (x := (.invokevirtual 151, 3, 81, 4)) rfl rfl).trans (cv_row (by decide) (Nat.le_of_ble_eq_true rfl) (Nat.le_of_ble_eq_true rfl) rfl)
set_option maxRecDepth 30000 in
theorem w254_1195 {v0 : AV} {v1 : AV} {v2 : AV} {v3 : AV} {v4 : AV} {p5 : Int32} {v6 : AV} {x0 : Int32} {ls : List AV} : wp C 254 (n + 1) 1195 (v0 :: v1 :: v2 :: v3 :: v4 :: aI p5 :: v6 :: ls) [aI x0] M b = (wp C 254 n 1197 (v0 :: v1 :: v2 :: v3 :: v4 :: aI p5 :: aI x0 :: ls) [] M b) := (wp_s rfl rfl).trans rfl
set_option maxRecDepth 30000 in
theorem w254_1197 {v0 : AV} {v1 : AV} {o2 : Option Nat} {ls : List AV} : wp C 254 (n + 1) 1197 (v0 :: v1 :: aR o2 :: ls) [] M b = (wp C 254 n 1198 (v0 :: v1 :: aR o2 :: ls) [aR o2] M b) := (wp_s rfl rfl).trans rfl
set_option maxRecDepth 30000 in
theorem w254_1198 {a0 : Nat} {ls : List AV} : wp C 254 (n + 1) 1198 ls [aR (some a0)] M b = (oB M a0 12 ∧ CALL C 19 [aR (some a0)] M b (kR (wp C 254 n 1201 ls) []) (cX C)) := (wp_s (x := (.invokevirtual 96, 3, 19, 0)) rfl rfl).trans (cv_row (by decide) (Nat.le_of_ble_eq_true rfl) (Nat.le_of_ble_eq_true rfl) rfl)
set_option maxRecDepth 30000 in
theorem w254_1201 {v0 : AV} {v1 : AV} {v2 : AV} {v3 : AV} {v4 : AV} {p5 : Int32} {x0 : Int32} {ls : List AV} : wp C 254 (n + 1) 1201 (v0 :: v1 :: v2 :: v3 :: v4 :: aI p5 :: ls) [aI x0] M b = (wp C 254 n 1203 (v0 :: v1 :: v2 :: v3 :: v4 :: aI p5 :: ls) [aI p5, aI x0] M b) := (wp_s rfl rfl).trans rfl
set_option maxRecDepth 30000 in
theorem w254_1203 {x0 : Int32} {x1 : Int32} {ls : List AV} : wp C 254 (n + 1) 1203 ls [aI x0, aI x1] M b = ((x1.toInt = x0.toInt → wp C 254 n 1208 ls [] M b) ∧ (¬ x1.toInt = x0.toInt → wp C 254 n 1206 ls [] M b)) := (wp_s (x := (.if_icmp .eq 5, 3, 1208, 0)) rfl rfl).trans ceq
set_option maxRecDepth 30000 in
theorem w254_1206 {ls : List AV} : wp C 254 (n + 1) 1206 ls [] M b = (wp C 254 n 1207 ls [aI (iZ 0)] M b) := (wp_s rfl rfl).trans rfl
set_option maxRecDepth 30000 in
theorem w254_1207 {x0 : Int32} {ls : List AV} : wp C 254 (n + 1) 1207 ls [aI x0] M b = (isB x0 ∧ cQ C (some (aI x0)) M) := (wp_s (x := (.ireturn, 1, 0, 0)) rfl rfl).trans (rt_Z rfl)
set_option maxRecDepth 30000 in
theorem w254_1208 {v0 : AV} {v1 : AV} {v2 : AV} {v3 : AV} {v4 : AV} {p5 : Int32} {ls : List AV} : wp C 254 (n + 1) 1208 (v0 :: v1 :: v2 :: v3 :: v4 :: aI p5 :: ls) [] M b = (wp C 254 n 1210 (v0 :: v1 :: v2 :: v3 :: v4 :: aI p5 :: ls) [aI p5] M b) := (wp_s rfl rfl).trans rfl
set_option maxRecDepth 30000 in
theorem w254_1210 {x0 : Int32} {ls : List AV} : wp C 254 (n + 1) 1210 ls [aI x0] M b = ((x0.toInt = 0 → wp C 254 n 1213 ls [] M b) ∧ (¬ x0.toInt = 0 → wp C 254 n 1225 ls [] M b)) := (wp_s (x := (.ifCond .ne 15, 3, 1225, 0)) rfl rfl).trans zne
set_option maxRecDepth 30000 in
theorem w254_1213 {v0 : AV} {v1 : AV} {v2 : AV} {o3 : Option Nat} {ls : List AV} : wp C 254 (n + 1) 1213 (v0 :: v1 :: v2 :: aR o3 :: ls) [] M b = (wp C 254 n 1214 (v0 :: v1 :: v2 :: aR o3 :: ls) [aR o3] M b) := (wp_s rfl rfl).trans rfl
set_option maxRecDepth 30000 in
theorem w254_1214 {r0 : Option Nat} {ls : List AV} : wp C 254 (n + 1) 1214 ls [aR r0] M b = (wp C 254 n 1215 ls [aI (iZ 0), aR r0] M b) := (wp_s rfl rfl).trans rfl
set_option maxRecDepth 30000 in
theorem w254_1215 {x0 : Int32} {a1 : Nat} {ls : List AV} : wp C 254 (n + 1) 1215 ls [aI x0, aR (some a1)] M b = (iA M a1 21 x0 ∧ wp C 254 n 1216 ls [aL (mJ M a1 (iN x0))] M b) := (wp_s rfl rfl).trans rfl
set_option maxRecDepth 30000 in
theorem w254_1216 {v0 : AV} {v1 : AV} {v2 : AV} {v3 : AV} {v4 : AV} {v5 : AV} {p6 : Int32} {y0 : Int64} {ls : List AV} : wp C 254 (n + 1) 1216 (v0 :: v1 :: v2 :: v3 :: v4 :: v5 :: aI p6 :: ls) [aL y0] M b = (wp C 254 n 1218 (v0 :: v1 :: v2 :: v3 :: v4 :: v5 :: aI p6 :: ls) [aI p6, aL y0] M b) := (wp_s rfl rfl).trans rfl
set_option maxRecDepth 30000 in
theorem w254_1218 {x0 : Int32} {y1 : Int64} {ls : List AV} : wp C 254 (n + 1) 1218 ls [aI x0, aL y1] M b = (wp C 254 n 1219 ls [aL x0.toInt64, aL y1] M b) := (wp_s rfl rfl).trans rfl
set_option maxRecDepth 30000 in
theorem w254_1219 {y0 : Int64} {y1 : Int64} {ls : List AV} : wp C 254 (n + 1) 1219 ls [aL y0, aL y1] M b = (wp C 254 n 1220 ls [aI (lg_cmp y1 y0)] M b) := (wp_s rfl rfl).trans rfl
set_option maxRecDepth 30000 in
theorem w254_1220 {x0 : Int32} {ls : List AV} : wp C 254 (n + 1) 1220 ls [aI x0] M b = ((x0.toInt = 0 → wp C 254 n 1225 ls [] M b) ∧ (¬ x0.toInt = 0 → wp C 254 n 1223 ls [] M b)) := (wp_s (x := (.ifCond .eq 5, 3, 1225, 0)) rfl rfl).trans zeq
set_option maxRecDepth 30000 in
theorem w254_1223 {ls : List AV} : wp C 254 (n + 1) 1223 ls [] M b = (wp C 254 n 1224 ls [aI (iZ 0)] M b) := (wp_s rfl rfl).trans rfl
set_option maxRecDepth 30000 in
theorem w254_1224 {x0 : Int32} {ls : List AV} : wp C 254 (n + 1) 1224 ls [aI x0] M b = (isB x0 ∧ cQ C (some (aI x0)) M) := (wp_s (x := (.ireturn, 1, 0, 0)) rfl rfl).trans (rt_Z rfl)
set_option maxRecDepth 30000 in
theorem w254_1225 {ls : List AV} : wp C 254 (n + 1) 1225 ls [] M b = (wp C 254 n 1838 ls [] M b) := (wp_s rfl rfl).trans rfl
set_option maxRecDepth 30000 in
theorem w254_1228 {v0 : AV} {o1 : Option Nat} {ls : List AV} : wp C 254 (n + 1) 1228 (v0 :: aR o1 :: ls) [] M b = (wp C 254 n 1229 (v0 :: aR o1 :: ls) [aR o1] M b) := (wp_s rfl rfl).trans rfl
set_option maxRecDepth 30000 in
theorem w254_1229 {o0 : Option Nat} {r0 : Option Nat} {ls : List AV} : wp C 254 (n + 1) 1229 (aR o0 :: ls) [aR r0] M b = (wp C 254 n 1230 (aR o0 :: ls) [aR o0, aR r0] M b) := (wp_s rfl rfl).trans rfl
set_option maxRecDepth 30000 in
theorem w254_1230 {v0 : AV} {v1 : AV} {v2 : AV} {v3 : AV} {p4 : Int32} {r0 : Option Nat} {r1 : Option Nat} {ls : List AV} : wp C 254 (n + 1) 1230 (v0 :: v1 :: v2 :: v3 :: aI p4 :: ls) [aR r0, aR r1] M b = (wp C 254 n 1232 (v0 :: v1 :: v2 :: v3 :: aI p4 :: ls) [aI p4, aR r0, aR r1] M b) := (wp_s rfl rfl).trans rfl
set_option maxRecDepth 30000 in
theorem w254_1232 {x0 : Int32} {r1 : Option Nat} {r2 : Option Nat} {ls : List AV} : wp C 254 (n + 1) 1232 ls [aI x0, aR r1, aR r2] M b = (wp C 254 n 1233 ls [aI (iZ 1), aI x0, aR r1, aR r2] M b) := (wp_s rfl rfl).trans rfl
set_option maxRecDepth 30000 in
theorem w254_1233 {x0 : Int32} {x1 : Int32} {r2 : Option Nat} {r3 : Option Nat} {ls : List AV} : wp C 254 (n + 1) 1233 ls [aI x0, aI x1, aR r2, aR r3] M b = (wp C 254 n 1234 ls [aI (x1 + x0), aR r2, aR r3] M b) := (wp_s rfl rfl).trans rfl
set_option maxRecDepth 30000 in
theorem w254_1234 {x0 : Int32} {a1 : Nat} {r2 : Option Nat} {ls : List AV} : wp C 254 (n + 1) 1234 ls [aI x0, aR (some a1), aR r2] M b = ((a1 = 60 ∧ inb x0 (cL C)) ∧ wp C 254 n 1235 ls [aI (cS C (iN x0)), aR r2] M b) := (wp_s rfl rfl).trans rfl
set_option maxRecDepth 30000 in
theorem w254_1235 {o0 : Option Nat} {x0 : Int32} {r1 : Option Nat} {ls : List AV} : wp C 254 (n + 1) 1235 (aR o0 :: ls) [aI x0, aR r1] M b = (wp C 254 n 1236 (aR o0 :: ls) [aR o0, aI x0, aR r1] M b) := (wp_s rfl rfl).trans rfl
set_option maxRecDepth 30000 in
theorem w254_1236 {v0 : AV} {v1 : AV} {v2 : AV} {v3 : AV} {p4 : Int32} {r0 : Option Nat} {x1 : Int32} {r2 : Option Nat} {ls : List AV} : wp C 254 (n + 1) 1236 (v0 :: v1 :: v2 :: v3 :: aI p4 :: ls) [aR r0, aI x1, aR r2] M b = (wp C 254 n 1238 (v0 :: v1 :: v2 :: v3 :: aI p4 :: ls) [aI p4, aR r0, aI x1, aR r2] M b) := (wp_s rfl rfl).trans rfl
set_option maxRecDepth 30000 in
theorem w254_1238 {x0 : Int32} {r1 : Option Nat} {x2 : Int32} {r3 : Option Nat} {ls : List AV} : wp C 254 (n + 1) 1238 ls [aI x0, aR r1, aI x2, aR r3] M b = (wp C 254 n 1239 ls [aI (iZ 2), aI x0, aR r1, aI x2, aR r3] M b) := (wp_s rfl rfl).trans rfl
set_option maxRecDepth 30000 in
theorem w254_1239 {x0 : Int32} {x1 : Int32} {r2 : Option Nat} {x3 : Int32} {r4 : Option Nat} {ls : List AV} : wp C 254 (n + 1) 1239 ls [aI x0, aI x1, aR r2, aI x3, aR r4] M b = (wp C 254 n 1240 ls [aI (x1 + x0), aR r2, aI x3, aR r4] M b) := (wp_s rfl rfl).trans rfl
set_option maxRecDepth 30000 in
theorem w254_1240 {x0 : Int32} {a1 : Nat} {x2 : Int32} {r3 : Option Nat} {ls : List AV} : wp C 254 (n + 1) 1240 ls [aI x0, aR (some a1), aI x2, aR r3] M b = ((a1 = 60 ∧ inb x0 (cL C)) ∧ wp C 254 n 1241 ls [aI (cS C (iN x0)), aI x2, aR r3] M b) := (wp_s rfl rfl).trans rfl
set_option maxRecDepth 30000 in
theorem w254_1241 {o0 : Option Nat} {x0 : Int32} {x1 : Int32} {r2 : Option Nat} {ls : List AV} : wp C 254 (n + 1) 1241 (aR o0 :: ls) [aI x0, aI x1, aR r2] M b = (wp C 254 n 1242 (aR o0 :: ls) [aR o0, aI x0, aI x1, aR r2] M b) := (wp_s rfl rfl).trans rfl
set_option maxRecDepth 30000 in
theorem w254_1242 {v0 : AV} {v1 : AV} {v2 : AV} {v3 : AV} {p4 : Int32} {r0 : Option Nat} {x1 : Int32} {x2 : Int32} {r3 : Option Nat} {ls : List AV} : wp C 254 (n + 1) 1242 (v0 :: v1 :: v2 :: v3 :: aI p4 :: ls) [aR r0, aI x1, aI x2, aR r3] M b = (wp C 254 n 1244 (v0 :: v1 :: v2 :: v3 :: aI p4 :: ls) [aI p4, aR r0, aI x1, aI x2, aR r3] M b) := (wp_s rfl rfl).trans rfl
set_option maxRecDepth 30000 in
theorem w254_1244 {x0 : Int32} {r1 : Option Nat} {x2 : Int32} {x3 : Int32} {r4 : Option Nat} {ls : List AV} : wp C 254 (n + 1) 1244 ls [aI x0, aR r1, aI x2, aI x3, aR r4] M b = (wp C 254 n 1245 ls [aI (iZ 3), aI x0, aR r1, aI x2, aI x3, aR r4] M b) := (wp_s rfl rfl).trans rfl
set_option maxRecDepth 30000 in
theorem w254_1245 {x0 : Int32} {x1 : Int32} {r2 : Option Nat} {x3 : Int32} {x4 : Int32} {r5 : Option Nat} {ls : List AV} : wp C 254 (n + 1) 1245 ls [aI x0, aI x1, aR r2, aI x3, aI x4, aR r5] M b = (wp C 254 n 1246 ls [aI (x1 + x0), aR r2, aI x3, aI x4, aR r5] M b) := (wp_s rfl rfl).trans rfl
set_option maxRecDepth 30000 in
theorem w254_1246 {x0 : Int32} {a1 : Nat} {x2 : Int32} {x3 : Int32} {r4 : Option Nat} {ls : List AV} : wp C 254 (n + 1) 1246 ls [aI x0, aR (some a1), aI x2, aI x3, aR r4] M b = ((a1 = 60 ∧ inb x0 (cL C)) ∧ wp C 254 n 1247 ls [aI (cS C (iN x0)), aI x2, aI x3, aR r4] M b) := (wp_s rfl rfl).trans rfl
set_option maxRecDepth 30000 in
theorem w254_1247 {o0 : Option Nat} {x0 : Int32} {x1 : Int32} {x2 : Int32} {r3 : Option Nat} {ls : List AV} : wp C 254 (n + 1) 1247 (aR o0 :: ls) [aI x0, aI x1, aI x2, aR r3] M b = (wp C 254 n 1248 (aR o0 :: ls) [aR o0, aI x0, aI x1, aI x2, aR r3] M b) := (wp_s rfl rfl).trans rfl
set_option maxRecDepth 30000 in
theorem w254_1248 {v0 : AV} {v1 : AV} {v2 : AV} {v3 : AV} {p4 : Int32} {r0 : Option Nat} {x1 : Int32} {x2 : Int32} {x3 : Int32} {r4 : Option Nat} {ls : List AV} : wp C 254 (n + 1) 1248 (v0 :: v1 :: v2 :: v3 :: aI p4 :: ls) [aR r0, aI x1, aI x2, aI x3, aR r4] M b = (wp C 254 n 1250 (v0 :: v1 :: v2 :: v3 :: aI p4 :: ls) [aI p4, aR r0, aI x1, aI x2, aI x3, aR r4] M b) := (wp_s rfl rfl).trans rfl
set_option maxRecDepth 30000 in
theorem w254_1250 {x0 : Int32} {r1 : Option Nat} {x2 : Int32} {x3 : Int32} {x4 : Int32} {r5 : Option Nat} {ls : List AV} : wp C 254 (n + 1) 1250 ls [aI x0, aR r1, aI x2, aI x3, aI x4, aR r5] M b = (wp C 254 n 1251 ls [aI (iZ 4), aI x0, aR r1, aI x2, aI x3, aI x4, aR r5] M b) := (wp_s rfl rfl).trans rfl
set_option maxRecDepth 30000 in
theorem w254_1251 {x0 : Int32} {x1 : Int32} {r2 : Option Nat} {x3 : Int32} {x4 : Int32} {x5 : Int32} {r6 : Option Nat} {ls : List AV} : wp C 254 (n + 1) 1251 ls [aI x0, aI x1, aR r2, aI x3, aI x4, aI x5, aR r6] M b = (wp C 254 n 1252 ls [aI (x1 + x0), aR r2, aI x3, aI x4, aI x5, aR r6] M b) := (wp_s rfl rfl).trans rfl
set_option maxRecDepth 30000 in
theorem w254_1252 {x0 : Int32} {a1 : Nat} {x2 : Int32} {x3 : Int32} {x4 : Int32} {r5 : Option Nat} {ls : List AV} : wp C 254 (n + 1) 1252 ls [aI x0, aR (some a1), aI x2, aI x3, aI x4, aR r5] M b = ((a1 = 60 ∧ inb x0 (cL C)) ∧ wp C 254 n 1253 ls [aI (cS C (iN x0)), aI x2, aI x3, aI x4, aR r5] M b) := (wp_s rfl rfl).trans rfl
set_option maxRecDepth 30000 in
theorem w254_1253 {v0 : AV} {v1 : AV} {v2 : AV} {o3 : Option Nat} {x0 : Int32} {x1 : Int32} {x2 : Int32} {x3 : Int32} {r4 : Option Nat} {ls : List AV} : wp C 254 (n + 1) 1253 (v0 :: v1 :: v2 :: aR o3 :: ls) [aI x0, aI x1, aI x2, aI x3, aR r4] M b = (wp C 254 n 1254 (v0 :: v1 :: v2 :: aR o3 :: ls) [aR o3, aI x0, aI x1, aI x2, aI x3, aR r4] M b) := (wp_s rfl rfl).trans rfl
set_option maxRecDepth 30000 in
theorem w254_1254 {r0 : Option Nat} {x1 : Int32} {x2 : Int32} {x3 : Int32} {x4 : Int32} {r5 : Option Nat} {ls : List AV} : wp C 254 (n + 1) 1254 ls [aR r0, aI x1, aI x2, aI x3, aI x4, aR r5] M b = (CALL C 246 [aR r5, aI x4, aI x3, aI x2, aI x1, aR r0] M b (kR (wp C 254 n 1257 ls) []) (cX C)) := (wp_s (x := (.invokestatic 152, 3, 246, 6)) rfl rfl).trans (cs_row (by decide) (Nat.le_of_ble_eq_true rfl) (Nat.le_of_ble_eq_true rfl))
set_option maxRecDepth 30000 in
theorem w254_1257 {v0 : AV} {v1 : AV} {v2 : AV} {v3 : AV} {p4 : Int32} {v5 : AV} {x0 : Int32} {ls : List AV} : wp C 254 (n + 1) 1257 (v0 :: v1 :: v2 :: v3 :: aI p4 :: v5 :: ls) [aI x0] M b = (wp C 254 n 1259 (v0 :: v1 :: v2 :: v3 :: aI p4 :: aI x0 :: ls) [] M b) := (wp_s rfl rfl).trans rfl
set_option maxRecDepth 30000 in
theorem w254_1259 {v0 : AV} {v1 : AV} {o2 : Option Nat} {ls : List AV} : wp C 254 (n + 1) 1259 (v0 :: v1 :: aR o2 :: ls) [] M b = (wp C 254 n 1260 (v0 :: v1 :: aR o2 :: ls) [aR o2] M b) := (wp_s rfl rfl).trans rfl
set_option maxRecDepth 30000 in
theorem w254_1260 {o0 : Option Nat} {r0 : Option Nat} {ls : List AV} : wp C 254 (n + 1) 1260 (aR o0 :: ls) [aR r0] M b = (wp C 254 n 1261 (aR o0 :: ls) [aR o0, aR r0] M b) := (wp_s rfl rfl).trans rfl
set_option maxRecDepth 30000 in
theorem w254_1261 {v0 : AV} {v1 : AV} {v2 : AV} {v3 : AV} {p4 : Int32} {r0 : Option Nat} {r1 : Option Nat} {ls : List AV} : wp C 254 (n + 1) 1261 (v0 :: v1 :: v2 :: v3 :: aI p4 :: ls) [aR r0, aR r1] M b = (wp C 254 n 1263 (v0 :: v1 :: v2 :: v3 :: aI p4 :: ls) [aI p4, aR r0, aR r1] M b) := (wp_s rfl rfl).trans rfl
set_option maxRecDepth 30000 in
theorem w254_1263 {x0 : Int32} {r1 : Option Nat} {r2 : Option Nat} {ls : List AV} : wp C 254 (n + 1) 1263 ls [aI x0, aR r1, aR r2] M b = (wp C 254 n 1264 ls [aI (iZ 1), aI x0, aR r1, aR r2] M b) := (wp_s rfl rfl).trans rfl
set_option maxRecDepth 30000 in
theorem w254_1264 {x0 : Int32} {x1 : Int32} {r2 : Option Nat} {r3 : Option Nat} {ls : List AV} : wp C 254 (n + 1) 1264 ls [aI x0, aI x1, aR r2, aR r3] M b = (wp C 254 n 1265 ls [aI (x1 + x0), aR r2, aR r3] M b) := (wp_s rfl rfl).trans rfl
set_option maxRecDepth 30000 in
theorem w254_1265 {x0 : Int32} {a1 : Nat} {r2 : Option Nat} {ls : List AV} : wp C 254 (n + 1) 1265 ls [aI x0, aR (some a1), aR r2] M b = ((a1 = 60 ∧ inb x0 (cL C)) ∧ wp C 254 n 1266 ls [aI (cS C (iN x0)), aR r2] M b) := (wp_s rfl rfl).trans rfl
set_option maxRecDepth 30000 in
theorem w254_1266 {o0 : Option Nat} {x0 : Int32} {r1 : Option Nat} {ls : List AV} : wp C 254 (n + 1) 1266 (aR o0 :: ls) [aI x0, aR r1] M b = (wp C 254 n 1267 (aR o0 :: ls) [aR o0, aI x0, aR r1] M b) := (wp_s rfl rfl).trans rfl
set_option maxRecDepth 30000 in
theorem w254_1267 {v0 : AV} {v1 : AV} {v2 : AV} {v3 : AV} {p4 : Int32} {r0 : Option Nat} {x1 : Int32} {r2 : Option Nat} {ls : List AV} : wp C 254 (n + 1) 1267 (v0 :: v1 :: v2 :: v3 :: aI p4 :: ls) [aR r0, aI x1, aR r2] M b = (wp C 254 n 1269 (v0 :: v1 :: v2 :: v3 :: aI p4 :: ls) [aI p4, aR r0, aI x1, aR r2] M b) := (wp_s rfl rfl).trans rfl
set_option maxRecDepth 30000 in
theorem w254_1269 {x0 : Int32} {r1 : Option Nat} {x2 : Int32} {r3 : Option Nat} {ls : List AV} : wp C 254 (n + 1) 1269 ls [aI x0, aR r1, aI x2, aR r3] M b = (wp C 254 n 1270 ls [aI (iZ 2), aI x0, aR r1, aI x2, aR r3] M b) := (wp_s rfl rfl).trans rfl
set_option maxRecDepth 30000 in
theorem w254_1270 {x0 : Int32} {x1 : Int32} {r2 : Option Nat} {x3 : Int32} {r4 : Option Nat} {ls : List AV} : wp C 254 (n + 1) 1270 ls [aI x0, aI x1, aR r2, aI x3, aR r4] M b = (wp C 254 n 1271 ls [aI (x1 + x0), aR r2, aI x3, aR r4] M b) := (wp_s rfl rfl).trans rfl
set_option maxRecDepth 30000 in
theorem w254_1271 {x0 : Int32} {a1 : Nat} {x2 : Int32} {r3 : Option Nat} {ls : List AV} : wp C 254 (n + 1) 1271 ls [aI x0, aR (some a1), aI x2, aR r3] M b = ((a1 = 60 ∧ inb x0 (cL C)) ∧ wp C 254 n 1272 ls [aI (cS C (iN x0)), aI x2, aR r3] M b) := (wp_s rfl rfl).trans rfl
set_option maxRecDepth 30000 in
theorem w254_1272 {o0 : Option Nat} {x0 : Int32} {x1 : Int32} {r2 : Option Nat} {ls : List AV} : wp C 254 (n + 1) 1272 (aR o0 :: ls) [aI x0, aI x1, aR r2] M b = (wp C 254 n 1273 (aR o0 :: ls) [aR o0, aI x0, aI x1, aR r2] M b) := (wp_s rfl rfl).trans rfl
set_option maxRecDepth 30000 in
theorem w254_1273 {v0 : AV} {v1 : AV} {v2 : AV} {v3 : AV} {p4 : Int32} {r0 : Option Nat} {x1 : Int32} {x2 : Int32} {r3 : Option Nat} {ls : List AV} : wp C 254 (n + 1) 1273 (v0 :: v1 :: v2 :: v3 :: aI p4 :: ls) [aR r0, aI x1, aI x2, aR r3] M b = (wp C 254 n 1275 (v0 :: v1 :: v2 :: v3 :: aI p4 :: ls) [aI p4, aR r0, aI x1, aI x2, aR r3] M b) := (wp_s rfl rfl).trans rfl
set_option maxRecDepth 30000 in
theorem w254_1275 {x0 : Int32} {r1 : Option Nat} {x2 : Int32} {x3 : Int32} {r4 : Option Nat} {ls : List AV} : wp C 254 (n + 1) 1275 ls [aI x0, aR r1, aI x2, aI x3, aR r4] M b = (wp C 254 n 1276 ls [aI (iZ 3), aI x0, aR r1, aI x2, aI x3, aR r4] M b) := (wp_s rfl rfl).trans rfl
set_option maxRecDepth 30000 in
theorem w254_1276 {x0 : Int32} {x1 : Int32} {r2 : Option Nat} {x3 : Int32} {x4 : Int32} {r5 : Option Nat} {ls : List AV} : wp C 254 (n + 1) 1276 ls [aI x0, aI x1, aR r2, aI x3, aI x4, aR r5] M b = (wp C 254 n 1277 ls [aI (x1 + x0), aR r2, aI x3, aI x4, aR r5] M b) := (wp_s rfl rfl).trans rfl
set_option maxRecDepth 30000 in
theorem w254_1277 {x0 : Int32} {a1 : Nat} {x2 : Int32} {x3 : Int32} {r4 : Option Nat} {ls : List AV} : wp C 254 (n + 1) 1277 ls [aI x0, aR (some a1), aI x2, aI x3, aR r4] M b = ((a1 = 60 ∧ inb x0 (cL C)) ∧ wp C 254 n 1278 ls [aI (cS C (iN x0)), aI x2, aI x3, aR r4] M b) := (wp_s rfl rfl).trans rfl
set_option maxRecDepth 30000 in
theorem w254_1278 {o0 : Option Nat} {x0 : Int32} {x1 : Int32} {x2 : Int32} {r3 : Option Nat} {ls : List AV} : wp C 254 (n + 1) 1278 (aR o0 :: ls) [aI x0, aI x1, aI x2, aR r3] M b = (wp C 254 n 1279 (aR o0 :: ls) [aR o0, aI x0, aI x1, aI x2, aR r3] M b) := (wp_s rfl rfl).trans rfl
set_option maxRecDepth 30000 in
theorem w254_1279 {v0 : AV} {v1 : AV} {v2 : AV} {v3 : AV} {p4 : Int32} {r0 : Option Nat} {x1 : Int32} {x2 : Int32} {x3 : Int32} {r4 : Option Nat} {ls : List AV} : wp C 254 (n + 1) 1279 (v0 :: v1 :: v2 :: v3 :: aI p4 :: ls) [aR r0, aI x1, aI x2, aI x3, aR r4] M b = (wp C 254 n 1281 (v0 :: v1 :: v2 :: v3 :: aI p4 :: ls) [aI p4, aR r0, aI x1, aI x2, aI x3, aR r4] M b) := (wp_s rfl rfl).trans rfl
set_option maxRecDepth 30000 in
theorem w254_1281 {x0 : Int32} {r1 : Option Nat} {x2 : Int32} {x3 : Int32} {x4 : Int32} {r5 : Option Nat} {ls : List AV} : wp C 254 (n + 1) 1281 ls [aI x0, aR r1, aI x2, aI x3, aI x4, aR r5] M b = (wp C 254 n 1282 ls [aI (iZ 4), aI x0, aR r1, aI x2, aI x3, aI x4, aR r5] M b) := (wp_s rfl rfl).trans rfl
set_option maxRecDepth 30000 in
theorem w254_1282 {x0 : Int32} {x1 : Int32} {r2 : Option Nat} {x3 : Int32} {x4 : Int32} {x5 : Int32} {r6 : Option Nat} {ls : List AV} : wp C 254 (n + 1) 1282 ls [aI x0, aI x1, aR r2, aI x3, aI x4, aI x5, aR r6] M b = (wp C 254 n 1283 ls [aI (x1 + x0), aR r2, aI x3, aI x4, aI x5, aR r6] M b) := (wp_s rfl rfl).trans rfl
set_option maxRecDepth 30000 in
theorem w254_1283 {x0 : Int32} {a1 : Nat} {x2 : Int32} {x3 : Int32} {x4 : Int32} {r5 : Option Nat} {ls : List AV} : wp C 254 (n + 1) 1283 ls [aI x0, aR (some a1), aI x2, aI x3, aI x4, aR r5] M b = ((a1 = 60 ∧ inb x0 (cL C)) ∧ wp C 254 n 1284 ls [aI (cS C (iN x0)), aI x2, aI x3, aI x4, aR r5] M b) := (wp_s rfl rfl).trans rfl
set_option maxRecDepth 30000 in
theorem w254_1284 {x0 : Int32} {x1 : Int32} {x2 : Int32} {x3 : Int32} {a4 : Nat} {ls : List AV} : wp C 254 (n + 1) 1284 ls [aI x0, aI x1, aI x2, aI x3, aR (some a4)] M b = (oB M a4 12 ∧ CALL C 82 [aR (some a4), aI x3, aI x2, aI x1, aI x0] M b (kR (wp C 254 n 1287 ls) []) (cX C)) := (wp_s (x := (.invokevirtual 154, 3, 82, 4)) rfl rfl).trans (cv_row (by decide) (Nat.le_of_ble_eq_true rfl) (Nat.le_of_ble_eq_true rfl) rfl)
set_option maxRecDepth 30000 in
theorem w254_1287 {v0 : AV} {v1 : AV} {v2 : AV} {v3 : AV} {v4 : AV} {p5 : Int32} {v6 : AV} {x0 : Int32} {ls : List AV} : wp C 254 (n + 1) 1287 (v0 :: v1 :: v2 :: v3 :: v4 :: aI p5 :: v6 :: ls) [aI x0] M b = (wp C 254 n 1289 (v0 :: v1 :: v2 :: v3 :: v4 :: aI p5 :: aI x0 :: ls) [] M b) := (wp_s rfl rfl).trans rfl
set_option maxRecDepth 30000 in
theorem w254_1289 {v0 : AV} {v1 : AV} {o2 : Option Nat} {ls : List AV} : wp C 254 (n + 1) 1289 (v0 :: v1 :: aR o2 :: ls) [] M b = (wp C 254 n 1290 (v0 :: v1 :: aR o2 :: ls) [aR o2] M b) := (wp_s rfl rfl).trans rfl
set_option maxRecDepth 30000 in
theorem w254_1290 {a0 : Nat} {ls : List AV} : wp C 254 (n + 1) 1290 ls [aR (some a0)] M b = (oB M a0 12 ∧ CALL C 19 [aR (some a0)] M b (kR (wp C 254 n 1293 ls) []) (cX C)) := (wp_s (x := (.invokevirtual 96, 3, 19, 0)) rfl rfl).trans (cv_row (by decide) (Nat.le_of_ble_eq_true rfl) (Nat.le_of_ble_eq_true rfl) rfl)
set_option maxRecDepth 30000 in
theorem w254_1293 {v0 : AV} {v1 : AV} {v2 : AV} {v3 : AV} {v4 : AV} {p5 : Int32} {x0 : Int32} {ls : List AV} : wp C 254 (n + 1) 1293 (v0 :: v1 :: v2 :: v3 :: v4 :: aI p5 :: ls) [aI x0] M b = (wp C 254 n 1295 (v0 :: v1 :: v2 :: v3 :: v4 :: aI p5 :: ls) [aI p5, aI x0] M b) := (wp_s rfl rfl).trans rfl
set_option maxRecDepth 30000 in
theorem w254_1295 {x0 : Int32} {x1 : Int32} {ls : List AV} : wp C 254 (n + 1) 1295 ls [aI x0, aI x1] M b = ((x1.toInt = x0.toInt → wp C 254 n 1300 ls [] M b) ∧ (¬ x1.toInt = x0.toInt → wp C 254 n 1298 ls [] M b)) := (wp_s (x := (.if_icmp .eq 5, 3, 1300, 0)) rfl rfl).trans ceq
set_option maxRecDepth 30000 in
theorem w254_1298 {ls : List AV} : wp C 254 (n + 1) 1298 ls [] M b = (wp C 254 n 1299 ls [aI (iZ 0)] M b) := (wp_s rfl rfl).trans rfl
set_option maxRecDepth 30000 in
theorem w254_1299 {x0 : Int32} {ls : List AV} : wp C 254 (n + 1) 1299 ls [aI x0] M b = (isB x0 ∧ cQ C (some (aI x0)) M) := (wp_s (x := (.ireturn, 1, 0, 0)) rfl rfl).trans (rt_Z rfl)
set_option maxRecDepth 30000 in
theorem w254_1300 {v0 : AV} {v1 : AV} {v2 : AV} {v3 : AV} {v4 : AV} {p5 : Int32} {ls : List AV} : wp C 254 (n + 1) 1300 (v0 :: v1 :: v2 :: v3 :: v4 :: aI p5 :: ls) [] M b = (wp C 254 n 1302 (v0 :: v1 :: v2 :: v3 :: v4 :: aI p5 :: ls) [aI p5] M b) := (wp_s rfl rfl).trans rfl
set_option maxRecDepth 30000 in
theorem w254_1302 {x0 : Int32} {ls : List AV} : wp C 254 (n + 1) 1302 ls [aI x0] M b = ((x0.toInt = 0 → wp C 254 n 1305 ls [] M b) ∧ (¬ x0.toInt = 0 → wp C 254 n 1317 ls [] M b)) := (wp_s (x := (.ifCond .ne 15, 3, 1317, 0)) rfl rfl).trans zne
set_option maxRecDepth 30000 in
theorem w254_1305 {v0 : AV} {v1 : AV} {v2 : AV} {o3 : Option Nat} {ls : List AV} : wp C 254 (n + 1) 1305 (v0 :: v1 :: v2 :: aR o3 :: ls) [] M b = (wp C 254 n 1306 (v0 :: v1 :: v2 :: aR o3 :: ls) [aR o3] M b) := (wp_s rfl rfl).trans rfl
set_option maxRecDepth 30000 in
theorem w254_1306 {r0 : Option Nat} {ls : List AV} : wp C 254 (n + 1) 1306 ls [aR r0] M b = (wp C 254 n 1307 ls [aI (iZ 0), aR r0] M b) := (wp_s rfl rfl).trans rfl
set_option maxRecDepth 30000 in
theorem w254_1307 {x0 : Int32} {a1 : Nat} {ls : List AV} : wp C 254 (n + 1) 1307 ls [aI x0, aR (some a1)] M b = (iA M a1 21 x0 ∧ wp C 254 n 1308 ls [aL (mJ M a1 (iN x0))] M b) := (wp_s rfl rfl).trans rfl
set_option maxRecDepth 30000 in
theorem w254_1308 {v0 : AV} {v1 : AV} {v2 : AV} {v3 : AV} {v4 : AV} {v5 : AV} {p6 : Int32} {y0 : Int64} {ls : List AV} : wp C 254 (n + 1) 1308 (v0 :: v1 :: v2 :: v3 :: v4 :: v5 :: aI p6 :: ls) [aL y0] M b = (wp C 254 n 1310 (v0 :: v1 :: v2 :: v3 :: v4 :: v5 :: aI p6 :: ls) [aI p6, aL y0] M b) := (wp_s rfl rfl).trans rfl
set_option maxRecDepth 30000 in
theorem w254_1310 {x0 : Int32} {y1 : Int64} {ls : List AV} : wp C 254 (n + 1) 1310 ls [aI x0, aL y1] M b = (wp C 254 n 1311 ls [aL x0.toInt64, aL y1] M b) := (wp_s rfl rfl).trans rfl
set_option maxRecDepth 30000 in
theorem w254_1311 {y0 : Int64} {y1 : Int64} {ls : List AV} : wp C 254 (n + 1) 1311 ls [aL y0, aL y1] M b = (wp C 254 n 1312 ls [aI (lg_cmp y1 y0)] M b) := (wp_s rfl rfl).trans rfl
set_option maxRecDepth 30000 in
theorem w254_1312 {x0 : Int32} {ls : List AV} : wp C 254 (n + 1) 1312 ls [aI x0] M b = ((x0.toInt = 0 → wp C 254 n 1317 ls [] M b) ∧ (¬ x0.toInt = 0 → wp C 254 n 1315 ls [] M b)) := (wp_s (x := (.ifCond .eq 5, 3, 1317, 0)) rfl rfl).trans zeq
set_option maxRecDepth 30000 in
theorem w254_1315 {ls : List AV} : wp C 254 (n + 1) 1315 ls [] M b = (wp C 254 n 1316 ls [aI (iZ 0)] M b) := (wp_s rfl rfl).trans rfl
set_option maxRecDepth 30000 in
theorem w254_1316 {x0 : Int32} {ls : List AV} : wp C 254 (n + 1) 1316 ls [aI x0] M b = (isB x0 ∧ cQ C (some (aI x0)) M) := (wp_s (x := (.ireturn, 1, 0, 0)) rfl rfl).trans (rt_Z rfl)
set_option maxRecDepth 30000 in
theorem w254_1317 {ls : List AV} : wp C 254 (n + 1) 1317 ls [] M b = (wp C 254 n 1838 ls [] M b) := (wp_s rfl rfl).trans rfl
set_option maxRecDepth 30000 in
theorem w254_1320 {v0 : AV} {o1 : Option Nat} {ls : List AV} : wp C 254 (n + 1) 1320 (v0 :: aR o1 :: ls) [] M b = (wp C 254 n 1321 (v0 :: aR o1 :: ls) [aR o1] M b) := (wp_s rfl rfl).trans rfl
set_option maxRecDepth 30000 in
theorem w254_1321 {a0 : Nat} {ls : List AV} : wp C 254 (n + 1) 1321 ls [aR (some a0)] M b = (oB M a0 11 ∧ CALL C 211 [aR (some a0)] M b (kR (wp C 254 n 1324 ls) []) (cX C)) := (wp_s (x := (.invokevirtual 155, 3, 211, 0)) rfl rfl).trans (cv_row (by decide) (Nat.le_of_ble_eq_true rfl) (Nat.le_of_ble_eq_true rfl) rfl)
set_option maxRecDepth 30000 in
theorem w254_1324 {v0 : AV} {v1 : AV} {o2 : Option Nat} {ls : List AV} : wp C 254 (n + 1) 1324 (v0 :: v1 :: aR o2 :: ls) [] M b = (wp C 254 n 1325 (v0 :: v1 :: aR o2 :: ls) [aR o2] M b) := (wp_s rfl rfl).trans rfl
set_option maxRecDepth 30000 in
theorem w254_1325 {a0 : Nat} {ls : List AV} : wp C 254 (n + 1) 1325 ls [aR (some a0)] M b = (oB M a0 12 ∧ CALL C 83 [aR (some a0)] M b (kR (wp C 254 n 1328 ls) []) (cX C)) := (wp_s (x := (.invokevirtual 158, 3, 83, 0)) rfl rfl).trans (cv_row (by decide) (Nat.le_of_ble_eq_true rfl) (Nat.le_of_ble_eq_true rfl) rfl)
set_option maxRecDepth 30000 in
theorem w254_1328 {ls : List AV} : wp C 254 (n + 1) 1328 ls [] M b = (wp C 254 n 1838 ls [] M b) := (wp_s rfl rfl).trans rfl
set_option maxRecDepth 30000 in
theorem w254_1331 {v0 : AV} {o1 : Option Nat} {ls : List AV} : wp C 254 (n + 1) 1331 (v0 :: aR o1 :: ls) [] M b = (wp C 254 n 1332 (v0 :: aR o1 :: ls) [aR o1] M b) := (wp_s rfl rfl).trans rfl
set_option maxRecDepth 30000 in
theorem w254_1332 {o0 : Option Nat} {r0 : Option Nat} {ls : List AV} : wp C 254 (n + 1) 1332 (aR o0 :: ls) [aR r0] M b = (wp C 254 n 1333 (aR o0 :: ls) [aR o0, aR r0] M b) := (wp_s rfl rfl).trans rfl
set_option maxRecDepth 30000 in
theorem w254_1333 {v0 : AV} {v1 : AV} {v2 : AV} {v3 : AV} {p4 : Int32} {r0 : Option Nat} {r1 : Option Nat} {ls : List AV} : wp C 254 (n + 1) 1333 (v0 :: v1 :: v2 :: v3 :: aI p4 :: ls) [aR r0, aR r1] M b = (wp C 254 n 1335 (v0 :: v1 :: v2 :: v3 :: aI p4 :: ls) [aI p4, aR r0, aR r1] M b) := (wp_s rfl rfl).trans rfl
set_option maxRecDepth 30000 in
theorem w254_1335 {x0 : Int32} {r1 : Option Nat} {r2 : Option Nat} {ls : List AV} : wp C 254 (n + 1) 1335 ls [aI x0, aR r1, aR r2] M b = (wp C 254 n 1336 ls [aI (iZ 1), aI x0, aR r1, aR r2] M b) := (wp_s rfl rfl).trans rfl
set_option maxRecDepth 30000 in
theorem w254_1336 {x0 : Int32} {x1 : Int32} {r2 : Option Nat} {r3 : Option Nat} {ls : List AV} : wp C 254 (n + 1) 1336 ls [aI x0, aI x1, aR r2, aR r3] M b = (wp C 254 n 1337 ls [aI (x1 + x0), aR r2, aR r3] M b) := (wp_s rfl rfl).trans rfl
set_option maxRecDepth 30000 in
theorem w254_1337 {x0 : Int32} {a1 : Nat} {r2 : Option Nat} {ls : List AV} : wp C 254 (n + 1) 1337 ls [aI x0, aR (some a1), aR r2] M b = ((a1 = 60 ∧ inb x0 (cL C)) ∧ wp C 254 n 1338 ls [aI (cS C (iN x0)), aR r2] M b) := (wp_s rfl rfl).trans rfl
set_option maxRecDepth 30000 in
theorem w254_1338 {v0 : AV} {v1 : AV} {v2 : AV} {o3 : Option Nat} {x0 : Int32} {r1 : Option Nat} {ls : List AV} : wp C 254 (n + 1) 1338 (v0 :: v1 :: v2 :: aR o3 :: ls) [aI x0, aR r1] M b = (wp C 254 n 1339 (v0 :: v1 :: v2 :: aR o3 :: ls) [aR o3, aI x0, aR r1] M b) := (wp_s rfl rfl).trans rfl
set_option maxRecDepth 30000 in
theorem w254_1339 {r0 : Option Nat} {x1 : Int32} {r2 : Option Nat} {ls : List AV} : wp C 254 (n + 1) 1339 ls [aR r0, aI x1, aR r2] M b = (CALL C 247 [aR r2, aI x1, aR r0] M b (kR (wp C 254 n 1342 ls) []) (cX C)) := (wp_s (x := (.invokestatic 159, 3, 247, 3)) rfl rfl).trans (cs_row (by decide) (Nat.le_of_ble_eq_true rfl) (Nat.le_of_ble_eq_true rfl))
set_option maxRecDepth 30000 in
theorem w254_1342 {v0 : AV} {v1 : AV} {v2 : AV} {v3 : AV} {p4 : Int32} {v5 : AV} {x0 : Int32} {ls : List AV} : wp C 254 (n + 1) 1342 (v0 :: v1 :: v2 :: v3 :: aI p4 :: v5 :: ls) [aI x0] M b = (wp C 254 n 1344 (v0 :: v1 :: v2 :: v3 :: aI p4 :: aI x0 :: ls) [] M b) := (wp_s rfl rfl).trans rfl
set_option maxRecDepth 30000 in
theorem w254_1344 {v0 : AV} {v1 : AV} {o2 : Option Nat} {ls : List AV} : wp C 254 (n + 1) 1344 (v0 :: v1 :: aR o2 :: ls) [] M b = (wp C 254 n 1345 (v0 :: v1 :: aR o2 :: ls) [aR o2] M b) := (wp_s rfl rfl).trans rfl
set_option maxRecDepth 30000 in
theorem w254_1345 {o0 : Option Nat} {r0 : Option Nat} {ls : List AV} : wp C 254 (n + 1) 1345 (aR o0 :: ls) [aR r0] M b = (wp C 254 n 1346 (aR o0 :: ls) [aR o0, aR r0] M b) := (wp_s rfl rfl).trans rfl
set_option maxRecDepth 30000 in
theorem w254_1346 {v0 : AV} {v1 : AV} {v2 : AV} {v3 : AV} {p4 : Int32} {r0 : Option Nat} {r1 : Option Nat} {ls : List AV} : wp C 254 (n + 1) 1346 (v0 :: v1 :: v2 :: v3 :: aI p4 :: ls) [aR r0, aR r1] M b = (wp C 254 n 1348 (v0 :: v1 :: v2 :: v3 :: aI p4 :: ls) [aI p4, aR r0, aR r1] M b) := (wp_s rfl rfl).trans rfl
set_option maxRecDepth 30000 in
theorem w254_1348 {x0 : Int32} {r1 : Option Nat} {r2 : Option Nat} {ls : List AV} : wp C 254 (n + 1) 1348 ls [aI x0, aR r1, aR r2] M b = (wp C 254 n 1349 ls [aI (iZ 1), aI x0, aR r1, aR r2] M b) := (wp_s rfl rfl).trans rfl
set_option maxRecDepth 30000 in
theorem w254_1349 {x0 : Int32} {x1 : Int32} {r2 : Option Nat} {r3 : Option Nat} {ls : List AV} : wp C 254 (n + 1) 1349 ls [aI x0, aI x1, aR r2, aR r3] M b = (wp C 254 n 1350 ls [aI (x1 + x0), aR r2, aR r3] M b) := (wp_s rfl rfl).trans rfl
set_option maxRecDepth 30000 in
theorem w254_1350 {x0 : Int32} {a1 : Nat} {r2 : Option Nat} {ls : List AV} : wp C 254 (n + 1) 1350 ls [aI x0, aR (some a1), aR r2] M b = ((a1 = 60 ∧ inb x0 (cL C)) ∧ wp C 254 n 1351 ls [aI (cS C (iN x0)), aR r2] M b) := (wp_s rfl rfl).trans rfl
set_option maxRecDepth 30000 in
theorem w254_1351 {x0 : Int32} {a1 : Nat} {ls : List AV} : wp C 254 (n + 1) 1351 ls [aI x0, aR (some a1)] M b = (oB M a1 12 ∧ CALL C 84 [aR (some a1), aI x0] M b (kR (wp C 254 n 1354 ls) []) (cX C)) := (wp_s (x := (.invokevirtual 161, 3, 84, 1)) rfl rfl).trans (cv_row (by decide) (Nat.le_of_ble_eq_true rfl) (Nat.le_of_ble_eq_true rfl) rfl)
set_option maxRecDepth 30000 in
theorem w254_1354 {v0 : AV} {v1 : AV} {v2 : AV} {v3 : AV} {v4 : AV} {p5 : Int32} {v6 : AV} {x0 : Int32} {ls : List AV} : wp C 254 (n + 1) 1354 (v0 :: v1 :: v2 :: v3 :: v4 :: aI p5 :: v6 :: ls) [aI x0] M b = (wp C 254 n 1356 (v0 :: v1 :: v2 :: v3 :: v4 :: aI p5 :: aI x0 :: ls) [] M b) := (wp_s rfl rfl).trans rfl
set_option maxRecDepth 30000 in
theorem w254_1356 {v0 : AV} {v1 : AV} {o2 : Option Nat} {ls : List AV} : wp C 254 (n + 1) 1356 (v0 :: v1 :: aR o2 :: ls) [] M b = (wp C 254 n 1357 (v0 :: v1 :: aR o2 :: ls) [aR o2] M b) := (wp_s rfl rfl).trans rfl
set_option maxRecDepth 30000 in
theorem w254_1357 {a0 : Nat} {ls : List AV} : wp C 254 (n + 1) 1357 ls [aR (some a0)] M b = (oB M a0 12 ∧ CALL C 19 [aR (some a0)] M b (kR (wp C 254 n 1360 ls) []) (cX C)) := (wp_s (x := (.invokevirtual 96, 3, 19, 0)) rfl rfl).trans (cv_row (by decide) (Nat.le_of_ble_eq_true rfl) (Nat.le_of_ble_eq_true rfl) rfl)
set_option maxRecDepth 30000 in
theorem w254_1360 {v0 : AV} {v1 : AV} {v2 : AV} {v3 : AV} {v4 : AV} {p5 : Int32} {x0 : Int32} {ls : List AV} : wp C 254 (n + 1) 1360 (v0 :: v1 :: v2 :: v3 :: v4 :: aI p5 :: ls) [aI x0] M b = (wp C 254 n 1362 (v0 :: v1 :: v2 :: v3 :: v4 :: aI p5 :: ls) [aI p5, aI x0] M b) := (wp_s rfl rfl).trans rfl
set_option maxRecDepth 30000 in
theorem w254_1362 {x0 : Int32} {x1 : Int32} {ls : List AV} : wp C 254 (n + 1) 1362 ls [aI x0, aI x1] M b = ((x1.toInt = x0.toInt → wp C 254 n 1367 ls [] M b) ∧ (¬ x1.toInt = x0.toInt → wp C 254 n 1365 ls [] M b)) := (wp_s (x := (.if_icmp .eq 5, 3, 1367, 0)) rfl rfl).trans ceq
set_option maxRecDepth 30000 in
theorem w254_1365 {ls : List AV} : wp C 254 (n + 1) 1365 ls [] M b = (wp C 254 n 1366 ls [aI (iZ 0)] M b) := (wp_s rfl rfl).trans rfl
set_option maxRecDepth 30000 in
theorem w254_1366 {x0 : Int32} {ls : List AV} : wp C 254 (n + 1) 1366 ls [aI x0] M b = (isB x0 ∧ cQ C (some (aI x0)) M) := (wp_s (x := (.ireturn, 1, 0, 0)) rfl rfl).trans (rt_Z rfl)
set_option maxRecDepth 30000 in
theorem w254_1367 {v0 : AV} {v1 : AV} {v2 : AV} {v3 : AV} {v4 : AV} {p5 : Int32} {ls : List AV} : wp C 254 (n + 1) 1367 (v0 :: v1 :: v2 :: v3 :: v4 :: aI p5 :: ls) [] M b = (wp C 254 n 1369 (v0 :: v1 :: v2 :: v3 :: v4 :: aI p5 :: ls) [aI p5] M b) := (wp_s rfl rfl).trans rfl
set_option maxRecDepth 30000 in
theorem w254_1369 {x0 : Int32} {ls : List AV} : wp C 254 (n + 1) 1369 ls [aI x0] M b = ((x0.toInt = 0 → wp C 254 n 1372 ls [] M b) ∧ (¬ x0.toInt = 0 → wp C 254 n 1384 ls [] M b)) := (wp_s (x := (.ifCond .ne 15, 3, 1384, 0)) rfl rfl).trans zne
set_option maxRecDepth 30000 in
theorem w254_1372 {v0 : AV} {v1 : AV} {v2 : AV} {o3 : Option Nat} {ls : List AV} : wp C 254 (n + 1) 1372 (v0 :: v1 :: v2 :: aR o3 :: ls) [] M b = (wp C 254 n 1373 (v0 :: v1 :: v2 :: aR o3 :: ls) [aR o3] M b) := (wp_s rfl rfl).trans rfl
set_option maxRecDepth 30000 in
theorem w254_1373 {r0 : Option Nat} {ls : List AV} : wp C 254 (n + 1) 1373 ls [aR r0] M b = (wp C 254 n 1374 ls [aI (iZ 0), aR r0] M b) := (wp_s rfl rfl).trans rfl
set_option maxRecDepth 30000 in
theorem w254_1374 {x0 : Int32} {a1 : Nat} {ls : List AV} : wp C 254 (n + 1) 1374 ls [aI x0, aR (some a1)] M b = (iA M a1 21 x0 ∧ wp C 254 n 1375 ls [aL (mJ M a1 (iN x0))] M b) := (wp_s rfl rfl).trans rfl
set_option maxRecDepth 30000 in
theorem w254_1375 {v0 : AV} {v1 : AV} {v2 : AV} {v3 : AV} {v4 : AV} {v5 : AV} {p6 : Int32} {y0 : Int64} {ls : List AV} : wp C 254 (n + 1) 1375 (v0 :: v1 :: v2 :: v3 :: v4 :: v5 :: aI p6 :: ls) [aL y0] M b = (wp C 254 n 1377 (v0 :: v1 :: v2 :: v3 :: v4 :: v5 :: aI p6 :: ls) [aI p6, aL y0] M b) := (wp_s rfl rfl).trans rfl
set_option maxRecDepth 30000 in
theorem w254_1377 {x0 : Int32} {y1 : Int64} {ls : List AV} : wp C 254 (n + 1) 1377 ls [aI x0, aL y1] M b = (wp C 254 n 1378 ls [aL x0.toInt64, aL y1] M b) := (wp_s rfl rfl).trans rfl
set_option maxRecDepth 30000 in
theorem w254_1378 {y0 : Int64} {y1 : Int64} {ls : List AV} : wp C 254 (n + 1) 1378 ls [aL y0, aL y1] M b = (wp C 254 n 1379 ls [aI (lg_cmp y1 y0)] M b) := (wp_s rfl rfl).trans rfl
set_option maxRecDepth 30000 in
theorem w254_1379 {x0 : Int32} {ls : List AV} : wp C 254 (n + 1) 1379 ls [aI x0] M b = ((x0.toInt = 0 → wp C 254 n 1384 ls [] M b) ∧ (¬ x0.toInt = 0 → wp C 254 n 1382 ls [] M b)) := (wp_s (x := (.ifCond .eq 5, 3, 1384, 0)) rfl rfl).trans zeq
set_option maxRecDepth 30000 in
theorem w254_1382 {ls : List AV} : wp C 254 (n + 1) 1382 ls [] M b = (wp C 254 n 1383 ls [aI (iZ 0)] M b) := (wp_s rfl rfl).trans rfl
set_option maxRecDepth 30000 in
theorem w254_1383 {x0 : Int32} {ls : List AV} : wp C 254 (n + 1) 1383 ls [aI x0] M b = (isB x0 ∧ cQ C (some (aI x0)) M) := (wp_s (x := (.ireturn, 1, 0, 0)) rfl rfl).trans (rt_Z rfl)
set_option maxRecDepth 30000 in
theorem w254_1384 {ls : List AV} : wp C 254 (n + 1) 1384 ls [] M b = (wp C 254 n 1838 ls [] M b) := (wp_s rfl rfl).trans rfl
set_option maxRecDepth 30000 in
theorem w254_1387 {v0 : AV} {o1 : Option Nat} {ls : List AV} : wp C 254 (n + 1) 1387 (v0 :: aR o1 :: ls) [] M b = (wp C 254 n 1388 (v0 :: aR o1 :: ls) [aR o1] M b) := (wp_s rfl rfl).trans rfl
set_option maxRecDepth 30000 in
theorem w254_1388 {o0 : Option Nat} {r0 : Option Nat} {ls : List AV} : wp C 254 (n + 1) 1388 (aR o0 :: ls) [aR r0] M b = (wp C 254 n 1389 (aR o0 :: ls) [aR o0, aR r0] M b) := (wp_s rfl rfl).trans rfl
set_option maxRecDepth 30000 in
theorem w254_1389 {v0 : AV} {v1 : AV} {v2 : AV} {v3 : AV} {p4 : Int32} {r0 : Option Nat} {r1 : Option Nat} {ls : List AV} : wp C 254 (n + 1) 1389 (v0 :: v1 :: v2 :: v3 :: aI p4 :: ls) [aR r0, aR r1] M b = (wp C 254 n 1391 (v0 :: v1 :: v2 :: v3 :: aI p4 :: ls) [aI p4, aR r0, aR r1] M b) := (wp_s rfl rfl).trans rfl
set_option maxRecDepth 30000 in
theorem w254_1391 {x0 : Int32} {r1 : Option Nat} {r2 : Option Nat} {ls : List AV} : wp C 254 (n + 1) 1391 ls [aI x0, aR r1, aR r2] M b = (wp C 254 n 1392 ls [aI (iZ 1), aI x0, aR r1, aR r2] M b) := (wp_s rfl rfl).trans rfl
set_option maxRecDepth 30000 in
theorem w254_1392 {x0 : Int32} {x1 : Int32} {r2 : Option Nat} {r3 : Option Nat} {ls : List AV} : wp C 254 (n + 1) 1392 ls [aI x0, aI x1, aR r2, aR r3] M b = (wp C 254 n 1393 ls [aI (x1 + x0), aR r2, aR r3] M b) := (wp_s rfl rfl).trans rfl
set_option maxRecDepth 30000 in
theorem w254_1393 {x0 : Int32} {a1 : Nat} {r2 : Option Nat} {ls : List AV} : wp C 254 (n + 1) 1393 ls [aI x0, aR (some a1), aR r2] M b = ((a1 = 60 ∧ inb x0 (cL C)) ∧ wp C 254 n 1394 ls [aI (cS C (iN x0)), aR r2] M b) := (wp_s rfl rfl).trans rfl
set_option maxRecDepth 30000 in
theorem w254_1394 {x0 : Int32} {r1 : Option Nat} {ls : List AV} : wp C 254 (n + 1) 1394 ls [aI x0, aR r1] M b = (wp C 254 n 1395 ls [aL x0.toInt64, aR r1] M b) := (wp_s rfl rfl).trans rfl
set_option maxRecDepth 30000 in
theorem w254_1395 {y0 : Int64} {r1 : Option Nat} {ls : List AV} : wp C 254 (n + 1) 1395 ls [aL y0, aR r1] M b = (wp C 254 n 1397 ls [aI (iZ 32), aL y0, aR r1] M b) := (wp_s rfl rfl).trans rfl
set_option maxRecDepth 30000 in
theorem w254_1397 {x0 : Int32} {y1 : Int64} {r2 : Option Nat} {ls : List AV} : wp C 254 (n + 1) 1397 ls [aI x0, aL y1, aR r2] M b = (wp C 254 n 1398 ls [aL (y1 <<< (x0.toInt64 &&& 63)), aR r2] M b) := (wp_s rfl rfl).trans rfl
set_option maxRecDepth 30000 in
theorem w254_1398 {o0 : Option Nat} {y0 : Int64} {r1 : Option Nat} {ls : List AV} : wp C 254 (n + 1) 1398 (aR o0 :: ls) [aL y0, aR r1] M b = (wp C 254 n 1399 (aR o0 :: ls) [aR o0, aL y0, aR r1] M b) := (wp_s rfl rfl).trans rfl
set_option maxRecDepth 30000 in
theorem w254_1399 {v0 : AV} {v1 : AV} {v2 : AV} {v3 : AV} {p4 : Int32} {r0 : Option Nat} {y1 : Int64} {r2 : Option Nat} {ls : List AV} : wp C 254 (n + 1) 1399 (v0 :: v1 :: v2 :: v3 :: aI p4 :: ls) [aR r0, aL y1, aR r2] M b = (wp C 254 n 1401 (v0 :: v1 :: v2 :: v3 :: aI p4 :: ls) [aI p4, aR r0, aL y1, aR r2] M b) := (wp_s rfl rfl).trans rfl
set_option maxRecDepth 30000 in
theorem w254_1401 {x0 : Int32} {r1 : Option Nat} {y2 : Int64} {r3 : Option Nat} {ls : List AV} : wp C 254 (n + 1) 1401 ls [aI x0, aR r1, aL y2, aR r3] M b = (wp C 254 n 1402 ls [aI (iZ 2), aI x0, aR r1, aL y2, aR r3] M b) := (wp_s rfl rfl).trans rfl
set_option maxRecDepth 30000 in
theorem w254_1402 {x0 : Int32} {x1 : Int32} {r2 : Option Nat} {y3 : Int64} {r4 : Option Nat} {ls : List AV} : wp C 254 (n + 1) 1402 ls [aI x0, aI x1, aR r2, aL y3, aR r4] M b = (wp C 254 n 1403 ls [aI (x1 + x0), aR r2, aL y3, aR r4] M b) := (wp_s rfl rfl).trans rfl
set_option maxRecDepth 30000 in
theorem w254_1403 {x0 : Int32} {a1 : Nat} {y2 : Int64} {r3 : Option Nat} {ls : List AV} : wp C 254 (n + 1) 1403 ls [aI x0, aR (some a1), aL y2, aR r3] M b = ((a1 = 60 ∧ inb x0 (cL C)) ∧ wp C 254 n 1404 ls [aI (cS C (iN x0)), aL y2, aR r3] M b) := (wp_s rfl rfl).trans rfl
set_option maxRecDepth 30000 in
theorem w254_1404 {x0 : Int32} {y1 : Int64} {r2 : Option Nat} {ls : List AV} : wp C 254 (n + 1) 1404 ls [aI x0, aL y1, aR r2] M b = (wp C 254 n 1405 ls [aL x0.toInt64, aL y1, aR r2] M b) := (wp_s rfl rfl).trans rfl
set_option maxRecDepth 30000 in
theorem w254_1405 {y0 : Int64} {y1 : Int64} {r2 : Option Nat} {ls : List AV} : wp C 254 (n + 1) 1405 ls [aL y0, aL y1, aR r2] M b = (wp C 254 n 1408 ls [aL (jZ 4294967295), aL y0, aL y1, aR r2] M b) := (wp_s rfl rfl).trans rfl
set_option maxRecDepth 30000 in
theorem w254_1408 {y0 : Int64} {y1 : Int64} {y2 : Int64} {r3 : Option Nat} {ls : List AV} : wp C 254 (n + 1) 1408 ls [aL y0, aL y1, aL y2, aR r3] M b = (wp C 254 n 1409 ls [aL (y1 &&& y0), aL y2, aR r3] M b) := (wp_s rfl rfl).trans rfl
set_option maxRecDepth 30000 in
theorem w254_1409 {y0 : Int64} {y1 : Int64} {r2 : Option Nat} {ls : List AV} : wp C 254 (n + 1) 1409 ls [aL y0, aL y1, aR r2] M b = (wp C 254 n 1410 ls [aL (y1 ||| y0), aR r2] M b) := (wp_s rfl rfl).trans rfl
set_option maxRecDepth 30000 in
theorem w254_1410 {o0 : Option Nat} {y0 : Int64} {r1 : Option Nat} {ls : List AV} : wp C 254 (n + 1) 1410 (aR o0 :: ls) [aL y0, aR r1] M b = (wp C 254 n 1411 (aR o0 :: ls) [aR o0, aL y0, aR r1] M b) := (wp_s rfl rfl).trans rfl
set_option maxRecDepth 30000 in
theorem w254_1411 {v0 : AV} {v1 : AV} {v2 : AV} {v3 : AV} {p4 : Int32} {r0 : Option Nat} {y1 : Int64} {r2 : Option Nat} {ls : List AV} : wp C 254 (n + 1) 1411 (v0 :: v1 :: v2 :: v3 :: aI p4 :: ls) [aR r0, aL y1, aR r2] M b = (wp C 254 n 1413 (v0 :: v1 :: v2 :: v3 :: aI p4 :: ls) [aI p4, aR r0, aL y1, aR r2] M b) := (wp_s rfl rfl).trans rfl
set_option maxRecDepth 30000 in
theorem w254_1413 {x0 : Int32} {r1 : Option Nat} {y2 : Int64} {r3 : Option Nat} {ls : List AV} : wp C 254 (n + 1) 1413 ls [aI x0, aR r1, aL y2, aR r3] M b = (wp C 254 n 1414 ls [aI (iZ 3), aI x0, aR r1, aL y2, aR r3] M b) := (wp_s rfl rfl).trans rfl
set_option maxRecDepth 30000 in
theorem w254_1414 {x0 : Int32} {x1 : Int32} {r2 : Option Nat} {y3 : Int64} {r4 : Option Nat} {ls : List AV} : wp C 254 (n + 1) 1414 ls [aI x0, aI x1, aR r2, aL y3, aR r4] M b = (wp C 254 n 1415 ls [aI (x1 + x0), aR r2, aL y3, aR r4] M b) := (wp_s rfl rfl).trans rfl
set_option maxRecDepth 30000 in
theorem w254_1415 {x0 : Int32} {a1 : Nat} {y2 : Int64} {r3 : Option Nat} {ls : List AV} : wp C 254 (n + 1) 1415 ls [aI x0, aR (some a1), aL y2, aR r3] M b = ((a1 = 60 ∧ inb x0 (cL C)) ∧ wp C 254 n 1416 ls [aI (cS C (iN x0)), aL y2, aR r3] M b) := (wp_s rfl rfl).trans rfl
set_option maxRecDepth 30000 in
theorem w254_1416 {v0 : AV} {v1 : AV} {v2 : AV} {o3 : Option Nat} {x0 : Int32} {y1 : Int64} {r2 : Option Nat} {ls : List AV} : wp C 254 (n + 1) 1416 (v0 :: v1 :: v2 :: aR o3 :: ls) [aI x0, aL y1, aR r2] M b = (wp C 254 n 1417 (v0 :: v1 :: v2 :: aR o3 :: ls) [aR o3, aI x0, aL y1, aR r2] M b) := (wp_s rfl rfl).trans rfl
set_option maxRecDepth 30000 in
theorem w254_1417 {r0 : Option Nat} {x1 : Int32} {y2 : Int64} {r3 : Option Nat} {ls : List AV} : wp C 254 (n + 1) 1417 ls [aR r0, aI x1, aL y2, aR r3] M b = (CALL C 248 [aR r3, aL y2, aI x1, aR r0] M b (kR (wp C 254 n 1420 ls) []) (cX C)) := (wp_s (x := (.invokestatic 164, 3, 248, 4)) rfl rfl).trans (cs_row (by decide) (Nat.le_of_ble_eq_true rfl) (Nat.le_of_ble_eq_true rfl))
set_option maxRecDepth 30000 in
theorem w254_1420 {v0 : AV} {v1 : AV} {v2 : AV} {v3 : AV} {p4 : Int32} {v5 : AV} {x0 : Int32} {ls : List AV} : wp C 254 (n + 1) 1420 (v0 :: v1 :: v2 :: v3 :: aI p4 :: v5 :: ls) [aI x0] M b = (wp C 254 n 1422 (v0 :: v1 :: v2 :: v3 :: aI p4 :: aI x0 :: ls) [] M b) := (wp_s rfl rfl).trans rfl
set_option maxRecDepth 30000 in
theorem w254_1422 {v0 : AV} {v1 : AV} {o2 : Option Nat} {ls : List AV} : wp C 254 (n + 1) 1422 (v0 :: v1 :: aR o2 :: ls) [] M b = (wp C 254 n 1423 (v0 :: v1 :: aR o2 :: ls) [aR o2] M b) := (wp_s rfl rfl).trans rfl
set_option maxRecDepth 30000 in
theorem w254_1423 {o0 : Option Nat} {r0 : Option Nat} {ls : List AV} : wp C 254 (n + 1) 1423 (aR o0 :: ls) [aR r0] M b = (wp C 254 n 1424 (aR o0 :: ls) [aR o0, aR r0] M b) := (wp_s rfl rfl).trans rfl
set_option maxRecDepth 30000 in
theorem w254_1424 {v0 : AV} {v1 : AV} {v2 : AV} {v3 : AV} {p4 : Int32} {r0 : Option Nat} {r1 : Option Nat} {ls : List AV} : wp C 254 (n + 1) 1424 (v0 :: v1 :: v2 :: v3 :: aI p4 :: ls) [aR r0, aR r1] M b = (wp C 254 n 1426 (v0 :: v1 :: v2 :: v3 :: aI p4 :: ls) [aI p4, aR r0, aR r1] M b) := (wp_s rfl rfl).trans rfl
set_option maxRecDepth 30000 in
theorem w254_1426 {x0 : Int32} {r1 : Option Nat} {r2 : Option Nat} {ls : List AV} : wp C 254 (n + 1) 1426 ls [aI x0, aR r1, aR r2] M b = (wp C 254 n 1427 ls [aI (iZ 1), aI x0, aR r1, aR r2] M b) := (wp_s rfl rfl).trans rfl
set_option maxRecDepth 30000 in
theorem w254_1427 {x0 : Int32} {x1 : Int32} {r2 : Option Nat} {r3 : Option Nat} {ls : List AV} : wp C 254 (n + 1) 1427 ls [aI x0, aI x1, aR r2, aR r3] M b = (wp C 254 n 1428 ls [aI (x1 + x0), aR r2, aR r3] M b) := (wp_s rfl rfl).trans rfl
set_option maxRecDepth 30000 in
theorem w254_1428 {x0 : Int32} {a1 : Nat} {r2 : Option Nat} {ls : List AV} : wp C 254 (n + 1) 1428 ls [aI x0, aR (some a1), aR r2] M b = ((a1 = 60 ∧ inb x0 (cL C)) ∧ wp C 254 n 1429 ls [aI (cS C (iN x0)), aR r2] M b) := (wp_s rfl rfl).trans rfl
set_option maxRecDepth 30000 in
theorem w254_1429 {x0 : Int32} {r1 : Option Nat} {ls : List AV} : wp C 254 (n + 1) 1429 ls [aI x0, aR r1] M b = (wp C 254 n 1430 ls [aL x0.toInt64, aR r1] M b) := (wp_s rfl rfl).trans rfl
set_option maxRecDepth 30000 in
theorem w254_1430 {y0 : Int64} {r1 : Option Nat} {ls : List AV} : wp C 254 (n + 1) 1430 ls [aL y0, aR r1] M b = (wp C 254 n 1432 ls [aI (iZ 32), aL y0, aR r1] M b) := (wp_s rfl rfl).trans rfl
set_option maxRecDepth 30000 in
theorem w254_1432 {x0 : Int32} {y1 : Int64} {r2 : Option Nat} {ls : List AV} : wp C 254 (n + 1) 1432 ls [aI x0, aL y1, aR r2] M b = (wp C 254 n 1433 ls [aL (y1 <<< (x0.toInt64 &&& 63)), aR r2] M b) := (wp_s rfl rfl).trans rfl
set_option maxRecDepth 30000 in
theorem w254_1433 {o0 : Option Nat} {y0 : Int64} {r1 : Option Nat} {ls : List AV} : wp C 254 (n + 1) 1433 (aR o0 :: ls) [aL y0, aR r1] M b = (wp C 254 n 1434 (aR o0 :: ls) [aR o0, aL y0, aR r1] M b) := (wp_s rfl rfl).trans rfl
set_option maxRecDepth 30000 in
theorem w254_1434 {v0 : AV} {v1 : AV} {v2 : AV} {v3 : AV} {p4 : Int32} {r0 : Option Nat} {y1 : Int64} {r2 : Option Nat} {ls : List AV} : wp C 254 (n + 1) 1434 (v0 :: v1 :: v2 :: v3 :: aI p4 :: ls) [aR r0, aL y1, aR r2] M b = (wp C 254 n 1436 (v0 :: v1 :: v2 :: v3 :: aI p4 :: ls) [aI p4, aR r0, aL y1, aR r2] M b) := (wp_s rfl rfl).trans rfl
set_option maxRecDepth 30000 in
theorem w254_1436 {x0 : Int32} {r1 : Option Nat} {y2 : Int64} {r3 : Option Nat} {ls : List AV} : wp C 254 (n + 1) 1436 ls [aI x0, aR r1, aL y2, aR r3] M b = (wp C 254 n 1437 ls [aI (iZ 2), aI x0, aR r1, aL y2, aR r3] M b) := (wp_s rfl rfl).trans rfl
set_option maxRecDepth 30000 in
theorem w254_1437 {x0 : Int32} {x1 : Int32} {r2 : Option Nat} {y3 : Int64} {r4 : Option Nat} {ls : List AV} : wp C 254 (n + 1) 1437 ls [aI x0, aI x1, aR r2, aL y3, aR r4] M b = (wp C 254 n 1438 ls [aI (x1 + x0), aR r2, aL y3, aR r4] M b) := (wp_s rfl rfl).trans rfl
set_option maxRecDepth 30000 in
theorem w254_1438 {x0 : Int32} {a1 : Nat} {y2 : Int64} {r3 : Option Nat} {ls : List AV} : wp C 254 (n + 1) 1438 ls [aI x0, aR (some a1), aL y2, aR r3] M b = ((a1 = 60 ∧ inb x0 (cL C)) ∧ wp C 254 n 1439 ls [aI (cS C (iN x0)), aL y2, aR r3] M b) := (wp_s rfl rfl).trans rfl
set_option maxRecDepth 30000 in
theorem w254_1439 {x0 : Int32} {y1 : Int64} {r2 : Option Nat} {ls : List AV} : wp C 254 (n + 1) 1439 ls [aI x0, aL y1, aR r2] M b = (wp C 254 n 1440 ls [aL x0.toInt64, aL y1, aR r2] M b) := (wp_s rfl rfl).trans rfl
set_option maxRecDepth 30000 in
theorem w254_1440 {y0 : Int64} {y1 : Int64} {r2 : Option Nat} {ls : List AV} : wp C 254 (n + 1) 1440 ls [aL y0, aL y1, aR r2] M b = (wp C 254 n 1443 ls [aL (jZ 4294967295), aL y0, aL y1, aR r2] M b) := (wp_s rfl rfl).trans rfl
set_option maxRecDepth 30000 in
theorem w254_1443 {y0 : Int64} {y1 : Int64} {y2 : Int64} {r3 : Option Nat} {ls : List AV} : wp C 254 (n + 1) 1443 ls [aL y0, aL y1, aL y2, aR r3] M b = (wp C 254 n 1444 ls [aL (y1 &&& y0), aL y2, aR r3] M b) := (wp_s rfl rfl).trans rfl
set_option maxRecDepth 30000 in
theorem w254_1444 {y0 : Int64} {y1 : Int64} {r2 : Option Nat} {ls : List AV} : wp C 254 (n + 1) 1444 ls [aL y0, aL y1, aR r2] M b = (wp C 254 n 1445 ls [aL (y1 ||| y0), aR r2] M b) := (wp_s rfl rfl).trans rfl
set_option maxRecDepth 30000 in
theorem w254_1445 {o0 : Option Nat} {y0 : Int64} {r1 : Option Nat} {ls : List AV} : wp C 254 (n + 1) 1445 (aR o0 :: ls) [aL y0, aR r1] M b = (wp C 254 n 1446 (aR o0 :: ls) [aR o0, aL y0, aR r1] M b) := (wp_s rfl rfl).trans rfl
set_option maxRecDepth 30000 in
theorem w254_1446 {v0 : AV} {v1 : AV} {v2 : AV} {v3 : AV} {p4 : Int32} {r0 : Option Nat} {y1 : Int64} {r2 : Option Nat} {ls : List AV} : wp C 254 (n + 1) 1446 (v0 :: v1 :: v2 :: v3 :: aI p4 :: ls) [aR r0, aL y1, aR r2] M b = (wp C 254 n 1448 (v0 :: v1 :: v2 :: v3 :: aI p4 :: ls) [aI p4, aR r0, aL y1, aR r2] M b) := (wp_s rfl rfl).trans rfl
set_option maxRecDepth 30000 in
theorem w254_1448 {x0 : Int32} {r1 : Option Nat} {y2 : Int64} {r3 : Option Nat} {ls : List AV} : wp C 254 (n + 1) 1448 ls [aI x0, aR r1, aL y2, aR r3] M b = (wp C 254 n 1449 ls [aI (iZ 3), aI x0, aR r1, aL y2, aR r3] M b) := (wp_s rfl rfl).trans rfl
set_option maxRecDepth 30000 in
theorem w254_1449 {x0 : Int32} {x1 : Int32} {r2 : Option Nat} {y3 : Int64} {r4 : Option Nat} {ls : List AV} : wp C 254 (n + 1) 1449 ls [aI x0, aI x1, aR r2, aL y3, aR r4] M b = (wp C 254 n 1450 ls [aI (x1 + x0), aR r2, aL y3, aR r4] M b) := (wp_s rfl rfl).trans rfl
set_option maxRecDepth 30000 in
theorem w254_1450 {x0 : Int32} {a1 : Nat} {y2 : Int64} {r3 : Option Nat} {ls : List AV} : wp C 254 (n + 1) 1450 ls [aI x0, aR (some a1), aL y2, aR r3] M b = ((a1 = 60 ∧ inb x0 (cL C)) ∧ wp C 254 n 1451 ls [aI (cS C (iN x0)), aL y2, aR r3] M b) := (wp_s rfl rfl).trans rfl
set_option maxRecDepth 30000 in
theorem w254_1451 {x0 : Int32} {y1 : Int64} {a2 : Nat} {ls : List AV} : wp C 254 (n + 1) 1451 ls [aI x0, aL y1, aR (some a2)] M b = (oB M a2 12 ∧ CALL C 87 [aR (some a2), aL y1, aI x0] M b (kR (wp C 254 n 1454 ls) []) (cX C)) := (wp_s (x := (.invokevirtual 167, 3, 87, 2)) rfl rfl).trans (cv_row (by decide) (Nat.le_of_ble_eq_true rfl) (Nat.le_of_ble_eq_true rfl) rfl)
set_option maxRecDepth 30000 in
theorem w254_1454 {v0 : AV} {v1 : AV} {v2 : AV} {v3 : AV} {v4 : AV} {p5 : Int32} {v6 : AV} {x0 : Int32} {ls : List AV} : wp C 254 (n + 1) 1454 (v0 :: v1 :: v2 :: v3 :: v4 :: aI p5 :: v6 :: ls) [aI x0] M b = (wp C 254 n 1456 (v0 :: v1 :: v2 :: v3 :: v4 :: aI p5 :: aI x0 :: ls) [] M b) := (wp_s rfl rfl).trans rfl
set_option maxRecDepth 30000 in
theorem w254_1456 {v0 : AV} {v1 : AV} {o2 : Option Nat} {ls : List AV} : wp C 254 (n + 1) 1456 (v0 :: v1 :: aR o2 :: ls) [] M b = (wp C 254 n 1457 (v0 :: v1 :: aR o2 :: ls) [aR o2] M b) := (wp_s rfl rfl).trans rfl
set_option maxRecDepth 30000 in
theorem w254_1457 {a0 : Nat} {ls : List AV} : wp C 254 (n + 1) 1457 ls [aR (some a0)] M b = (oB M a0 12 ∧ CALL C 19 [aR (some a0)] M b (kR (wp C 254 n 1460 ls) []) (cX C)) := (wp_s (x := (.invokevirtual 96, 3, 19, 0)) rfl rfl).trans (cv_row (by decide) (Nat.le_of_ble_eq_true rfl) (Nat.le_of_ble_eq_true rfl) rfl)
set_option maxRecDepth 30000 in
theorem w254_1460 {v0 : AV} {v1 : AV} {v2 : AV} {v3 : AV} {v4 : AV} {p5 : Int32} {x0 : Int32} {ls : List AV} : wp C 254 (n + 1) 1460 (v0 :: v1 :: v2 :: v3 :: v4 :: aI p5 :: ls) [aI x0] M b = (wp C 254 n 1462 (v0 :: v1 :: v2 :: v3 :: v4 :: aI p5 :: ls) [aI p5, aI x0] M b) := (wp_s rfl rfl).trans rfl
set_option maxRecDepth 30000 in
theorem w254_1462 {x0 : Int32} {x1 : Int32} {ls : List AV} : wp C 254 (n + 1) 1462 ls [aI x0, aI x1] M b = ((x1.toInt = x0.toInt → wp C 254 n 1467 ls [] M b) ∧ (¬ x1.toInt = x0.toInt → wp C 254 n 1465 ls [] M b)) := (wp_s (x := (.if_icmp .eq 5, 3, 1467, 0)) rfl rfl).trans ceq
set_option maxRecDepth 30000 in
theorem w254_1465 {ls : List AV} : wp C 254 (n + 1) 1465 ls [] M b = (wp C 254 n 1466 ls [aI (iZ 0)] M b) := (wp_s rfl rfl).trans rfl
set_option maxRecDepth 30000 in
theorem w254_1466 {x0 : Int32} {ls : List AV} : wp C 254 (n + 1) 1466 ls [aI x0] M b = (isB x0 ∧ cQ C (some (aI x0)) M) := (wp_s (x := (.ireturn, 1, 0, 0)) rfl rfl).trans (rt_Z rfl)
set_option maxRecDepth 30000 in
theorem w254_1467 {v0 : AV} {v1 : AV} {v2 : AV} {v3 : AV} {v4 : AV} {p5 : Int32} {ls : List AV} : wp C 254 (n + 1) 1467 (v0 :: v1 :: v2 :: v3 :: v4 :: aI p5 :: ls) [] M b = (wp C 254 n 1469 (v0 :: v1 :: v2 :: v3 :: v4 :: aI p5 :: ls) [aI p5] M b) := (wp_s rfl rfl).trans rfl
set_option maxRecDepth 30000 in
theorem w254_1469 {x0 : Int32} {ls : List AV} : wp C 254 (n + 1) 1469 ls [aI x0] M b = ((x0.toInt = 0 → wp C 254 n 1472 ls [] M b) ∧ (¬ x0.toInt = 0 → wp C 254 n 1484 ls [] M b)) := (wp_s (x := (.ifCond .ne 15, 3, 1484, 0)) rfl rfl).trans zne
set_option maxRecDepth 30000 in
theorem w254_1472 {v0 : AV} {v1 : AV} {v2 : AV} {o3 : Option Nat} {ls : List AV} : wp C 254 (n + 1) 1472 (v0 :: v1 :: v2 :: aR o3 :: ls) [] M b = (wp C 254 n 1473 (v0 :: v1 :: v2 :: aR o3 :: ls) [aR o3] M b) := (wp_s rfl rfl).trans rfl
set_option maxRecDepth 30000 in
theorem w254_1473 {r0 : Option Nat} {ls : List AV} : wp C 254 (n + 1) 1473 ls [aR r0] M b = (wp C 254 n 1474 ls [aI (iZ 0), aR r0] M b) := (wp_s rfl rfl).trans rfl
set_option maxRecDepth 30000 in
theorem w254_1474 {x0 : Int32} {a1 : Nat} {ls : List AV} : wp C 254 (n + 1) 1474 ls [aI x0, aR (some a1)] M b = (iA M a1 21 x0 ∧ wp C 254 n 1475 ls [aL (mJ M a1 (iN x0))] M b) := (wp_s rfl rfl).trans rfl
set_option maxRecDepth 30000 in
theorem w254_1475 {v0 : AV} {v1 : AV} {v2 : AV} {v3 : AV} {v4 : AV} {v5 : AV} {p6 : Int32} {y0 : Int64} {ls : List AV} : wp C 254 (n + 1) 1475 (v0 :: v1 :: v2 :: v3 :: v4 :: v5 :: aI p6 :: ls) [aL y0] M b = (wp C 254 n 1477 (v0 :: v1 :: v2 :: v3 :: v4 :: v5 :: aI p6 :: ls) [aI p6, aL y0] M b) := (wp_s rfl rfl).trans rfl
set_option maxRecDepth 30000 in
theorem w254_1477 {x0 : Int32} {y1 : Int64} {ls : List AV} : wp C 254 (n + 1) 1477 ls [aI x0, aL y1] M b = (wp C 254 n 1478 ls [aL x0.toInt64, aL y1] M b) := (wp_s rfl rfl).trans rfl
set_option maxRecDepth 30000 in
theorem w254_1478 {y0 : Int64} {y1 : Int64} {ls : List AV} : wp C 254 (n + 1) 1478 ls [aL y0, aL y1] M b = (wp C 254 n 1479 ls [aI (lg_cmp y1 y0)] M b) := (wp_s rfl rfl).trans rfl
set_option maxRecDepth 30000 in
theorem w254_1479 {x0 : Int32} {ls : List AV} : wp C 254 (n + 1) 1479 ls [aI x0] M b = ((x0.toInt = 0 → wp C 254 n 1484 ls [] M b) ∧ (¬ x0.toInt = 0 → wp C 254 n 1482 ls [] M b)) := (wp_s (x := (.ifCond .eq 5, 3, 1484, 0)) rfl rfl).trans zeq
set_option maxRecDepth 30000 in
theorem w254_1482 {ls : List AV} : wp C 254 (n + 1) 1482 ls [] M b = (wp C 254 n 1483 ls [aI (iZ 0)] M b) := (wp_s rfl rfl).trans rfl
set_option maxRecDepth 30000 in
theorem w254_1483 {x0 : Int32} {ls : List AV} : wp C 254 (n + 1) 1483 ls [aI x0] M b = (isB x0 ∧ cQ C (some (aI x0)) M) := (wp_s (x := (.ireturn, 1, 0, 0)) rfl rfl).trans (rt_Z rfl)
set_option maxRecDepth 30000 in
theorem w254_1484 {ls : List AV} : wp C 254 (n + 1) 1484 ls [] M b = (wp C 254 n 1838 ls [] M b) := (wp_s rfl rfl).trans rfl
set_option maxRecDepth 30000 in
theorem w254_1487 {v0 : AV} {o1 : Option Nat} {ls : List AV} : wp C 254 (n + 1) 1487 (v0 :: aR o1 :: ls) [] M b = (wp C 254 n 1488 (v0 :: aR o1 :: ls) [aR o1] M b) := (wp_s rfl rfl).trans rfl
set_option maxRecDepth 30000 in
theorem w254_1488 {o0 : Option Nat} {r0 : Option Nat} {ls : List AV} : wp C 254 (n + 1) 1488 (aR o0 :: ls) [aR r0] M b = (wp C 254 n 1489 (aR o0 :: ls) [aR o0, aR r0] M b) := (wp_s rfl rfl).trans rfl
set_option maxRecDepth 30000 in
theorem w254_1489 {v0 : AV} {v1 : AV} {v2 : AV} {v3 : AV} {p4 : Int32} {r0 : Option Nat} {r1 : Option Nat} {ls : List AV} : wp C 254 (n + 1) 1489 (v0 :: v1 :: v2 :: v3 :: aI p4 :: ls) [aR r0, aR r1] M b = (wp C 254 n 1491 (v0 :: v1 :: v2 :: v3 :: aI p4 :: ls) [aI p4, aR r0, aR r1] M b) := (wp_s rfl rfl).trans rfl
set_option maxRecDepth 30000 in
theorem w254_1491 {x0 : Int32} {r1 : Option Nat} {r2 : Option Nat} {ls : List AV} : wp C 254 (n + 1) 1491 ls [aI x0, aR r1, aR r2] M b = (wp C 254 n 1492 ls [aI (iZ 1), aI x0, aR r1, aR r2] M b) := (wp_s rfl rfl).trans rfl
set_option maxRecDepth 30000 in
theorem w254_1492 {x0 : Int32} {x1 : Int32} {r2 : Option Nat} {r3 : Option Nat} {ls : List AV} : wp C 254 (n + 1) 1492 ls [aI x0, aI x1, aR r2, aR r3] M b = (wp C 254 n 1493 ls [aI (x1 + x0), aR r2, aR r3] M b) := (wp_s rfl rfl).trans rfl
set_option maxRecDepth 30000 in
theorem w254_1493 {x0 : Int32} {a1 : Nat} {r2 : Option Nat} {ls : List AV} : wp C 254 (n + 1) 1493 ls [aI x0, aR (some a1), aR r2] M b = ((a1 = 60 ∧ inb x0 (cL C)) ∧ wp C 254 n 1494 ls [aI (cS C (iN x0)), aR r2] M b) := (wp_s rfl rfl).trans rfl
set_option maxRecDepth 30000 in
theorem w254_1494 {v0 : AV} {v1 : AV} {v2 : AV} {o3 : Option Nat} {x0 : Int32} {r1 : Option Nat} {ls : List AV} : wp C 254 (n + 1) 1494 (v0 :: v1 :: v2 :: aR o3 :: ls) [aI x0, aR r1] M b = (wp C 254 n 1495 (v0 :: v1 :: v2 :: aR o3 :: ls) [aR o3, aI x0, aR r1] M b) := (wp_s rfl rfl).trans rfl
set_option maxRecDepth 30000 in
theorem w254_1495 {r0 : Option Nat} {x1 : Int32} {r2 : Option Nat} {ls : List AV} : wp C 254 (n + 1) 1495 ls [aR r0, aI x1, aR r2] M b = (CALL C 249 [aR r2, aI x1, aR r0] M b (kR (wp C 254 n 1498 ls) []) (cX C)) := (wp_s (x := (.invokestatic 168, 3, 249, 3)) rfl rfl).trans (cs_row (by decide) (Nat.le_of_ble_eq_true rfl) (Nat.le_of_ble_eq_true rfl))
set_option maxRecDepth 30000 in
theorem w254_1498 {v0 : AV} {v1 : AV} {v2 : AV} {v3 : AV} {p4 : Int32} {v5 : AV} {x0 : Int32} {ls : List AV} : wp C 254 (n + 1) 1498 (v0 :: v1 :: v2 :: v3 :: aI p4 :: v5 :: ls) [aI x0] M b = (wp C 254 n 1500 (v0 :: v1 :: v2 :: v3 :: aI p4 :: aI x0 :: ls) [] M b) := (wp_s rfl rfl).trans rfl
set_option maxRecDepth 30000 in
theorem w254_1500 {v0 : AV} {v1 : AV} {o2 : Option Nat} {ls : List AV} : wp C 254 (n + 1) 1500 (v0 :: v1 :: aR o2 :: ls) [] M b = (wp C 254 n 1501 (v0 :: v1 :: aR o2 :: ls) [aR o2] M b) := (wp_s rfl rfl).trans rfl
set_option maxRecDepth 30000 in
theorem w254_1501 {o0 : Option Nat} {r0 : Option Nat} {ls : List AV} : wp C 254 (n + 1) 1501 (aR o0 :: ls) [aR r0] M b = (wp C 254 n 1502 (aR o0 :: ls) [aR o0, aR r0] M b) := (wp_s rfl rfl).trans rfl
set_option maxRecDepth 30000 in
theorem w254_1502 {v0 : AV} {v1 : AV} {v2 : AV} {v3 : AV} {p4 : Int32} {r0 : Option Nat} {r1 : Option Nat} {ls : List AV} : wp C 254 (n + 1) 1502 (v0 :: v1 :: v2 :: v3 :: aI p4 :: ls) [aR r0, aR r1] M b = (wp C 254 n 1504 (v0 :: v1 :: v2 :: v3 :: aI p4 :: ls) [aI p4, aR r0, aR r1] M b) := (wp_s rfl rfl).trans rfl
set_option maxRecDepth 30000 in
theorem w254_1504 {x0 : Int32} {r1 : Option Nat} {r2 : Option Nat} {ls : List AV} : wp C 254 (n + 1) 1504 ls [aI x0, aR r1, aR r2] M b = (wp C 254 n 1505 ls [aI (iZ 1), aI x0, aR r1, aR r2] M b) := (wp_s rfl rfl).trans rfl
set_option maxRecDepth 30000 in
theorem w254_1505 {x0 : Int32} {x1 : Int32} {r2 : Option Nat} {r3 : Option Nat} {ls : List AV} : wp C 254 (n + 1) 1505 ls [aI x0, aI x1, aR r2, aR r3] M b = (wp C 254 n 1506 ls [aI (x1 + x0), aR r2, aR r3] M b) := (wp_s rfl rfl).trans rfl
set_option maxRecDepth 30000 in
theorem w254_1506 {x0 : Int32} {a1 : Nat} {r2 : Option Nat} {ls : List AV} : wp C 254 (n + 1) 1506 ls [aI x0, aR (some a1), aR r2] M b = ((a1 = 60 ∧ inb x0 (cL C)) ∧ wp C 254 n 1507 ls [aI (cS C (iN x0)), aR r2] M b) := (wp_s rfl rfl).trans rfl
set_option maxRecDepth 30000 in
theorem w254_1507 {x0 : Int32} {a1 : Nat} {ls : List AV} : wp C 254 (n + 1) 1507 ls [aI x0, aR (some a1)] M b = (oB M a1 12 ∧ CALL C 88 [aR (some a1), aI x0] M b (kR (wp C 254 n 1510 ls) []) (cX C)) := (wp_s (x := (.invokevirtual 170, 3, 88, 1)) rfl rfl).trans (cv_row (by decide) (Nat.le_of_ble_eq_true rfl) (Nat.le_of_ble_eq_true rfl) rfl)
set_option maxRecDepth 30000 in
theorem w254_1510 {v0 : AV} {v1 : AV} {v2 : AV} {v3 : AV} {v4 : AV} {p5 : Int32} {v6 : AV} {x0 : Int32} {ls : List AV} : wp C 254 (n + 1) 1510 (v0 :: v1 :: v2 :: v3 :: v4 :: aI p5 :: v6 :: ls) [aI x0] M b = (wp C 254 n 1512 (v0 :: v1 :: v2 :: v3 :: v4 :: aI p5 :: aI x0 :: ls) [] M b) := (wp_s rfl rfl).trans rfl
set_option maxRecDepth 30000 in
theorem w254_1512 {v0 : AV} {v1 : AV} {o2 : Option Nat} {ls : List AV} : wp C 254 (n + 1) 1512 (v0 :: v1 :: aR o2 :: ls) [] M b = (wp C 254 n 1513 (v0 :: v1 :: aR o2 :: ls) [aR o2] M b) := (wp_s rfl rfl).trans rfl
set_option maxRecDepth 30000 in
theorem w254_1513 {a0 : Nat} {ls : List AV} : wp C 254 (n + 1) 1513 ls [aR (some a0)] M b = (oB M a0 12 ∧ CALL C 19 [aR (some a0)] M b (kR (wp C 254 n 1516 ls) []) (cX C)) := (wp_s (x := (.invokevirtual 96, 3, 19, 0)) rfl rfl).trans (cv_row (by decide) (Nat.le_of_ble_eq_true rfl) (Nat.le_of_ble_eq_true rfl) rfl)
set_option maxRecDepth 30000 in
theorem w254_1516 {v0 : AV} {v1 : AV} {v2 : AV} {v3 : AV} {v4 : AV} {p5 : Int32} {x0 : Int32} {ls : List AV} : wp C 254 (n + 1) 1516 (v0 :: v1 :: v2 :: v3 :: v4 :: aI p5 :: ls) [aI x0] M b = (wp C 254 n 1518 (v0 :: v1 :: v2 :: v3 :: v4 :: aI p5 :: ls) [aI p5, aI x0] M b) := (wp_s rfl rfl).trans rfl
set_option maxRecDepth 30000 in
theorem w254_1518 {x0 : Int32} {x1 : Int32} {ls : List AV} : wp C 254 (n + 1) 1518 ls [aI x0, aI x1] M b = ((x1.toInt = x0.toInt → wp C 254 n 1523 ls [] M b) ∧ (¬ x1.toInt = x0.toInt → wp C 254 n 1521 ls [] M b)) := (wp_s (x := (.if_icmp .eq 5, 3, 1523, 0)) rfl rfl).trans ceq
set_option maxRecDepth 30000 in
theorem w254_1521 {ls : List AV} : wp C 254 (n + 1) 1521 ls [] M b = (wp C 254 n 1522 ls [aI (iZ 0)] M b) := (wp_s rfl rfl).trans rfl
set_option maxRecDepth 30000 in
theorem w254_1522 {x0 : Int32} {ls : List AV} : wp C 254 (n + 1) 1522 ls [aI x0] M b = (isB x0 ∧ cQ C (some (aI x0)) M) := (wp_s (x := (.ireturn, 1, 0, 0)) rfl rfl).trans (rt_Z rfl)
set_option maxRecDepth 30000 in
theorem w254_1523 {v0 : AV} {v1 : AV} {v2 : AV} {v3 : AV} {v4 : AV} {p5 : Int32} {ls : List AV} : wp C 254 (n + 1) 1523 (v0 :: v1 :: v2 :: v3 :: v4 :: aI p5 :: ls) [] M b = (wp C 254 n 1525 (v0 :: v1 :: v2 :: v3 :: v4 :: aI p5 :: ls) [aI p5] M b) := (wp_s rfl rfl).trans rfl
set_option maxRecDepth 30000 in
theorem w254_1525 {x0 : Int32} {ls : List AV} : wp C 254 (n + 1) 1525 ls [aI x0] M b = ((x0.toInt = 0 → wp C 254 n 1528 ls [] M b) ∧ (¬ x0.toInt = 0 → wp C 254 n 1540 ls [] M b)) := (wp_s (x := (.ifCond .ne 15, 3, 1540, 0)) rfl rfl).trans zne
set_option maxRecDepth 30000 in
theorem w254_1528 {v0 : AV} {v1 : AV} {v2 : AV} {o3 : Option Nat} {ls : List AV} : wp C 254 (n + 1) 1528 (v0 :: v1 :: v2 :: aR o3 :: ls) [] M b = (wp C 254 n 1529 (v0 :: v1 :: v2 :: aR o3 :: ls) [aR o3] M b) := (wp_s rfl rfl).trans rfl
set_option maxRecDepth 30000 in
theorem w254_1529 {r0 : Option Nat} {ls : List AV} : wp C 254 (n + 1) 1529 ls [aR r0] M b = (wp C 254 n 1530 ls [aI (iZ 0), aR r0] M b) := (wp_s rfl rfl).trans rfl
set_option maxRecDepth 30000 in
theorem w254_1530 {x0 : Int32} {a1 : Nat} {ls : List AV} : wp C 254 (n + 1) 1530 ls [aI x0, aR (some a1)] M b = (iA M a1 21 x0 ∧ wp C 254 n 1531 ls [aL (mJ M a1 (iN x0))] M b) := (wp_s rfl rfl).trans rfl
set_option maxRecDepth 30000 in
theorem w254_1531 {v0 : AV} {v1 : AV} {v2 : AV} {v3 : AV} {v4 : AV} {v5 : AV} {p6 : Int32} {y0 : Int64} {ls : List AV} : wp C 254 (n + 1) 1531 (v0 :: v1 :: v2 :: v3 :: v4 :: v5 :: aI p6 :: ls) [aL y0] M b = (wp C 254 n 1533 (v0 :: v1 :: v2 :: v3 :: v4 :: v5 :: aI p6 :: ls) [aI p6, aL y0] M b) := (wp_s rfl rfl).trans rfl
set_option maxRecDepth 30000 in
theorem w254_1533 {x0 : Int32} {y1 : Int64} {ls : List AV} : wp C 254 (n + 1) 1533 ls [aI x0, aL y1] M b = (wp C 254 n 1534 ls [aL x0.toInt64, aL y1] M b) := (wp_s rfl rfl).trans rfl
set_option maxRecDepth 30000 in
theorem w254_1534 {y0 : Int64} {y1 : Int64} {ls : List AV} : wp C 254 (n + 1) 1534 ls [aL y0, aL y1] M b = (wp C 254 n 1535 ls [aI (lg_cmp y1 y0)] M b) := (wp_s rfl rfl).trans rfl
set_option maxRecDepth 30000 in
theorem w254_1535 {x0 : Int32} {ls : List AV} : wp C 254 (n + 1) 1535 ls [aI x0] M b = ((x0.toInt = 0 → wp C 254 n 1540 ls [] M b) ∧ (¬ x0.toInt = 0 → wp C 254 n 1538 ls [] M b)) := (wp_s (x := (.ifCond .eq 5, 3, 1540, 0)) rfl rfl).trans zeq
set_option maxRecDepth 30000 in
theorem w254_1538 {ls : List AV} : wp C 254 (n + 1) 1538 ls [] M b = (wp C 254 n 1539 ls [aI (iZ 0)] M b) := (wp_s rfl rfl).trans rfl
set_option maxRecDepth 30000 in
theorem w254_1539 {x0 : Int32} {ls : List AV} : wp C 254 (n + 1) 1539 ls [aI x0] M b = (isB x0 ∧ cQ C (some (aI x0)) M) := (wp_s (x := (.ireturn, 1, 0, 0)) rfl rfl).trans (rt_Z rfl)
set_option maxRecDepth 30000 in
theorem w254_1540 {ls : List AV} : wp C 254 (n + 1) 1540 ls [] M b = (wp C 254 n 1838 ls [] M b) := (wp_s rfl rfl).trans rfl
set_option maxRecDepth 30000 in
theorem w254_1543 {v0 : AV} {o1 : Option Nat} {ls : List AV} : wp C 254 (n + 1) 1543 (v0 :: aR o1 :: ls) [] M b = (wp C 254 n 1544 (v0 :: aR o1 :: ls) [aR o1] M b) := (wp_s rfl rfl).trans rfl
set_option maxRecDepth 30000 in
theorem w254_1544 {o0 : Option Nat} {r0 : Option Nat} {ls : List AV} : wp C 254 (n + 1) 1544 (aR o0 :: ls) [aR r0] M b = (wp C 254 n 1545 (aR o0 :: ls) [aR o0, aR r0] M b) := (wp_s rfl rfl).trans rfl
set_option maxRecDepth 30000 in
theorem w254_1545 {v0 : AV} {v1 : AV} {v2 : AV} {v3 : AV} {p4 : Int32} {r0 : Option Nat} {r1 : Option Nat} {ls : List AV} : wp C 254 (n + 1) 1545 (v0 :: v1 :: v2 :: v3 :: aI p4 :: ls) [aR r0, aR r1] M b = (wp C 254 n 1547 (v0 :: v1 :: v2 :: v3 :: aI p4 :: ls) [aI p4, aR r0, aR r1] M b) := (wp_s rfl rfl).trans rfl
set_option maxRecDepth 30000 in
theorem w254_1547 {x0 : Int32} {r1 : Option Nat} {r2 : Option Nat} {ls : List AV} : wp C 254 (n + 1) 1547 ls [aI x0, aR r1, aR r2] M b = (wp C 254 n 1548 ls [aI (iZ 1), aI x0, aR r1, aR r2] M b) := (wp_s rfl rfl).trans rfl
set_option maxRecDepth 30000 in
theorem w254_1548 {x0 : Int32} {x1 : Int32} {r2 : Option Nat} {r3 : Option Nat} {ls : List AV} : wp C 254 (n + 1) 1548 ls [aI x0, aI x1, aR r2, aR r3] M b = (wp C 254 n 1549 ls [aI (x1 + x0), aR r2, aR r3] M b) := (wp_s rfl rfl).trans rfl
set_option maxRecDepth 30000 in
theorem w254_1549 {x0 : Int32} {a1 : Nat} {r2 : Option Nat} {ls : List AV} : wp C 254 (n + 1) 1549 ls [aI x0, aR (some a1), aR r2] M b = ((a1 = 60 ∧ inb x0 (cL C)) ∧ wp C 254 n 1550 ls [aI (cS C (iN x0)), aR r2] M b) := (wp_s rfl rfl).trans rfl
set_option maxRecDepth 30000 in
theorem w254_1550 {o0 : Option Nat} {x0 : Int32} {r1 : Option Nat} {ls : List AV} : wp C 254 (n + 1) 1550 (aR o0 :: ls) [aI x0, aR r1] M b = (wp C 254 n 1551 (aR o0 :: ls) [aR o0, aI x0, aR r1] M b) := (wp_s rfl rfl).trans rfl
set_option maxRecDepth 30000 in
theorem w254_1551 {v0 : AV} {v1 : AV} {v2 : AV} {v3 : AV} {p4 : Int32} {r0 : Option Nat} {x1 : Int32} {r2 : Option Nat} {ls : List AV} : wp C 254 (n + 1) 1551 (v0 :: v1 :: v2 :: v3 :: aI p4 :: ls) [aR r0, aI x1, aR r2] M b = (wp C 254 n 1553 (v0 :: v1 :: v2 :: v3 :: aI p4 :: ls) [aI p4, aR r0, aI x1, aR r2] M b) := (wp_s rfl rfl).trans rfl
set_option maxRecDepth 30000 in
theorem w254_1553 {x0 : Int32} {r1 : Option Nat} {x2 : Int32} {r3 : Option Nat} {ls : List AV} : wp C 254 (n + 1) 1553 ls [aI x0, aR r1, aI x2, aR r3] M b = (wp C 254 n 1554 ls [aI (iZ 2), aI x0, aR r1, aI x2, aR r3] M b) := (wp_s rfl rfl).trans rfl
set_option maxRecDepth 30000 in
theorem w254_1554 {x0 : Int32} {x1 : Int32} {r2 : Option Nat} {x3 : Int32} {r4 : Option Nat} {ls : List AV} : wp C 254 (n + 1) 1554 ls [aI x0, aI x1, aR r2, aI x3, aR r4] M b = (wp C 254 n 1555 ls [aI (x1 + x0), aR r2, aI x3, aR r4] M b) := (wp_s rfl rfl).trans rfl
set_option maxRecDepth 30000 in
theorem w254_1555 {x0 : Int32} {a1 : Nat} {x2 : Int32} {r3 : Option Nat} {ls : List AV} : wp C 254 (n + 1) 1555 ls [aI x0, aR (some a1), aI x2, aR r3] M b = ((a1 = 60 ∧ inb x0 (cL C)) ∧ wp C 254 n 1556 ls [aI (cS C (iN x0)), aI x2, aR r3] M b) := (wp_s rfl rfl).trans rfl
set_option maxRecDepth 30000 in
theorem w254_1556 {o0 : Option Nat} {x0 : Int32} {x1 : Int32} {r2 : Option Nat} {ls : List AV} : wp C 254 (n + 1) 1556 (aR o0 :: ls) [aI x0, aI x1, aR r2] M b = (wp C 254 n 1557 (aR o0 :: ls) [aR o0, aI x0, aI x1, aR r2] M b) := (wp_s rfl rfl).trans rfl
set_option maxRecDepth 30000 in
theorem w254_1557 {v0 : AV} {v1 : AV} {v2 : AV} {v3 : AV} {p4 : Int32} {r0 : Option Nat} {x1 : Int32} {x2 : Int32} {r3 : Option Nat} {ls : List AV} : wp C 254 (n + 1) 1557 (v0 :: v1 :: v2 :: v3 :: aI p4 :: ls) [aR r0, aI x1, aI x2, aR r3] M b = (wp C 254 n 1559 (v0 :: v1 :: v2 :: v3 :: aI p4 :: ls) [aI p4, aR r0, aI x1, aI x2, aR r3] M b) := (wp_s rfl rfl).trans rfl
set_option maxRecDepth 30000 in
theorem w254_1559 {x0 : Int32} {r1 : Option Nat} {x2 : Int32} {x3 : Int32} {r4 : Option Nat} {ls : List AV} : wp C 254 (n + 1) 1559 ls [aI x0, aR r1, aI x2, aI x3, aR r4] M b = (wp C 254 n 1560 ls [aI (iZ 3), aI x0, aR r1, aI x2, aI x3, aR r4] M b) := (wp_s rfl rfl).trans rfl
set_option maxRecDepth 30000 in
theorem w254_1560 {x0 : Int32} {x1 : Int32} {r2 : Option Nat} {x3 : Int32} {x4 : Int32} {r5 : Option Nat} {ls : List AV} : wp C 254 (n + 1) 1560 ls [aI x0, aI x1, aR r2, aI x3, aI x4, aR r5] M b = (wp C 254 n 1561 ls [aI (x1 + x0), aR r2, aI x3, aI x4, aR r5] M b) := (wp_s rfl rfl).trans rfl
set_option maxRecDepth 30000 in
theorem w254_1561 {x0 : Int32} {a1 : Nat} {x2 : Int32} {x3 : Int32} {r4 : Option Nat} {ls : List AV} : wp C 254 (n + 1) 1561 ls [aI x0, aR (some a1), aI x2, aI x3, aR r4] M b = ((a1 = 60 ∧ inb x0 (cL C)) ∧ wp C 254 n 1562 ls [aI (cS C (iN x0)), aI x2, aI x3, aR r4] M b) := (wp_s rfl rfl).trans rfl
set_option maxRecDepth 30000 in
theorem w254_1562 {v0 : AV} {v1 : AV} {v2 : AV} {o3 : Option Nat} {x0 : Int32} {x1 : Int32} {x2 : Int32} {r3 : Option Nat} {ls : List AV} : wp C 254 (n + 1) 1562 (v0 :: v1 :: v2 :: aR o3 :: ls) [aI x0, aI x1, aI x2, aR r3] M b = (wp C 254 n 1563 (v0 :: v1 :: v2 :: aR o3 :: ls) [aR o3, aI x0, aI x1, aI x2, aR r3] M b) := (wp_s rfl rfl).trans rfl
set_option maxRecDepth 30000 in
theorem w254_1563 {r0 : Option Nat} {x1 : Int32} {x2 : Int32} {x3 : Int32} {r4 : Option Nat} {ls : List AV} : wp C 254 (n + 1) 1563 ls [aR r0, aI x1, aI x2, aI x3, aR r4] M b = (CALL C 250 [aR r4, aI x3, aI x2, aI x1, aR r0] M b (kR (wp C 254 n 1566 ls) []) (cX C)) := (wp_s (x := (.invokestatic 171, 3, 250, 5)) rfl rfl).trans (cs_row (by decide) (Nat.le_of_ble_eq_true rfl) (Nat.le_of_ble_eq_true rfl))
set_option maxRecDepth 30000 in
theorem w254_1566 {v0 : AV} {v1 : AV} {v2 : AV} {v3 : AV} {p4 : Int32} {v5 : AV} {x0 : Int32} {ls : List AV} : wp C 254 (n + 1) 1566 (v0 :: v1 :: v2 :: v3 :: aI p4 :: v5 :: ls) [aI x0] M b = (wp C 254 n 1568 (v0 :: v1 :: v2 :: v3 :: aI p4 :: aI x0 :: ls) [] M b) := (wp_s rfl rfl).trans rfl
set_option maxRecDepth 30000 in
theorem w254_1568 {v0 : AV} {v1 : AV} {o2 : Option Nat} {ls : List AV} : wp C 254 (n + 1) 1568 (v0 :: v1 :: aR o2 :: ls) [] M b = (wp C 254 n 1569 (v0 :: v1 :: aR o2 :: ls) [aR o2] M b) := (wp_s rfl rfl).trans rfl
set_option maxRecDepth 30000 in
theorem w254_1569 {o0 : Option Nat} {r0 : Option Nat} {ls : List AV} : wp C 254 (n + 1) 1569 (aR o0 :: ls) [aR r0] M b = (wp C 254 n 1570 (aR o0 :: ls) [aR o0, aR r0] M b) := (wp_s rfl rfl).trans rfl
set_option maxRecDepth 30000 in
theorem w254_1570 {v0 : AV} {v1 : AV} {v2 : AV} {v3 : AV} {p4 : Int32} {r0 : Option Nat} {r1 : Option Nat} {ls : List AV} : wp C 254 (n + 1) 1570 (v0 :: v1 :: v2 :: v3 :: aI p4 :: ls) [aR r0, aR r1] M b = (wp C 254 n 1572 (v0 :: v1 :: v2 :: v3 :: aI p4 :: ls) [aI p4, aR r0, aR r1] M b) := (wp_s rfl rfl).trans rfl
set_option maxRecDepth 30000 in
theorem w254_1572 {x0 : Int32} {r1 : Option Nat} {r2 : Option Nat} {ls : List AV} : wp C 254 (n + 1) 1572 ls [aI x0, aR r1, aR r2] M b = (wp C 254 n 1573 ls [aI (iZ 1), aI x0, aR r1, aR r2] M b) := (wp_s rfl rfl).trans rfl
set_option maxRecDepth 30000 in
theorem w254_1573 {x0 : Int32} {x1 : Int32} {r2 : Option Nat} {r3 : Option Nat} {ls : List AV} : wp C 254 (n + 1) 1573 ls [aI x0, aI x1, aR r2, aR r3] M b = (wp C 254 n 1574 ls [aI (x1 + x0), aR r2, aR r3] M b) := (wp_s rfl rfl).trans rfl
set_option maxRecDepth 30000 in
theorem w254_1574 {x0 : Int32} {a1 : Nat} {r2 : Option Nat} {ls : List AV} : wp C 254 (n + 1) 1574 ls [aI x0, aR (some a1), aR r2] M b = ((a1 = 60 ∧ inb x0 (cL C)) ∧ wp C 254 n 1575 ls [aI (cS C (iN x0)), aR r2] M b) := (wp_s rfl rfl).trans rfl
set_option maxRecDepth 30000 in
theorem w254_1575 {o0 : Option Nat} {x0 : Int32} {r1 : Option Nat} {ls : List AV} : wp C 254 (n + 1) 1575 (aR o0 :: ls) [aI x0, aR r1] M b = (wp C 254 n 1576 (aR o0 :: ls) [aR o0, aI x0, aR r1] M b) := (wp_s rfl rfl).trans rfl
set_option maxRecDepth 30000 in
theorem w254_1576 {v0 : AV} {v1 : AV} {v2 : AV} {v3 : AV} {p4 : Int32} {r0 : Option Nat} {x1 : Int32} {r2 : Option Nat} {ls : List AV} : wp C 254 (n + 1) 1576 (v0 :: v1 :: v2 :: v3 :: aI p4 :: ls) [aR r0, aI x1, aR r2] M b = (wp C 254 n 1578 (v0 :: v1 :: v2 :: v3 :: aI p4 :: ls) [aI p4, aR r0, aI x1, aR r2] M b) := (wp_s rfl rfl).trans rfl
set_option maxRecDepth 30000 in
theorem w254_1578 {x0 : Int32} {r1 : Option Nat} {x2 : Int32} {r3 : Option Nat} {ls : List AV} : wp C 254 (n + 1) 1578 ls [aI x0, aR r1, aI x2, aR r3] M b = (wp C 254 n 1579 ls [aI (iZ 2), aI x0, aR r1, aI x2, aR r3] M b) := (wp_s rfl rfl).trans rfl
set_option maxRecDepth 30000 in
theorem w254_1579 {x0 : Int32} {x1 : Int32} {r2 : Option Nat} {x3 : Int32} {r4 : Option Nat} {ls : List AV} : wp C 254 (n + 1) 1579 ls [aI x0, aI x1, aR r2, aI x3, aR r4] M b = (wp C 254 n 1580 ls [aI (x1 + x0), aR r2, aI x3, aR r4] M b) := (wp_s rfl rfl).trans rfl
set_option maxRecDepth 30000 in
theorem w254_1580 {x0 : Int32} {a1 : Nat} {x2 : Int32} {r3 : Option Nat} {ls : List AV} : wp C 254 (n + 1) 1580 ls [aI x0, aR (some a1), aI x2, aR r3] M b = ((a1 = 60 ∧ inb x0 (cL C)) ∧ wp C 254 n 1581 ls [aI (cS C (iN x0)), aI x2, aR r3] M b) := (wp_s rfl rfl).trans rfl
set_option maxRecDepth 30000 in
theorem w254_1581 {o0 : Option Nat} {x0 : Int32} {x1 : Int32} {r2 : Option Nat} {ls : List AV} : wp C 254 (n + 1) 1581 (aR o0 :: ls) [aI x0, aI x1, aR r2] M b = (wp C 254 n 1582 (aR o0 :: ls) [aR o0, aI x0, aI x1, aR r2] M b) := (wp_s rfl rfl).trans rfl
set_option maxRecDepth 30000 in
theorem w254_1582 {v0 : AV} {v1 : AV} {v2 : AV} {v3 : AV} {p4 : Int32} {r0 : Option Nat} {x1 : Int32} {x2 : Int32} {r3 : Option Nat} {ls : List AV} : wp C 254 (n + 1) 1582 (v0 :: v1 :: v2 :: v3 :: aI p4 :: ls) [aR r0, aI x1, aI x2, aR r3] M b = (wp C 254 n 1584 (v0 :: v1 :: v2 :: v3 :: aI p4 :: ls) [aI p4, aR r0, aI x1, aI x2, aR r3] M b) := (wp_s rfl rfl).trans rfl
set_option maxRecDepth 30000 in
theorem w254_1584 {x0 : Int32} {r1 : Option Nat} {x2 : Int32} {x3 : Int32} {r4 : Option Nat} {ls : List AV} : wp C 254 (n + 1) 1584 ls [aI x0, aR r1, aI x2, aI x3, aR r4] M b = (wp C 254 n 1585 ls [aI (iZ 3), aI x0, aR r1, aI x2, aI x3, aR r4] M b) := (wp_s rfl rfl).trans rfl
set_option maxRecDepth 30000 in
theorem w254_1585 {x0 : Int32} {x1 : Int32} {r2 : Option Nat} {x3 : Int32} {x4 : Int32} {r5 : Option Nat} {ls : List AV} : wp C 254 (n + 1) 1585 ls [aI x0, aI x1, aR r2, aI x3, aI x4, aR r5] M b = (wp C 254 n 1586 ls [aI (x1 + x0), aR r2, aI x3, aI x4, aR r5] M b) := (wp_s rfl rfl).trans rfl
set_option maxRecDepth 30000 in
theorem w254_1586 {x0 : Int32} {a1 : Nat} {x2 : Int32} {x3 : Int32} {r4 : Option Nat} {ls : List AV} : wp C 254 (n + 1) 1586 ls [aI x0, aR (some a1), aI x2, aI x3, aR r4] M b = ((a1 = 60 ∧ inb x0 (cL C)) ∧ wp C 254 n 1587 ls [aI (cS C (iN x0)), aI x2, aI x3, aR r4] M b) := (wp_s rfl rfl).trans rfl
set_option maxRecDepth 30000 in
theorem w254_1587 {x0 : Int32} {x1 : Int32} {x2 : Int32} {a3 : Nat} {ls : List AV} : wp C 254 (n + 1) 1587 ls [aI x0, aI x1, aI x2, aR (some a3)] M b = (oB M a3 12 ∧ CALL C 89 [aR (some a3), aI x2, aI x1, aI x0] M b (kR (wp C 254 n 1590 ls) []) (cX C)) := (wp_s (x := (.invokevirtual 173, 3, 89, 3)) rfl rfl).trans (cv_row (by decide) (Nat.le_of_ble_eq_true rfl) (Nat.le_of_ble_eq_true rfl) rfl)
set_option maxRecDepth 30000 in
theorem w254_1590 {v0 : AV} {v1 : AV} {v2 : AV} {v3 : AV} {v4 : AV} {p5 : Int32} {v6 : AV} {x0 : Int32} {ls : List AV} : wp C 254 (n + 1) 1590 (v0 :: v1 :: v2 :: v3 :: v4 :: aI p5 :: v6 :: ls) [aI x0] M b = (wp C 254 n 1592 (v0 :: v1 :: v2 :: v3 :: v4 :: aI p5 :: aI x0 :: ls) [] M b) := (wp_s rfl rfl).trans rfl
set_option maxRecDepth 30000 in
theorem w254_1592 {v0 : AV} {v1 : AV} {o2 : Option Nat} {ls : List AV} : wp C 254 (n + 1) 1592 (v0 :: v1 :: aR o2 :: ls) [] M b = (wp C 254 n 1593 (v0 :: v1 :: aR o2 :: ls) [aR o2] M b) := (wp_s rfl rfl).trans rfl
set_option maxRecDepth 30000 in
theorem w254_1593 {a0 : Nat} {ls : List AV} : wp C 254 (n + 1) 1593 ls [aR (some a0)] M b = (oB M a0 12 ∧ CALL C 19 [aR (some a0)] M b (kR (wp C 254 n 1596 ls) []) (cX C)) := (wp_s (x := (.invokevirtual 96, 3, 19, 0)) rfl rfl).trans (cv_row (by decide) (Nat.le_of_ble_eq_true rfl) (Nat.le_of_ble_eq_true rfl) rfl)
set_option maxRecDepth 30000 in
theorem w254_1596 {v0 : AV} {v1 : AV} {v2 : AV} {v3 : AV} {v4 : AV} {p5 : Int32} {x0 : Int32} {ls : List AV} : wp C 254 (n + 1) 1596 (v0 :: v1 :: v2 :: v3 :: v4 :: aI p5 :: ls) [aI x0] M b = (wp C 254 n 1598 (v0 :: v1 :: v2 :: v3 :: v4 :: aI p5 :: ls) [aI p5, aI x0] M b) := (wp_s rfl rfl).trans rfl
set_option maxRecDepth 30000 in
theorem w254_1598 {x0 : Int32} {x1 : Int32} {ls : List AV} : wp C 254 (n + 1) 1598 ls [aI x0, aI x1] M b = ((x1.toInt = x0.toInt → wp C 254 n 1603 ls [] M b) ∧ (¬ x1.toInt = x0.toInt → wp C 254 n 1601 ls [] M b)) := (wp_s (x := (.if_icmp .eq 5, 3, 1603, 0)) rfl rfl).trans ceq
set_option maxRecDepth 30000 in
theorem w254_1601 {ls : List AV} : wp C 254 (n + 1) 1601 ls [] M b = (wp C 254 n 1602 ls [aI (iZ 0)] M b) := (wp_s rfl rfl).trans rfl
set_option maxRecDepth 30000 in
theorem w254_1602 {x0 : Int32} {ls : List AV} : wp C 254 (n + 1) 1602 ls [aI x0] M b = (isB x0 ∧ cQ C (some (aI x0)) M) := (wp_s (x := (.ireturn, 1, 0, 0)) rfl rfl).trans (rt_Z rfl)
set_option maxRecDepth 30000 in
theorem w254_1603 {v0 : AV} {v1 : AV} {v2 : AV} {v3 : AV} {v4 : AV} {p5 : Int32} {ls : List AV} : wp C 254 (n + 1) 1603 (v0 :: v1 :: v2 :: v3 :: v4 :: aI p5 :: ls) [] M b = (wp C 254 n 1605 (v0 :: v1 :: v2 :: v3 :: v4 :: aI p5 :: ls) [aI p5] M b) := (wp_s rfl rfl).trans rfl
set_option maxRecDepth 30000 in
theorem w254_1605 {x0 : Int32} {ls : List AV} : wp C 254 (n + 1) 1605 ls [aI x0] M b = ((x0.toInt = 0 → wp C 254 n 1608 ls [] M b) ∧ (¬ x0.toInt = 0 → wp C 254 n 1620 ls [] M b)) := (wp_s (x := (.ifCond .ne 15, 3, 1620, 0)) rfl rfl).trans zne
set_option maxRecDepth 30000 in
theorem w254_1608 {v0 : AV} {v1 : AV} {v2 : AV} {o3 : Option Nat} {ls : List AV} : wp C 254 (n + 1) 1608 (v0 :: v1 :: v2 :: aR o3 :: ls) [] M b = (wp C 254 n 1609 (v0 :: v1 :: v2 :: aR o3 :: ls) [aR o3] M b) := (wp_s rfl rfl).trans rfl
set_option maxRecDepth 30000 in
theorem w254_1609 {r0 : Option Nat} {ls : List AV} : wp C 254 (n + 1) 1609 ls [aR r0] M b = (wp C 254 n 1610 ls [aI (iZ 0), aR r0] M b) := (wp_s rfl rfl).trans rfl
set_option maxRecDepth 30000 in
theorem w254_1610 {x0 : Int32} {a1 : Nat} {ls : List AV} : wp C 254 (n + 1) 1610 ls [aI x0, aR (some a1)] M b = (iA M a1 21 x0 ∧ wp C 254 n 1611 ls [aL (mJ M a1 (iN x0))] M b) := (wp_s rfl rfl).trans rfl
set_option maxRecDepth 30000 in
theorem w254_1611 {v0 : AV} {v1 : AV} {v2 : AV} {v3 : AV} {v4 : AV} {v5 : AV} {p6 : Int32} {y0 : Int64} {ls : List AV} : wp C 254 (n + 1) 1611 (v0 :: v1 :: v2 :: v3 :: v4 :: v5 :: aI p6 :: ls) [aL y0] M b = (wp C 254 n 1613 (v0 :: v1 :: v2 :: v3 :: v4 :: v5 :: aI p6 :: ls) [aI p6, aL y0] M b) := (wp_s rfl rfl).trans rfl
set_option maxRecDepth 30000 in
theorem w254_1613 {x0 : Int32} {y1 : Int64} {ls : List AV} : wp C 254 (n + 1) 1613 ls [aI x0, aL y1] M b = (wp C 254 n 1614 ls [aL x0.toInt64, aL y1] M b) := (wp_s rfl rfl).trans rfl
set_option maxRecDepth 30000 in
theorem w254_1614 {y0 : Int64} {y1 : Int64} {ls : List AV} : wp C 254 (n + 1) 1614 ls [aL y0, aL y1] M b = (wp C 254 n 1615 ls [aI (lg_cmp y1 y0)] M b) := (wp_s rfl rfl).trans rfl
set_option maxRecDepth 30000 in
theorem w254_1615 {x0 : Int32} {ls : List AV} : wp C 254 (n + 1) 1615 ls [aI x0] M b = ((x0.toInt = 0 → wp C 254 n 1620 ls [] M b) ∧ (¬ x0.toInt = 0 → wp C 254 n 1618 ls [] M b)) := (wp_s (x := (.ifCond .eq 5, 3, 1620, 0)) rfl rfl).trans zeq
set_option maxRecDepth 30000 in
theorem w254_1618 {ls : List AV} : wp C 254 (n + 1) 1618 ls [] M b = (wp C 254 n 1619 ls [aI (iZ 0)] M b) := (wp_s rfl rfl).trans rfl
set_option maxRecDepth 30000 in
theorem w254_1619 {x0 : Int32} {ls : List AV} : wp C 254 (n + 1) 1619 ls [aI x0] M b = (isB x0 ∧ cQ C (some (aI x0)) M) := (wp_s (x := (.ireturn, 1, 0, 0)) rfl rfl).trans (rt_Z rfl)
set_option maxRecDepth 30000 in
theorem w254_1620 {ls : List AV} : wp C 254 (n + 1) 1620 ls [] M b = (wp C 254 n 1838 ls [] M b) := (wp_s rfl rfl).trans rfl
set_option maxRecDepth 30000 in
theorem w254_1623 {v0 : AV} {o1 : Option Nat} {ls : List AV} : wp C 254 (n + 1) 1623 (v0 :: aR o1 :: ls) [] M b = (wp C 254 n 1624 (v0 :: aR o1 :: ls) [aR o1] M b) := (wp_s rfl rfl).trans rfl
set_option maxRecDepth 30000 in
theorem w254_1624 {o0 : Option Nat} {r0 : Option Nat} {ls : List AV} : wp C 254 (n + 1) 1624 (aR o0 :: ls) [aR r0] M b = (wp C 254 n 1625 (aR o0 :: ls) [aR o0, aR r0] M b) := (wp_s rfl rfl).trans rfl
set_option maxRecDepth 30000 in
theorem w254_1625 {v0 : AV} {v1 : AV} {v2 : AV} {v3 : AV} {p4 : Int32} {r0 : Option Nat} {r1 : Option Nat} {ls : List AV} : wp C 254 (n + 1) 1625 (v0 :: v1 :: v2 :: v3 :: aI p4 :: ls) [aR r0, aR r1] M b = (wp C 254 n 1627 (v0 :: v1 :: v2 :: v3 :: aI p4 :: ls) [aI p4, aR r0, aR r1] M b) := (wp_s rfl rfl).trans rfl
set_option maxRecDepth 30000 in
theorem w254_1627 {x0 : Int32} {r1 : Option Nat} {r2 : Option Nat} {ls : List AV} : wp C 254 (n + 1) 1627 ls [aI x0, aR r1, aR r2] M b = (wp C 254 n 1628 ls [aI (iZ 1), aI x0, aR r1, aR r2] M b) := (wp_s rfl rfl).trans rfl
set_option maxRecDepth 30000 in
theorem w254_1628 {x0 : Int32} {x1 : Int32} {r2 : Option Nat} {r3 : Option Nat} {ls : List AV} : wp C 254 (n + 1) 1628 ls [aI x0, aI x1, aR r2, aR r3] M b = (wp C 254 n 1629 ls [aI (x1 + x0), aR r2, aR r3] M b) := (wp_s rfl rfl).trans rfl
set_option maxRecDepth 30000 in
theorem w254_1629 {x0 : Int32} {a1 : Nat} {r2 : Option Nat} {ls : List AV} : wp C 254 (n + 1) 1629 ls [aI x0, aR (some a1), aR r2] M b = ((a1 = 60 ∧ inb x0 (cL C)) ∧ wp C 254 n 1630 ls [aI (cS C (iN x0)), aR r2] M b) := (wp_s rfl rfl).trans rfl
set_option maxRecDepth 30000 in
theorem w254_1630 {o0 : Option Nat} {x0 : Int32} {r1 : Option Nat} {ls : List AV} : wp C 254 (n + 1) 1630 (aR o0 :: ls) [aI x0, aR r1] M b = (wp C 254 n 1631 (aR o0 :: ls) [aR o0, aI x0, aR r1] M b) := (wp_s rfl rfl).trans rfl
set_option maxRecDepth 30000 in
theorem w254_1631 {v0 : AV} {v1 : AV} {v2 : AV} {v3 : AV} {p4 : Int32} {r0 : Option Nat} {x1 : Int32} {r2 : Option Nat} {ls : List AV} : wp C 254 (n + 1) 1631 (v0 :: v1 :: v2 :: v3 :: aI p4 :: ls) [aR r0, aI x1, aR r2] M b = (wp C 254 n 1633 (v0 :: v1 :: v2 :: v3 :: aI p4 :: ls) [aI p4, aR r0, aI x1, aR r2] M b) := (wp_s rfl rfl).trans rfl
set_option maxRecDepth 30000 in
theorem w254_1633 {x0 : Int32} {r1 : Option Nat} {x2 : Int32} {r3 : Option Nat} {ls : List AV} : wp C 254 (n + 1) 1633 ls [aI x0, aR r1, aI x2, aR r3] M b = (wp C 254 n 1634 ls [aI (iZ 2), aI x0, aR r1, aI x2, aR r3] M b) := (wp_s rfl rfl).trans rfl
set_option maxRecDepth 30000 in
theorem w254_1634 {x0 : Int32} {x1 : Int32} {r2 : Option Nat} {x3 : Int32} {r4 : Option Nat} {ls : List AV} : wp C 254 (n + 1) 1634 ls [aI x0, aI x1, aR r2, aI x3, aR r4] M b = (wp C 254 n 1635 ls [aI (x1 + x0), aR r2, aI x3, aR r4] M b) := (wp_s rfl rfl).trans rfl
set_option maxRecDepth 30000 in
theorem w254_1635 {x0 : Int32} {a1 : Nat} {x2 : Int32} {r3 : Option Nat} {ls : List AV} : wp C 254 (n + 1) 1635 ls [aI x0, aR (some a1), aI x2, aR r3] M b = ((a1 = 60 ∧ inb x0 (cL C)) ∧ wp C 254 n 1636 ls [aI (cS C (iN x0)), aI x2, aR r3] M b) := (wp_s rfl rfl).trans rfl
set_option maxRecDepth 30000 in
theorem w254_1636 {o0 : Option Nat} {x0 : Int32} {x1 : Int32} {r2 : Option Nat} {ls : List AV} : wp C 254 (n + 1) 1636 (aR o0 :: ls) [aI x0, aI x1, aR r2] M b = (wp C 254 n 1637 (aR o0 :: ls) [aR o0, aI x0, aI x1, aR r2] M b) := (wp_s rfl rfl).trans rfl
set_option maxRecDepth 30000 in
theorem w254_1637 {v0 : AV} {v1 : AV} {v2 : AV} {v3 : AV} {p4 : Int32} {r0 : Option Nat} {x1 : Int32} {x2 : Int32} {r3 : Option Nat} {ls : List AV} : wp C 254 (n + 1) 1637 (v0 :: v1 :: v2 :: v3 :: aI p4 :: ls) [aR r0, aI x1, aI x2, aR r3] M b = (wp C 254 n 1639 (v0 :: v1 :: v2 :: v3 :: aI p4 :: ls) [aI p4, aR r0, aI x1, aI x2, aR r3] M b) := (wp_s rfl rfl).trans rfl
set_option maxRecDepth 30000 in
theorem w254_1639 {x0 : Int32} {r1 : Option Nat} {x2 : Int32} {x3 : Int32} {r4 : Option Nat} {ls : List AV} : wp C 254 (n + 1) 1639 ls [aI x0, aR r1, aI x2, aI x3, aR r4] M b = (wp C 254 n 1640 ls [aI (iZ 3), aI x0, aR r1, aI x2, aI x3, aR r4] M b) := (wp_s rfl rfl).trans rfl
set_option maxRecDepth 30000 in
theorem w254_1640 {x0 : Int32} {x1 : Int32} {r2 : Option Nat} {x3 : Int32} {x4 : Int32} {r5 : Option Nat} {ls : List AV} : wp C 254 (n + 1) 1640 ls [aI x0, aI x1, aR r2, aI x3, aI x4, aR r5] M b = (wp C 254 n 1641 ls [aI (x1 + x0), aR r2, aI x3, aI x4, aR r5] M b) := (wp_s rfl rfl).trans rfl
set_option maxRecDepth 30000 in
theorem w254_1641 {x0 : Int32} {a1 : Nat} {x2 : Int32} {x3 : Int32} {r4 : Option Nat} {ls : List AV} : wp C 254 (n + 1) 1641 ls [aI x0, aR (some a1), aI x2, aI x3, aR r4] M b = ((a1 = 60 ∧ inb x0 (cL C)) ∧ wp C 254 n 1642 ls [aI (cS C (iN x0)), aI x2, aI x3, aR r4] M b) := (wp_s rfl rfl).trans rfl
set_option maxRecDepth 30000 in
theorem w254_1642 {v0 : AV} {v1 : AV} {v2 : AV} {o3 : Option Nat} {x0 : Int32} {x1 : Int32} {x2 : Int32} {r3 : Option Nat} {ls : List AV} : wp C 254 (n + 1) 1642 (v0 :: v1 :: v2 :: aR o3 :: ls) [aI x0, aI x1, aI x2, aR r3] M b = (wp C 254 n 1643 (v0 :: v1 :: v2 :: aR o3 :: ls) [aR o3, aI x0, aI x1, aI x2, aR r3] M b) := (wp_s rfl rfl).trans rfl
set_option maxRecDepth 30000 in
theorem w254_1643 {r0 : Option Nat} {x1 : Int32} {x2 : Int32} {x3 : Int32} {r4 : Option Nat} {ls : List AV} : wp C 254 (n + 1) 1643 ls [aR r0, aI x1, aI x2, aI x3, aR r4] M b = (CALL C 251 [aR r4, aI x3, aI x2, aI x1, aR r0] M b (kR (wp C 254 n 1646 ls) []) (cX C)) := (wp_s (x := (.invokestatic 174, 3, 251, 5)) rfl rfl).trans (cs_row (by decide) (Nat.le_of_ble_eq_true rfl) (Nat.le_of_ble_eq_true rfl))
set_option maxRecDepth 30000 in
theorem w254_1646 {v0 : AV} {v1 : AV} {v2 : AV} {v3 : AV} {p4 : Int32} {v5 : AV} {x0 : Int32} {ls : List AV} : wp C 254 (n + 1) 1646 (v0 :: v1 :: v2 :: v3 :: aI p4 :: v5 :: ls) [aI x0] M b = (wp C 254 n 1648 (v0 :: v1 :: v2 :: v3 :: aI p4 :: aI x0 :: ls) [] M b) := (wp_s rfl rfl).trans rfl
set_option maxRecDepth 30000 in
theorem w254_1648 {v0 : AV} {v1 : AV} {o2 : Option Nat} {ls : List AV} : wp C 254 (n + 1) 1648 (v0 :: v1 :: aR o2 :: ls) [] M b = (wp C 254 n 1649 (v0 :: v1 :: aR o2 :: ls) [aR o2] M b) := (wp_s rfl rfl).trans rfl
set_option maxRecDepth 30000 in
theorem w254_1649 {o0 : Option Nat} {r0 : Option Nat} {ls : List AV} : wp C 254 (n + 1) 1649 (aR o0 :: ls) [aR r0] M b = (wp C 254 n 1650 (aR o0 :: ls) [aR o0, aR r0] M b) := (wp_s rfl rfl).trans rfl
set_option maxRecDepth 30000 in
theorem w254_1650 {v0 : AV} {v1 : AV} {v2 : AV} {v3 : AV} {p4 : Int32} {r0 : Option Nat} {r1 : Option Nat} {ls : List AV} : wp C 254 (n + 1) 1650 (v0 :: v1 :: v2 :: v3 :: aI p4 :: ls) [aR r0, aR r1] M b = (wp C 254 n 1652 (v0 :: v1 :: v2 :: v3 :: aI p4 :: ls) [aI p4, aR r0, aR r1] M b) := (wp_s rfl rfl).trans rfl
set_option maxRecDepth 30000 in
theorem w254_1652 {x0 : Int32} {r1 : Option Nat} {r2 : Option Nat} {ls : List AV} : wp C 254 (n + 1) 1652 ls [aI x0, aR r1, aR r2] M b = (wp C 254 n 1653 ls [aI (iZ 1), aI x0, aR r1, aR r2] M b) := (wp_s rfl rfl).trans rfl
set_option maxRecDepth 30000 in
theorem w254_1653 {x0 : Int32} {x1 : Int32} {r2 : Option Nat} {r3 : Option Nat} {ls : List AV} : wp C 254 (n + 1) 1653 ls [aI x0, aI x1, aR r2, aR r3] M b = (wp C 254 n 1654 ls [aI (x1 + x0), aR r2, aR r3] M b) := (wp_s rfl rfl).trans rfl
set_option maxRecDepth 30000 in
theorem w254_1654 {x0 : Int32} {a1 : Nat} {r2 : Option Nat} {ls : List AV} : wp C 254 (n + 1) 1654 ls [aI x0, aR (some a1), aR r2] M b = ((a1 = 60 ∧ inb x0 (cL C)) ∧ wp C 254 n 1655 ls [aI (cS C (iN x0)), aR r2] M b) := (wp_s rfl rfl).trans rfl
set_option maxRecDepth 30000 in
theorem w254_1655 {o0 : Option Nat} {x0 : Int32} {r1 : Option Nat} {ls : List AV} : wp C 254 (n + 1) 1655 (aR o0 :: ls) [aI x0, aR r1] M b = (wp C 254 n 1656 (aR o0 :: ls) [aR o0, aI x0, aR r1] M b) := (wp_s rfl rfl).trans rfl
set_option maxRecDepth 30000 in
theorem w254_1656 {v0 : AV} {v1 : AV} {v2 : AV} {v3 : AV} {p4 : Int32} {r0 : Option Nat} {x1 : Int32} {r2 : Option Nat} {ls : List AV} : wp C 254 (n + 1) 1656 (v0 :: v1 :: v2 :: v3 :: aI p4 :: ls) [aR r0, aI x1, aR r2] M b = (wp C 254 n 1658 (v0 :: v1 :: v2 :: v3 :: aI p4 :: ls) [aI p4, aR r0, aI x1, aR r2] M b) := (wp_s rfl rfl).trans rfl
set_option maxRecDepth 30000 in
theorem w254_1658 {x0 : Int32} {r1 : Option Nat} {x2 : Int32} {r3 : Option Nat} {ls : List AV} : wp C 254 (n + 1) 1658 ls [aI x0, aR r1, aI x2, aR r3] M b = (wp C 254 n 1659 ls [aI (iZ 2), aI x0, aR r1, aI x2, aR r3] M b) := (wp_s rfl rfl).trans rfl
set_option maxRecDepth 30000 in
theorem w254_1659 {x0 : Int32} {x1 : Int32} {r2 : Option Nat} {x3 : Int32} {r4 : Option Nat} {ls : List AV} : wp C 254 (n + 1) 1659 ls [aI x0, aI x1, aR r2, aI x3, aR r4] M b = (wp C 254 n 1660 ls [aI (x1 + x0), aR r2, aI x3, aR r4] M b) := (wp_s rfl rfl).trans rfl
set_option maxRecDepth 30000 in
theorem w254_1660 {x0 : Int32} {a1 : Nat} {x2 : Int32} {r3 : Option Nat} {ls : List AV} : wp C 254 (n + 1) 1660 ls [aI x0, aR (some a1), aI x2, aR r3] M b = ((a1 = 60 ∧ inb x0 (cL C)) ∧ wp C 254 n 1661 ls [aI (cS C (iN x0)), aI x2, aR r3] M b) := (wp_s rfl rfl).trans rfl
set_option maxRecDepth 30000 in
theorem w254_1661 {o0 : Option Nat} {x0 : Int32} {x1 : Int32} {r2 : Option Nat} {ls : List AV} : wp C 254 (n + 1) 1661 (aR o0 :: ls) [aI x0, aI x1, aR r2] M b = (wp C 254 n 1662 (aR o0 :: ls) [aR o0, aI x0, aI x1, aR r2] M b) := (wp_s rfl rfl).trans rfl
set_option maxRecDepth 30000 in
theorem w254_1662 {v0 : AV} {v1 : AV} {v2 : AV} {v3 : AV} {p4 : Int32} {r0 : Option Nat} {x1 : Int32} {x2 : Int32} {r3 : Option Nat} {ls : List AV} : wp C 254 (n + 1) 1662 (v0 :: v1 :: v2 :: v3 :: aI p4 :: ls) [aR r0, aI x1, aI x2, aR r3] M b = (wp C 254 n 1664 (v0 :: v1 :: v2 :: v3 :: aI p4 :: ls) [aI p4, aR r0, aI x1, aI x2, aR r3] M b) := (wp_s rfl rfl).trans rfl
set_option maxRecDepth 30000 in
theorem w254_1664 {x0 : Int32} {r1 : Option Nat} {x2 : Int32} {x3 : Int32} {r4 : Option Nat} {ls : List AV} : wp C 254 (n + 1) 1664 ls [aI x0, aR r1, aI x2, aI x3, aR r4] M b = (wp C 254 n 1665 ls [aI (iZ 3), aI x0, aR r1, aI x2, aI x3, aR r4] M b) := (wp_s rfl rfl).trans rfl
set_option maxRecDepth 30000 in
theorem w254_1665 {x0 : Int32} {x1 : Int32} {r2 : Option Nat} {x3 : Int32} {x4 : Int32} {r5 : Option Nat} {ls : List AV} : wp C 254 (n + 1) 1665 ls [aI x0, aI x1, aR r2, aI x3, aI x4, aR r5] M b = (wp C 254 n 1666 ls [aI (x1 + x0), aR r2, aI x3, aI x4, aR r5] M b) := (wp_s rfl rfl).trans rfl
set_option maxRecDepth 30000 in
theorem w254_1666 {x0 : Int32} {a1 : Nat} {x2 : Int32} {x3 : Int32} {r4 : Option Nat} {ls : List AV} : wp C 254 (n + 1) 1666 ls [aI x0, aR (some a1), aI x2, aI x3, aR r4] M b = ((a1 = 60 ∧ inb x0 (cL C)) ∧ wp C 254 n 1667 ls [aI (cS C (iN x0)), aI x2, aI x3, aR r4] M b) := (wp_s rfl rfl).trans rfl
set_option maxRecDepth 30000 in
theorem w254_1667 {x0 : Int32} {x1 : Int32} {x2 : Int32} {a3 : Nat} {ls : List AV} : wp C 254 (n + 1) 1667 ls [aI x0, aI x1, aI x2, aR (some a3)] M b = (oB M a3 12 ∧ CALL C 96 [aR (some a3), aI x2, aI x1, aI x0] M b (kR (wp C 254 n 1670 ls) []) (cX C)) := (wp_s (x := (.invokevirtual 176, 3, 96, 3)) rfl rfl).trans (cv_row (by decide) (Nat.le_of_ble_eq_true rfl) (Nat.le_of_ble_eq_true rfl) rfl)
set_option maxRecDepth 30000 in
theorem w254_1670 {v0 : AV} {v1 : AV} {v2 : AV} {v3 : AV} {v4 : AV} {p5 : Int32} {v6 : AV} {v7 : AV} {y0 : Int64} : wp C 254 (n + 1) 1670 [v0, v1, v2, v3, v4, aI p5, v6, v7] [aL y0] M b = (wp C 254 n 1672 [v0, v1, v2, v3, v4, aI p5, aL y0, aU] [] M b) := (wp_s rfl rfl).trans rfl
set_option maxRecDepth 30000 in
theorem w254_1672 {v0 : AV} {v1 : AV} {o2 : Option Nat} {ls : List AV} : wp C 254 (n + 1) 1672 (v0 :: v1 :: aR o2 :: ls) [] M b = (wp C 254 n 1673 (v0 :: v1 :: aR o2 :: ls) [aR o2] M b) := (wp_s rfl rfl).trans rfl
set_option maxRecDepth 30000 in
theorem w254_1673 {a0 : Nat} {ls : List AV} : wp C 254 (n + 1) 1673 ls [aR (some a0)] M b = (oB M a0 12 ∧ CALL C 19 [aR (some a0)] M b (kR (wp C 254 n 1676 ls) []) (cX C)) := (wp_s (x := (.invokevirtual 96, 3, 19, 0)) rfl rfl).trans (cv_row (by decide) (Nat.le_of_ble_eq_true rfl) (Nat.le_of_ble_eq_true rfl) rfl)
set_option maxRecDepth 30000 in
theorem w254_1676 {v0 : AV} {v1 : AV} {v2 : AV} {v3 : AV} {v4 : AV} {p5 : Int32} {x0 : Int32} {ls : List AV} : wp C 254 (n + 1) 1676 (v0 :: v1 :: v2 :: v3 :: v4 :: aI p5 :: ls) [aI x0] M b = (wp C 254 n 1678 (v0 :: v1 :: v2 :: v3 :: v4 :: aI p5 :: ls) [aI p5, aI x0] M b) := (wp_s rfl rfl).trans rfl
set_option maxRecDepth 30000 in
theorem w254_1678 {x0 : Int32} {x1 : Int32} {ls : List AV} : wp C 254 (n + 1) 1678 ls [aI x0, aI x1] M b = ((x1.toInt = x0.toInt → wp C 254 n 1683 ls [] M b) ∧ (¬ x1.toInt = x0.toInt → wp C 254 n 1681 ls [] M b)) := (wp_s (x := (.if_icmp .eq 5, 3, 1683, 0)) rfl rfl).trans ceq
set_option maxRecDepth 30000 in
theorem w254_1681 {ls : List AV} : wp C 254 (n + 1) 1681 ls [] M b = (wp C 254 n 1682 ls [aI (iZ 0)] M b) := (wp_s rfl rfl).trans rfl
set_option maxRecDepth 30000 in
theorem w254_1682 {x0 : Int32} {ls : List AV} : wp C 254 (n + 1) 1682 ls [aI x0] M b = (isB x0 ∧ cQ C (some (aI x0)) M) := (wp_s (x := (.ireturn, 1, 0, 0)) rfl rfl).trans (rt_Z rfl)
set_option maxRecDepth 30000 in
theorem w254_1683 {v0 : AV} {v1 : AV} {v2 : AV} {v3 : AV} {v4 : AV} {p5 : Int32} {ls : List AV} : wp C 254 (n + 1) 1683 (v0 :: v1 :: v2 :: v3 :: v4 :: aI p5 :: ls) [] M b = (wp C 254 n 1685 (v0 :: v1 :: v2 :: v3 :: v4 :: aI p5 :: ls) [aI p5] M b) := (wp_s rfl rfl).trans rfl
set_option maxRecDepth 30000 in
theorem w254_1685 {x0 : Int32} {ls : List AV} : wp C 254 (n + 1) 1685 ls [aI x0] M b = ((x0.toInt = 0 → wp C 254 n 1688 ls [] M b) ∧ (¬ x0.toInt = 0 → wp C 254 n 1699 ls [] M b)) := (wp_s (x := (.ifCond .ne 14, 3, 1699, 0)) rfl rfl).trans zne
set_option maxRecDepth 30000 in
theorem w254_1688 {v0 : AV} {v1 : AV} {v2 : AV} {o3 : Option Nat} {ls : List AV} : wp C 254 (n + 1) 1688 (v0 :: v1 :: v2 :: aR o3 :: ls) [] M b = (wp C 254 n 1689 (v0 :: v1 :: v2 :: aR o3 :: ls) [aR o3] M b) := (wp_s rfl rfl).trans rfl
set_option maxRecDepth 30000 in
theorem w254_1689 {r0 : Option Nat} {ls : List AV} : wp C 254 (n + 1) 1689 ls [aR r0] M b = (wp C 254 n 1690 ls [aI (iZ 0), aR r0] M b) := (wp_s rfl rfl).trans rfl
set_option maxRecDepth 30000 in
theorem w254_1690 {x0 : Int32} {a1 : Nat} {ls : List AV} : wp C 254 (n + 1) 1690 ls [aI x0, aR (some a1)] M b = (iA M a1 21 x0 ∧ wp C 254 n 1691 ls [aL (mJ M a1 (iN x0))] M b) := (wp_s rfl rfl).trans rfl
set_option maxRecDepth 30000 in
theorem w254_1691 {v0 : AV} {v1 : AV} {v2 : AV} {v3 : AV} {v4 : AV} {v5 : AV} {q6 : Int64} {y0 : Int64} {ls : List AV} : wp C 254 (n + 1) 1691 (v0 :: v1 :: v2 :: v3 :: v4 :: v5 :: aL q6 :: ls) [aL y0] M b = (wp C 254 n 1693 (v0 :: v1 :: v2 :: v3 :: v4 :: v5 :: aL q6 :: ls) [aL q6, aL y0] M b) := (wp_s rfl rfl).trans rfl
set_option maxRecDepth 30000 in
theorem w254_1693 {y0 : Int64} {y1 : Int64} {ls : List AV} : wp C 254 (n + 1) 1693 ls [aL y0, aL y1] M b = (wp C 254 n 1694 ls [aI (lg_cmp y1 y0)] M b) := (wp_s rfl rfl).trans rfl
set_option maxRecDepth 30000 in
theorem w254_1694 {x0 : Int32} {ls : List AV} : wp C 254 (n + 1) 1694 ls [aI x0] M b = ((x0.toInt = 0 → wp C 254 n 1699 ls [] M b) ∧ (¬ x0.toInt = 0 → wp C 254 n 1697 ls [] M b)) := (wp_s (x := (.ifCond .eq 5, 3, 1699, 0)) rfl rfl).trans zeq
set_option maxRecDepth 30000 in
theorem w254_1697 {ls : List AV} : wp C 254 (n + 1) 1697 ls [] M b = (wp C 254 n 1698 ls [aI (iZ 0)] M b) := (wp_s rfl rfl).trans rfl
set_option maxRecDepth 30000 in
theorem w254_1698 {x0 : Int32} {ls : List AV} : wp C 254 (n + 1) 1698 ls [aI x0] M b = (isB x0 ∧ cQ C (some (aI x0)) M) := (wp_s (x := (.ireturn, 1, 0, 0)) rfl rfl).trans (rt_Z rfl)
set_option maxRecDepth 30000 in
theorem w254_1699 {ls : List AV} : wp C 254 (n + 1) 1699 ls [] M b = (wp C 254 n 1838 ls [] M b) := (wp_s rfl rfl).trans rfl
set_option maxRecDepth 30000 in
theorem w254_1702 {v0 : AV} {o1 : Option Nat} {ls : List AV} : wp C 254 (n + 1) 1702 (v0 :: aR o1 :: ls) [] M b = (wp C 254 n 1703 (v0 :: aR o1 :: ls) [aR o1] M b) := (wp_s rfl rfl).trans rfl
set_option maxRecDepth 30000 in
theorem w254_1703 {o0 : Option Nat} {r0 : Option Nat} {ls : List AV} : wp C 254 (n + 1) 1703 (aR o0 :: ls) [aR r0] M b = (wp C 254 n 1704 (aR o0 :: ls) [aR o0, aR r0] M b) := (wp_s rfl rfl).trans rfl
set_option maxRecDepth 30000 in
theorem w254_1704 {v0 : AV} {v1 : AV} {v2 : AV} {v3 : AV} {p4 : Int32} {r0 : Option Nat} {r1 : Option Nat} {ls : List AV} : wp C 254 (n + 1) 1704 (v0 :: v1 :: v2 :: v3 :: aI p4 :: ls) [aR r0, aR r1] M b = (wp C 254 n 1706 (v0 :: v1 :: v2 :: v3 :: aI p4 :: ls) [aI p4, aR r0, aR r1] M b) := (wp_s rfl rfl).trans rfl
set_option maxRecDepth 30000 in
theorem w254_1706 {x0 : Int32} {r1 : Option Nat} {r2 : Option Nat} {ls : List AV} : wp C 254 (n + 1) 1706 ls [aI x0, aR r1, aR r2] M b = (wp C 254 n 1707 ls [aI (iZ 1), aI x0, aR r1, aR r2] M b) := (wp_s rfl rfl).trans rfl
set_option maxRecDepth 30000 in
theorem w254_1707 {x0 : Int32} {x1 : Int32} {r2 : Option Nat} {r3 : Option Nat} {ls : List AV} : wp C 254 (n + 1) 1707 ls [aI x0, aI x1, aR r2, aR r3] M b = (wp C 254 n 1708 ls [aI (x1 + x0), aR r2, aR r3] M b) := (wp_s rfl rfl).trans rfl
set_option maxRecDepth 30000 in
theorem w254_1708 {x0 : Int32} {a1 : Nat} {r2 : Option Nat} {ls : List AV} : wp C 254 (n + 1) 1708 ls [aI x0, aR (some a1), aR r2] M b = ((a1 = 60 ∧ inb x0 (cL C)) ∧ wp C 254 n 1709 ls [aI (cS C (iN x0)), aR r2] M b) := (wp_s rfl rfl).trans rfl
set_option maxRecDepth 30000 in
theorem w254_1709 {o0 : Option Nat} {x0 : Int32} {r1 : Option Nat} {ls : List AV} : wp C 254 (n + 1) 1709 (aR o0 :: ls) [aI x0, aR r1] M b = (wp C 254 n 1710 (aR o0 :: ls) [aR o0, aI x0, aR r1] M b) := (wp_s rfl rfl).trans rfl
set_option maxRecDepth 30000 in
theorem w254_1710 {v0 : AV} {v1 : AV} {v2 : AV} {v3 : AV} {p4 : Int32} {r0 : Option Nat} {x1 : Int32} {r2 : Option Nat} {ls : List AV} : wp C 254 (n + 1) 1710 (v0 :: v1 :: v2 :: v3 :: aI p4 :: ls) [aR r0, aI x1, aR r2] M b = (wp C 254 n 1712 (v0 :: v1 :: v2 :: v3 :: aI p4 :: ls) [aI p4, aR r0, aI x1, aR r2] M b) := (wp_s rfl rfl).trans rfl
set_option maxRecDepth 30000 in
theorem w254_1712 {x0 : Int32} {r1 : Option Nat} {x2 : Int32} {r3 : Option Nat} {ls : List AV} : wp C 254 (n + 1) 1712 ls [aI x0, aR r1, aI x2, aR r3] M b = (wp C 254 n 1713 ls [aI (iZ 2), aI x0, aR r1, aI x2, aR r3] M b) := (wp_s rfl rfl).trans rfl
set_option maxRecDepth 30000 in
theorem w254_1713 {x0 : Int32} {x1 : Int32} {r2 : Option Nat} {x3 : Int32} {r4 : Option Nat} {ls : List AV} : wp C 254 (n + 1) 1713 ls [aI x0, aI x1, aR r2, aI x3, aR r4] M b = (wp C 254 n 1714 ls [aI (x1 + x0), aR r2, aI x3, aR r4] M b) := (wp_s rfl rfl).trans rfl
set_option maxRecDepth 30000 in
theorem w254_1714 {x0 : Int32} {a1 : Nat} {x2 : Int32} {r3 : Option Nat} {ls : List AV} : wp C 254 (n + 1) 1714 ls [aI x0, aR (some a1), aI x2, aR r3] M b = ((a1 = 60 ∧ inb x0 (cL C)) ∧ wp C 254 n 1715 ls [aI (cS C (iN x0)), aI x2, aR r3] M b) := (wp_s rfl rfl).trans rfl
set_option maxRecDepth 30000 in
theorem w254_1715 {o0 : Option Nat} {x0 : Int32} {x1 : Int32} {r2 : Option Nat} {ls : List AV} : wp C 254 (n + 1) 1715 (aR o0 :: ls) [aI x0, aI x1, aR r2] M b = (wp C 254 n 1716 (aR o0 :: ls) [aR o0, aI x0, aI x1, aR r2] M b) := (wp_s rfl rfl).trans rfl
set_option maxRecDepth 30000 in
theorem w254_1716 {v0 : AV} {v1 : AV} {v2 : AV} {v3 : AV} {p4 : Int32} {r0 : Option Nat} {x1 : Int32} {x2 : Int32} {r3 : Option Nat} {ls : List AV} : wp C 254 (n + 1) 1716 (v0 :: v1 :: v2 :: v3 :: aI p4 :: ls) [aR r0, aI x1, aI x2, aR r3] M b = (wp C 254 n 1718 (v0 :: v1 :: v2 :: v3 :: aI p4 :: ls) [aI p4, aR r0, aI x1, aI x2, aR r3] M b) := (wp_s rfl rfl).trans rfl
set_option maxRecDepth 30000 in
theorem w254_1718 {x0 : Int32} {r1 : Option Nat} {x2 : Int32} {x3 : Int32} {r4 : Option Nat} {ls : List AV} : wp C 254 (n + 1) 1718 ls [aI x0, aR r1, aI x2, aI x3, aR r4] M b = (wp C 254 n 1719 ls [aI (iZ 3), aI x0, aR r1, aI x2, aI x3, aR r4] M b) := (wp_s rfl rfl).trans rfl
set_option maxRecDepth 30000 in
theorem w254_1719 {x0 : Int32} {x1 : Int32} {r2 : Option Nat} {x3 : Int32} {x4 : Int32} {r5 : Option Nat} {ls : List AV} : wp C 254 (n + 1) 1719 ls [aI x0, aI x1, aR r2, aI x3, aI x4, aR r5] M b = (wp C 254 n 1720 ls [aI (x1 + x0), aR r2, aI x3, aI x4, aR r5] M b) := (wp_s rfl rfl).trans rfl
set_option maxRecDepth 30000 in
theorem w254_1720 {x0 : Int32} {a1 : Nat} {x2 : Int32} {x3 : Int32} {r4 : Option Nat} {ls : List AV} : wp C 254 (n + 1) 1720 ls [aI x0, aR (some a1), aI x2, aI x3, aR r4] M b = ((a1 = 60 ∧ inb x0 (cL C)) ∧ wp C 254 n 1721 ls [aI (cS C (iN x0)), aI x2, aI x3, aR r4] M b) := (wp_s rfl rfl).trans rfl
set_option maxRecDepth 30000 in
theorem w254_1721 {v0 : AV} {v1 : AV} {v2 : AV} {o3 : Option Nat} {x0 : Int32} {x1 : Int32} {x2 : Int32} {r3 : Option Nat} {ls : List AV} : wp C 254 (n + 1) 1721 (v0 :: v1 :: v2 :: aR o3 :: ls) [aI x0, aI x1, aI x2, aR r3] M b = (wp C 254 n 1722 (v0 :: v1 :: v2 :: aR o3 :: ls) [aR o3, aI x0, aI x1, aI x2, aR r3] M b) := (wp_s rfl rfl).trans rfl
set_option maxRecDepth 30000 in
theorem w254_1722 {r0 : Option Nat} {x1 : Int32} {x2 : Int32} {x3 : Int32} {r4 : Option Nat} {ls : List AV} : wp C 254 (n + 1) 1722 ls [aR r0, aI x1, aI x2, aI x3, aR r4] M b = (CALL C 252 [aR r4, aI x3, aI x2, aI x1, aR r0] M b (kR (wp C 254 n 1725 ls) []) (cX C)) := (wp_s (x := (.invokestatic 177, 3, 252, 5)) rfl rfl).trans (cs_row (by decide) (Nat.le_of_ble_eq_true rfl) (Nat.le_of_ble_eq_true rfl))
set_option maxRecDepth 30000 in
theorem w254_1725 {v0 : AV} {v1 : AV} {v2 : AV} {v3 : AV} {p4 : Int32} {v5 : AV} {x0 : Int32} {ls : List AV} : wp C 254 (n + 1) 1725 (v0 :: v1 :: v2 :: v3 :: aI p4 :: v5 :: ls) [aI x0] M b = (wp C 254 n 1727 (v0 :: v1 :: v2 :: v3 :: aI p4 :: aI x0 :: ls) [] M b) := (wp_s rfl rfl).trans rfl
set_option maxRecDepth 30000 in
theorem w254_1727 {v0 : AV} {v1 : AV} {o2 : Option Nat} {ls : List AV} : wp C 254 (n + 1) 1727 (v0 :: v1 :: aR o2 :: ls) [] M b = (wp C 254 n 1728 (v0 :: v1 :: aR o2 :: ls) [aR o2] M b) := (wp_s rfl rfl).trans rfl
set_option maxRecDepth 30000 in
theorem w254_1728 {o0 : Option Nat} {r0 : Option Nat} {ls : List AV} : wp C 254 (n + 1) 1728 (aR o0 :: ls) [aR r0] M b = (wp C 254 n 1729 (aR o0 :: ls) [aR o0, aR r0] M b) := (wp_s rfl rfl).trans rfl
set_option maxRecDepth 30000 in
theorem w254_1729 {v0 : AV} {v1 : AV} {v2 : AV} {v3 : AV} {p4 : Int32} {r0 : Option Nat} {r1 : Option Nat} {ls : List AV} : wp C 254 (n + 1) 1729 (v0 :: v1 :: v2 :: v3 :: aI p4 :: ls) [aR r0, aR r1] M b = (wp C 254 n 1731 (v0 :: v1 :: v2 :: v3 :: aI p4 :: ls) [aI p4, aR r0, aR r1] M b) := (wp_s rfl rfl).trans rfl
set_option maxRecDepth 30000 in
theorem w254_1731 {x0 : Int32} {r1 : Option Nat} {r2 : Option Nat} {ls : List AV} : wp C 254 (n + 1) 1731 ls [aI x0, aR r1, aR r2] M b = (wp C 254 n 1732 ls [aI (iZ 1), aI x0, aR r1, aR r2] M b) := (wp_s rfl rfl).trans rfl
set_option maxRecDepth 30000 in
theorem w254_1732 {x0 : Int32} {x1 : Int32} {r2 : Option Nat} {r3 : Option Nat} {ls : List AV} : wp C 254 (n + 1) 1732 ls [aI x0, aI x1, aR r2, aR r3] M b = (wp C 254 n 1733 ls [aI (x1 + x0), aR r2, aR r3] M b) := (wp_s rfl rfl).trans rfl
set_option maxRecDepth 30000 in
theorem w254_1733 {x0 : Int32} {a1 : Nat} {r2 : Option Nat} {ls : List AV} : wp C 254 (n + 1) 1733 ls [aI x0, aR (some a1), aR r2] M b = ((a1 = 60 ∧ inb x0 (cL C)) ∧ wp C 254 n 1734 ls [aI (cS C (iN x0)), aR r2] M b) := (wp_s rfl rfl).trans rfl
set_option maxRecDepth 30000 in
theorem w254_1734 {o0 : Option Nat} {x0 : Int32} {r1 : Option Nat} {ls : List AV} : wp C 254 (n + 1) 1734 (aR o0 :: ls) [aI x0, aR r1] M b = (wp C 254 n 1735 (aR o0 :: ls) [aR o0, aI x0, aR r1] M b) := (wp_s rfl rfl).trans rfl
set_option maxRecDepth 30000 in
theorem w254_1735 {v0 : AV} {v1 : AV} {v2 : AV} {v3 : AV} {p4 : Int32} {r0 : Option Nat} {x1 : Int32} {r2 : Option Nat} {ls : List AV} : wp C 254 (n + 1) 1735 (v0 :: v1 :: v2 :: v3 :: aI p4 :: ls) [aR r0, aI x1, aR r2] M b = (wp C 254 n 1737 (v0 :: v1 :: v2 :: v3 :: aI p4 :: ls) [aI p4, aR r0, aI x1, aR r2] M b) := (wp_s rfl rfl).trans rfl
set_option maxRecDepth 30000 in
theorem w254_1737 {x0 : Int32} {r1 : Option Nat} {x2 : Int32} {r3 : Option Nat} {ls : List AV} : wp C 254 (n + 1) 1737 ls [aI x0, aR r1, aI x2, aR r3] M b = (wp C 254 n 1738 ls [aI (iZ 2), aI x0, aR r1, aI x2, aR r3] M b) := (wp_s rfl rfl).trans rfl
set_option maxRecDepth 30000 in
theorem w254_1738 {x0 : Int32} {x1 : Int32} {r2 : Option Nat} {x3 : Int32} {r4 : Option Nat} {ls : List AV} : wp C 254 (n + 1) 1738 ls [aI x0, aI x1, aR r2, aI x3, aR r4] M b = (wp C 254 n 1739 ls [aI (x1 + x0), aR r2, aI x3, aR r4] M b) := (wp_s rfl rfl).trans rfl
set_option maxRecDepth 30000 in
theorem w254_1739 {x0 : Int32} {a1 : Nat} {x2 : Int32} {r3 : Option Nat} {ls : List AV} : wp C 254 (n + 1) 1739 ls [aI x0, aR (some a1), aI x2, aR r3] M b = ((a1 = 60 ∧ inb x0 (cL C)) ∧ wp C 254 n 1740 ls [aI (cS C (iN x0)), aI x2, aR r3] M b) := (wp_s rfl rfl).trans rfl
set_option maxRecDepth 30000 in
theorem w254_1740 {o0 : Option Nat} {x0 : Int32} {x1 : Int32} {r2 : Option Nat} {ls : List AV} : wp C 254 (n + 1) 1740 (aR o0 :: ls) [aI x0, aI x1, aR r2] M b = (wp C 254 n 1741 (aR o0 :: ls) [aR o0, aI x0, aI x1, aR r2] M b) := (wp_s rfl rfl).trans rfl
set_option maxRecDepth 30000 in
theorem w254_1741 {v0 : AV} {v1 : AV} {v2 : AV} {v3 : AV} {p4 : Int32} {r0 : Option Nat} {x1 : Int32} {x2 : Int32} {r3 : Option Nat} {ls : List AV} : wp C 254 (n + 1) 1741 (v0 :: v1 :: v2 :: v3 :: aI p4 :: ls) [aR r0, aI x1, aI x2, aR r3] M b = (wp C 254 n 1743 (v0 :: v1 :: v2 :: v3 :: aI p4 :: ls) [aI p4, aR r0, aI x1, aI x2, aR r3] M b) := (wp_s rfl rfl).trans rfl
set_option maxRecDepth 30000 in
theorem w254_1743 {x0 : Int32} {r1 : Option Nat} {x2 : Int32} {x3 : Int32} {r4 : Option Nat} {ls : List AV} : wp C 254 (n + 1) 1743 ls [aI x0, aR r1, aI x2, aI x3, aR r4] M b = (wp C 254 n 1744 ls [aI (iZ 3), aI x0, aR r1, aI x2, aI x3, aR r4] M b) := (wp_s rfl rfl).trans rfl
set_option maxRecDepth 30000 in
theorem w254_1744 {x0 : Int32} {x1 : Int32} {r2 : Option Nat} {x3 : Int32} {x4 : Int32} {r5 : Option Nat} {ls : List AV} : wp C 254 (n + 1) 1744 ls [aI x0, aI x1, aR r2, aI x3, aI x4, aR r5] M b = (wp C 254 n 1745 ls [aI (x1 + x0), aR r2, aI x3, aI x4, aR r5] M b) := (wp_s rfl rfl).trans rfl
set_option maxRecDepth 30000 in
theorem w254_1745 {x0 : Int32} {a1 : Nat} {x2 : Int32} {x3 : Int32} {r4 : Option Nat} {ls : List AV} : wp C 254 (n + 1) 1745 ls [aI x0, aR (some a1), aI x2, aI x3, aR r4] M b = ((a1 = 60 ∧ inb x0 (cL C)) ∧ wp C 254 n 1746 ls [aI (cS C (iN x0)), aI x2, aI x3, aR r4] M b) := (wp_s rfl rfl).trans rfl
set_option maxRecDepth 30000 in
theorem w254_1746 {x0 : Int32} {x1 : Int32} {x2 : Int32} {a3 : Nat} {ls : List AV} : wp C 254 (n + 1) 1746 ls [aI x0, aI x1, aI x2, aR (some a3)] M b = (oB M a3 12 ∧ CALL C 97 [aR (some a3), aI x2, aI x1, aI x0] M b (kR (wp C 254 n 1749 ls) []) (cX C)) := (wp_s (x := (.invokevirtual 179, 3, 97, 3)) rfl rfl).trans (cv_row (by decide) (Nat.le_of_ble_eq_true rfl) (Nat.le_of_ble_eq_true rfl) rfl)
set_option maxRecDepth 30000 in
theorem w254_1749 {v0 : AV} {v1 : AV} {v2 : AV} {v3 : AV} {v4 : AV} {p5 : Int32} {v6 : AV} {x0 : Int32} {ls : List AV} : wp C 254 (n + 1) 1749 (v0 :: v1 :: v2 :: v3 :: v4 :: aI p5 :: v6 :: ls) [aI x0] M b = (wp C 254 n 1751 (v0 :: v1 :: v2 :: v3 :: v4 :: aI p5 :: aI x0 :: ls) [] M b) := (wp_s rfl rfl).trans rfl
set_option maxRecDepth 30000 in
theorem w254_1751 {v0 : AV} {v1 : AV} {o2 : Option Nat} {ls : List AV} : wp C 254 (n + 1) 1751 (v0 :: v1 :: aR o2 :: ls) [] M b = (wp C 254 n 1752 (v0 :: v1 :: aR o2 :: ls) [aR o2] M b) := (wp_s rfl rfl).trans rfl
set_option maxRecDepth 30000 in
theorem w254_1752 {a0 : Nat} {ls : List AV} : wp C 254 (n + 1) 1752 ls [aR (some a0)] M b = (oB M a0 12 ∧ CALL C 19 [aR (some a0)] M b (kR (wp C 254 n 1755 ls) []) (cX C)) := (wp_s (x := (.invokevirtual 96, 3, 19, 0)) rfl rfl).trans (cv_row (by decide) (Nat.le_of_ble_eq_true rfl) (Nat.le_of_ble_eq_true rfl) rfl)
set_option maxRecDepth 30000 in
theorem w254_1755 {v0 : AV} {v1 : AV} {v2 : AV} {v3 : AV} {v4 : AV} {p5 : Int32} {x0 : Int32} {ls : List AV} : wp C 254 (n + 1) 1755 (v0 :: v1 :: v2 :: v3 :: v4 :: aI p5 :: ls) [aI x0] M b = (wp C 254 n 1757 (v0 :: v1 :: v2 :: v3 :: v4 :: aI p5 :: ls) [aI p5, aI x0] M b) := (wp_s rfl rfl).trans rfl
set_option maxRecDepth 30000 in
theorem w254_1757 {x0 : Int32} {x1 : Int32} {ls : List AV} : wp C 254 (n + 1) 1757 ls [aI x0, aI x1] M b = ((x1.toInt = x0.toInt → wp C 254 n 1762 ls [] M b) ∧ (¬ x1.toInt = x0.toInt → wp C 254 n 1760 ls [] M b)) := (wp_s (x := (.if_icmp .eq 5, 3, 1762, 0)) rfl rfl).trans ceq
set_option maxRecDepth 30000 in
theorem w254_1760 {ls : List AV} : wp C 254 (n + 1) 1760 ls [] M b = (wp C 254 n 1761 ls [aI (iZ 0)] M b) := (wp_s rfl rfl).trans rfl
set_option maxRecDepth 30000 in
theorem w254_1761 {x0 : Int32} {ls : List AV} : wp C 254 (n + 1) 1761 ls [aI x0] M b = (isB x0 ∧ cQ C (some (aI x0)) M) := (wp_s (x := (.ireturn, 1, 0, 0)) rfl rfl).trans (rt_Z rfl)
set_option maxRecDepth 30000 in
theorem w254_1762 {v0 : AV} {v1 : AV} {v2 : AV} {v3 : AV} {v4 : AV} {p5 : Int32} {ls : List AV} : wp C 254 (n + 1) 1762 (v0 :: v1 :: v2 :: v3 :: v4 :: aI p5 :: ls) [] M b = (wp C 254 n 1764 (v0 :: v1 :: v2 :: v3 :: v4 :: aI p5 :: ls) [aI p5] M b) := (wp_s rfl rfl).trans rfl
set_option maxRecDepth 30000 in
theorem w254_1764 {x0 : Int32} {ls : List AV} : wp C 254 (n + 1) 1764 ls [aI x0] M b = ((x0.toInt = 0 → wp C 254 n 1767 ls [] M b) ∧ (¬ x0.toInt = 0 → wp C 254 n 1779 ls [] M b)) := (wp_s (x := (.ifCond .ne 15, 3, 1779, 0)) rfl rfl).trans zne
set_option maxRecDepth 30000 in
theorem w254_1767 {v0 : AV} {v1 : AV} {v2 : AV} {o3 : Option Nat} {ls : List AV} : wp C 254 (n + 1) 1767 (v0 :: v1 :: v2 :: aR o3 :: ls) [] M b = (wp C 254 n 1768 (v0 :: v1 :: v2 :: aR o3 :: ls) [aR o3] M b) := (wp_s rfl rfl).trans rfl
set_option maxRecDepth 30000 in
theorem w254_1768 {r0 : Option Nat} {ls : List AV} : wp C 254 (n + 1) 1768 ls [aR r0] M b = (wp C 254 n 1769 ls [aI (iZ 0), aR r0] M b) := (wp_s rfl rfl).trans rfl
set_option maxRecDepth 30000 in
theorem w254_1769 {x0 : Int32} {a1 : Nat} {ls : List AV} : wp C 254 (n + 1) 1769 ls [aI x0, aR (some a1)] M b = (iA M a1 21 x0 ∧ wp C 254 n 1770 ls [aL (mJ M a1 (iN x0))] M b) := (wp_s rfl rfl).trans rfl
set_option maxRecDepth 30000 in
theorem w254_1770 {v0 : AV} {v1 : AV} {v2 : AV} {v3 : AV} {v4 : AV} {v5 : AV} {p6 : Int32} {y0 : Int64} {ls : List AV} : wp C 254 (n + 1) 1770 (v0 :: v1 :: v2 :: v3 :: v4 :: v5 :: aI p6 :: ls) [aL y0] M b = (wp C 254 n 1772 (v0 :: v1 :: v2 :: v3 :: v4 :: v5 :: aI p6 :: ls) [aI p6, aL y0] M b) := (wp_s rfl rfl).trans rfl
set_option maxRecDepth 30000 in
theorem w254_1772 {x0 : Int32} {y1 : Int64} {ls : List AV} : wp C 254 (n + 1) 1772 ls [aI x0, aL y1] M b = (wp C 254 n 1773 ls [aL x0.toInt64, aL y1] M b) := (wp_s rfl rfl).trans rfl
set_option maxRecDepth 30000 in
theorem w254_1773 {y0 : Int64} {y1 : Int64} {ls : List AV} : wp C 254 (n + 1) 1773 ls [aL y0, aL y1] M b = (wp C 254 n 1774 ls [aI (lg_cmp y1 y0)] M b) := (wp_s rfl rfl).trans rfl
set_option maxRecDepth 30000 in
theorem w254_1774 {x0 : Int32} {ls : List AV} : wp C 254 (n + 1) 1774 ls [aI x0] M b = ((x0.toInt = 0 → wp C 254 n 1779 ls [] M b) ∧ (¬ x0.toInt = 0 → wp C 254 n 1777 ls [] M b)) := (wp_s (x := (.ifCond .eq 5, 3, 1779, 0)) rfl rfl).trans zeq
set_option maxRecDepth 30000 in
theorem w254_1777 {ls : List AV} : wp C 254 (n + 1) 1777 ls [] M b = (wp C 254 n 1778 ls [aI (iZ 0)] M b) := (wp_s rfl rfl).trans rfl
set_option maxRecDepth 30000 in
theorem w254_1778 {x0 : Int32} {ls : List AV} : wp C 254 (n + 1) 1778 ls [aI x0] M b = (isB x0 ∧ cQ C (some (aI x0)) M) := (wp_s (x := (.ireturn, 1, 0, 0)) rfl rfl).trans (rt_Z rfl)
set_option maxRecDepth 30000 in
theorem w254_1779 {ls : List AV} : wp C 254 (n + 1) 1779 ls [] M b = (wp C 254 n 1838 ls [] M b) := (wp_s rfl rfl).trans rfl
set_option maxRecDepth 30000 in
theorem w254_1782 {v0 : AV} {o1 : Option Nat} {ls : List AV} : wp C 254 (n + 1) 1782 (v0 :: aR o1 :: ls) [] M b = (wp C 254 n 1783 (v0 :: aR o1 :: ls) [aR o1] M b) := (wp_s rfl rfl).trans rfl
set_option maxRecDepth 30000 in
theorem w254_1783 {o0 : Option Nat} {r0 : Option Nat} {ls : List AV} : wp C 254 (n + 1) 1783 (aR o0 :: ls) [aR r0] M b = (wp C 254 n 1784 (aR o0 :: ls) [aR o0, aR r0] M b) := (wp_s rfl rfl).trans rfl
set_option maxRecDepth 30000 in
theorem w254_1784 {v0 : AV} {v1 : AV} {v2 : AV} {v3 : AV} {p4 : Int32} {r0 : Option Nat} {r1 : Option Nat} {ls : List AV} : wp C 254 (n + 1) 1784 (v0 :: v1 :: v2 :: v3 :: aI p4 :: ls) [aR r0, aR r1] M b = (wp C 254 n 1786 (v0 :: v1 :: v2 :: v3 :: aI p4 :: ls) [aI p4, aR r0, aR r1] M b) := (wp_s rfl rfl).trans rfl
set_option maxRecDepth 30000 in
theorem w254_1786 {x0 : Int32} {r1 : Option Nat} {r2 : Option Nat} {ls : List AV} : wp C 254 (n + 1) 1786 ls [aI x0, aR r1, aR r2] M b = (wp C 254 n 1787 ls [aI (iZ 1), aI x0, aR r1, aR r2] M b) := (wp_s rfl rfl).trans rfl
set_option maxRecDepth 30000 in
theorem w254_1787 {x0 : Int32} {x1 : Int32} {r2 : Option Nat} {r3 : Option Nat} {ls : List AV} : wp C 254 (n + 1) 1787 ls [aI x0, aI x1, aR r2, aR r3] M b = (wp C 254 n 1788 ls [aI (x1 + x0), aR r2, aR r3] M b) := (wp_s rfl rfl).trans rfl
set_option maxRecDepth 30000 in
theorem w254_1788 {x0 : Int32} {a1 : Nat} {r2 : Option Nat} {ls : List AV} : wp C 254 (n + 1) 1788 ls [aI x0, aR (some a1), aR r2] M b = ((a1 = 60 ∧ inb x0 (cL C)) ∧ wp C 254 n 1789 ls [aI (cS C (iN x0)), aR r2] M b) := (wp_s rfl rfl).trans rfl
set_option maxRecDepth 30000 in
theorem w254_1789 {v0 : AV} {v1 : AV} {v2 : AV} {o3 : Option Nat} {x0 : Int32} {r1 : Option Nat} {ls : List AV} : wp C 254 (n + 1) 1789 (v0 :: v1 :: v2 :: aR o3 :: ls) [aI x0, aR r1] M b = (wp C 254 n 1790 (v0 :: v1 :: v2 :: aR o3 :: ls) [aR o3, aI x0, aR r1] M b) := (wp_s rfl rfl).trans rfl
set_option maxRecDepth 30000 in
theorem w254_1790 {r0 : Option Nat} {x1 : Int32} {r2 : Option Nat} {ls : List AV} : wp C 254 (n + 1) 1790 ls [aR r0, aI x1, aR r2] M b = (CALL C 253 [aR r2, aI x1, aR r0] M b (kR (wp C 254 n 1793 ls) []) (cX C)) := (wp_s (x := (.invokestatic 180, 3, 253, 3)) rfl rfl).trans (cs_row (by decide) (Nat.le_of_ble_eq_true rfl) (Nat.le_of_ble_eq_true rfl))
set_option maxRecDepth 30000 in
theorem w254_1793 {v0 : AV} {v1 : AV} {v2 : AV} {v3 : AV} {p4 : Int32} {v5 : AV} {x0 : Int32} {ls : List AV} : wp C 254 (n + 1) 1793 (v0 :: v1 :: v2 :: v3 :: aI p4 :: v5 :: ls) [aI x0] M b = (wp C 254 n 1795 (v0 :: v1 :: v2 :: v3 :: aI p4 :: aI x0 :: ls) [] M b) := (wp_s rfl rfl).trans rfl
set_option maxRecDepth 30000 in
theorem w254_1795 {v0 : AV} {v1 : AV} {o2 : Option Nat} {ls : List AV} : wp C 254 (n + 1) 1795 (v0 :: v1 :: aR o2 :: ls) [] M b = (wp C 254 n 1796 (v0 :: v1 :: aR o2 :: ls) [aR o2] M b) := (wp_s rfl rfl).trans rfl
set_option maxRecDepth 30000 in
theorem w254_1796 {o0 : Option Nat} {r0 : Option Nat} {ls : List AV} : wp C 254 (n + 1) 1796 (aR o0 :: ls) [aR r0] M b = (wp C 254 n 1797 (aR o0 :: ls) [aR o0, aR r0] M b) := (wp_s rfl rfl).trans rfl
set_option maxRecDepth 30000 in
theorem w254_1797 {v0 : AV} {v1 : AV} {v2 : AV} {v3 : AV} {p4 : Int32} {r0 : Option Nat} {r1 : Option Nat} {ls : List AV} : wp C 254 (n + 1) 1797 (v0 :: v1 :: v2 :: v3 :: aI p4 :: ls) [aR r0, aR r1] M b = (wp C 254 n 1799 (v0 :: v1 :: v2 :: v3 :: aI p4 :: ls) [aI p4, aR r0, aR r1] M b) := (wp_s rfl rfl).trans rfl
set_option maxRecDepth 30000 in
theorem w254_1799 {x0 : Int32} {r1 : Option Nat} {r2 : Option Nat} {ls : List AV} : wp C 254 (n + 1) 1799 ls [aI x0, aR r1, aR r2] M b = (wp C 254 n 1800 ls [aI (iZ 1), aI x0, aR r1, aR r2] M b) := (wp_s rfl rfl).trans rfl
set_option maxRecDepth 30000 in
theorem w254_1800 {x0 : Int32} {x1 : Int32} {r2 : Option Nat} {r3 : Option Nat} {ls : List AV} : wp C 254 (n + 1) 1800 ls [aI x0, aI x1, aR r2, aR r3] M b = (wp C 254 n 1801 ls [aI (x1 + x0), aR r2, aR r3] M b) := (wp_s rfl rfl).trans rfl
set_option maxRecDepth 30000 in
theorem w254_1801 {x0 : Int32} {a1 : Nat} {r2 : Option Nat} {ls : List AV} : wp C 254 (n + 1) 1801 ls [aI x0, aR (some a1), aR r2] M b = ((a1 = 60 ∧ inb x0 (cL C)) ∧ wp C 254 n 1802 ls [aI (cS C (iN x0)), aR r2] M b) := (wp_s rfl rfl).trans rfl
set_option maxRecDepth 30000 in
theorem w254_1802 {x0 : Int32} {a1 : Nat} {ls : List AV} : wp C 254 (n + 1) 1802 ls [aI x0, aR (some a1)] M b = (oB M a1 12 ∧ CALL C 98 [aR (some a1), aI x0] M b (kR (wp C 254 n 1805 ls) []) (cX C)) := (wp_s (x := (.invokevirtual 182, 3, 98, 1)) rfl rfl).trans (cv_row (by decide) (Nat.le_of_ble_eq_true rfl) (Nat.le_of_ble_eq_true rfl) rfl)
set_option maxRecDepth 30000 in
theorem w254_1805 {v0 : AV} {v1 : AV} {v2 : AV} {v3 : AV} {v4 : AV} {p5 : Int32} {v6 : AV} {x0 : Int32} {ls : List AV} : wp C 254 (n + 1) 1805 (v0 :: v1 :: v2 :: v3 :: v4 :: aI p5 :: v6 :: ls) [aI x0] M b = (wp C 254 n 1807 (v0 :: v1 :: v2 :: v3 :: v4 :: aI p5 :: aI x0 :: ls) [] M b) := (wp_s rfl rfl).trans rfl
set_option maxRecDepth 30000 in
theorem w254_1807 {v0 : AV} {v1 : AV} {o2 : Option Nat} {ls : List AV} : wp C 254 (n + 1) 1807 (v0 :: v1 :: aR o2 :: ls) [] M b = (wp C 254 n 1808 (v0 :: v1 :: aR o2 :: ls) [aR o2] M b) := (wp_s rfl rfl).trans rfl
set_option maxRecDepth 30000 in
theorem w254_1808 {a0 : Nat} {ls : List AV} : wp C 254 (n + 1) 1808 ls [aR (some a0)] M b = (oB M a0 12 ∧ CALL C 19 [aR (some a0)] M b (kR (wp C 254 n 1811 ls) []) (cX C)) := (wp_s (x := (.invokevirtual 96, 3, 19, 0)) rfl rfl).trans (cv_row (by decide) (Nat.le_of_ble_eq_true rfl) (Nat.le_of_ble_eq_true rfl) rfl)
set_option maxRecDepth 30000 in
theorem w254_1811 {v0 : AV} {v1 : AV} {v2 : AV} {v3 : AV} {v4 : AV} {p5 : Int32} {x0 : Int32} {ls : List AV} : wp C 254 (n + 1) 1811 (v0 :: v1 :: v2 :: v3 :: v4 :: aI p5 :: ls) [aI x0] M b = (wp C 254 n 1813 (v0 :: v1 :: v2 :: v3 :: v4 :: aI p5 :: ls) [aI p5, aI x0] M b) := (wp_s rfl rfl).trans rfl
set_option maxRecDepth 30000 in
theorem w254_1813 {x0 : Int32} {x1 : Int32} {ls : List AV} : wp C 254 (n + 1) 1813 ls [aI x0, aI x1] M b = ((x1.toInt = x0.toInt → wp C 254 n 1818 ls [] M b) ∧ (¬ x1.toInt = x0.toInt → wp C 254 n 1816 ls [] M b)) := (wp_s (x := (.if_icmp .eq 5, 3, 1818, 0)) rfl rfl).trans ceq
set_option maxRecDepth 30000 in
theorem w254_1816 {ls : List AV} : wp C 254 (n + 1) 1816 ls [] M b = (wp C 254 n 1817 ls [aI (iZ 0)] M b) := (wp_s rfl rfl).trans rfl
set_option maxRecDepth 30000 in
theorem w254_1817 {x0 : Int32} {ls : List AV} : wp C 254 (n + 1) 1817 ls [aI x0] M b = (isB x0 ∧ cQ C (some (aI x0)) M) := (wp_s (x := (.ireturn, 1, 0, 0)) rfl rfl).trans (rt_Z rfl)
set_option maxRecDepth 30000 in
theorem w254_1818 {v0 : AV} {v1 : AV} {v2 : AV} {v3 : AV} {v4 : AV} {p5 : Int32} {ls : List AV} : wp C 254 (n + 1) 1818 (v0 :: v1 :: v2 :: v3 :: v4 :: aI p5 :: ls) [] M b = (wp C 254 n 1820 (v0 :: v1 :: v2 :: v3 :: v4 :: aI p5 :: ls) [aI p5] M b) := (wp_s rfl rfl).trans rfl
set_option maxRecDepth 30000 in
theorem w254_1820 {x0 : Int32} {ls : List AV} : wp C 254 (n + 1) 1820 ls [aI x0] M b = ((x0.toInt = 0 → wp C 254 n 1823 ls [] M b) ∧ (¬ x0.toInt = 0 → wp C 254 n 1835 ls [] M b)) := (wp_s (x := (.ifCond .ne 15, 3, 1835, 0)) rfl rfl).trans zne
set_option maxRecDepth 30000 in
theorem w254_1823 {v0 : AV} {v1 : AV} {v2 : AV} {o3 : Option Nat} {ls : List AV} : wp C 254 (n + 1) 1823 (v0 :: v1 :: v2 :: aR o3 :: ls) [] M b = (wp C 254 n 1824 (v0 :: v1 :: v2 :: aR o3 :: ls) [aR o3] M b) := (wp_s rfl rfl).trans rfl
set_option maxRecDepth 30000 in
theorem w254_1824 {r0 : Option Nat} {ls : List AV} : wp C 254 (n + 1) 1824 ls [aR r0] M b = (wp C 254 n 1825 ls [aI (iZ 0), aR r0] M b) := (wp_s rfl rfl).trans rfl
set_option maxRecDepth 30000 in
theorem w254_1825 {x0 : Int32} {a1 : Nat} {ls : List AV} : wp C 254 (n + 1) 1825 ls [aI x0, aR (some a1)] M b = (iA M a1 21 x0 ∧ wp C 254 n 1826 ls [aL (mJ M a1 (iN x0))] M b) := (wp_s rfl rfl).trans rfl
set_option maxRecDepth 30000 in
theorem w254_1826 {v0 : AV} {v1 : AV} {v2 : AV} {v3 : AV} {v4 : AV} {v5 : AV} {p6 : Int32} {y0 : Int64} {ls : List AV} : wp C 254 (n + 1) 1826 (v0 :: v1 :: v2 :: v3 :: v4 :: v5 :: aI p6 :: ls) [aL y0] M b = (wp C 254 n 1828 (v0 :: v1 :: v2 :: v3 :: v4 :: v5 :: aI p6 :: ls) [aI p6, aL y0] M b) := (wp_s rfl rfl).trans rfl
set_option maxRecDepth 30000 in
theorem w254_1828 {x0 : Int32} {y1 : Int64} {ls : List AV} : wp C 254 (n + 1) 1828 ls [aI x0, aL y1] M b = (wp C 254 n 1829 ls [aL x0.toInt64, aL y1] M b) := (wp_s rfl rfl).trans rfl
set_option maxRecDepth 30000 in
theorem w254_1829 {y0 : Int64} {y1 : Int64} {ls : List AV} : wp C 254 (n + 1) 1829 ls [aL y0, aL y1] M b = (wp C 254 n 1830 ls [aI (lg_cmp y1 y0)] M b) := (wp_s rfl rfl).trans rfl
set_option maxRecDepth 30000 in
theorem w254_1830 {x0 : Int32} {ls : List AV} : wp C 254 (n + 1) 1830 ls [aI x0] M b = ((x0.toInt = 0 → wp C 254 n 1835 ls [] M b) ∧ (¬ x0.toInt = 0 → wp C 254 n 1833 ls [] M b)) := (wp_s (x := (.ifCond .eq 5, 3, 1835, 0)) rfl rfl).trans zeq
set_option maxRecDepth 30000 in
theorem w254_1833 {ls : List AV} : wp C 254 (n + 1) 1833 ls [] M b = (wp C 254 n 1834 ls [aI (iZ 0)] M b) := (wp_s rfl rfl).trans rfl
set_option maxRecDepth 30000 in
theorem w254_1834 {x0 : Int32} {ls : List AV} : wp C 254 (n + 1) 1834 ls [aI x0] M b = (isB x0 ∧ cQ C (some (aI x0)) M) := (wp_s (x := (.ireturn, 1, 0, 0)) rfl rfl).trans (rt_Z rfl)
set_option maxRecDepth 30000 in
theorem w254_1835 {ls : List AV} : wp C 254 (n + 1) 1835 ls [] M b = (wp C 254 n 1838 ls [] M b) := (wp_s rfl rfl).trans rfl
set_option maxRecDepth 30000 in
theorem w254_1838 {v0 : AV} {v1 : AV} {v2 : AV} {o3 : Option Nat} {p4 : Int32} {ls : List AV} : wp C 254 (n + 1) 1838 (v0 :: v1 :: v2 :: aR o3 :: aI p4 :: ls) [] M b = (wp C 254 n 1841 (v0 :: v1 :: v2 :: aR o3 :: aI (p4 + iZ 6) :: ls) [] M b) := (wp_s rfl rfl).trans rfl
set_option maxRecDepth 30000 in
theorem w254_1841 {ls : List AV} : wp C 254 (n + 1) 1841 ls [] M b = (wp C 254 n 23 ls [] M b) := (wp_s rfl rfl).trans rfl
set_option maxRecDepth 30000 in
theorem w254_1844 {ls : List AV} : wp C 254 (n + 1) 1844 ls [] M b = (wp C 254 n 1845 ls [aI (iZ 1)] M b) := (wp_s rfl rfl).trans rfl
set_option maxRecDepth 30000 in
theorem w254_1845 {x0 : Int32} {ls : List AV} : wp C 254 (n + 1) 1845 ls [aI x0] M b = (isB x0 ∧ cQ C (some (aI x0)) M) := (wp_s (x := (.ireturn, 1, 0, 0)) rfl rfl).trans (rt_Z rfl)
end

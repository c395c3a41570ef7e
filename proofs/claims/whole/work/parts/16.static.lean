/-! The cells that the constructors make (printed by wip/whole/gen/static.py). -/
def skL : List (Nat × Nat × Nat) := [(61, 11, 12), (62, 4, 5), (63, 20, 24), (64, 20, 24), (65, 20, 24), (66, 26, 24), (67, 21, 24), (68, 21, 24), (69, 21, 24), (70, 21, 24), (71, 21, 24), (72, 21, 24), (73, 21, 24), (74, 21, 24), (75, 21, 24), (76, 21, 24), (77, 21, 24), (78, 21, 24), (79, 21, 24), (80, 21, 24), (81, 21, 24), (82, 21, 24), (83, 21, 24), (84, 21, 24), (85, 21, 24), (86, 21, 24), (87, 21, 24), (88, 21, 24), (89, 21, 24), (90, 21, 24), (91, 10, 9), (92, 20, 600), (93, 20, 600), (94, 23, 6), (95, 1, 6), (96, 20, 10), (97, 9, 12), (98, 23, 20), (99, 20, 20), (100, 20, 20), (101, 24, 120), (102, 20, 40), (103, 20, 40), (104, 20, 40), (105, 20, 40), (106, 5, 4), (107, 20, 24), (108, 20, 24), (109, 20, 20), (110, 8, 6), (111, 20, 6), (112, 25, 24), (113, 20, 6), (114, 20, 6), (115, 20, 6), (116, 20, 6), (117, 20, 6), (118, 20, 6), (119, 20, 6), (120, 20, 6), (121, 20, 6), (122, 20, 6), (123, 20, 6), (124, 20, 6), (125, 20, 6), (126, 20, 6), (127, 20, 6), (128, 20, 6), (129, 20, 6), (130, 20, 6), (131, 20, 6), (132, 20, 6), (133, 20, 6), (134, 20, 6), (135, 20, 6), (136, 20, 6), (137, 25, 6), (138, 20, 6), (139, 20, 6), (140, 20, 6), (141, 20, 6), (142, 20, 6), (143, 20, 6), (144, 20, 6), (145, 20, 6), (146, 2, 10), (147, 20, 8), (148, 20, 8), (149, 20, 8), (150, 20, 8), (151, 20, 8), (152, 20, 12), (153, 20, 12), (154, 12, 90), (155, 27, 18), (156, 27, 7), (157, 20, 24), (158, 20, 24), (159, 20, 24), (160, 21, 576), (161, 20, 600), (162, 20, 108), (163, 20, 864), (164, 20, 6), (165, 20, 48), (166, 20, 6), (167, 20, 60), (168, 20, 60), (169, 20, 6), (170, 20, 120), (171, 20, 120), (172, 20, 6), (173, 20, 48), (174, 20, 6), (175, 20, 6), (176, 20, 5400), (177, 20, 7), (178, 20, 200), (179, 20, 20), (180, 20, 20), (181, 20, 20), (182, 20, 120), (183, 20, 120), (184, 20, 120), (185, 20, 120), (186, 20, 201), (187, 20, 201), (188, 20, 201), (189, 20, 201), (190, 20, 201), (191, 20, 8040), (192, 20, 8040), (193, 20, 8040), (194, 22, 201), (195, 20, 40), (196, 20, 40), (197, 20, 40), (198, 20, 40), (199, 20, 8), (200, 20, 8), (201, 20, 8), (202, 20, 8), (203, 20, 120), (204, 20, 120), (205, 20, 960), (206, 20, 40), (207, 20, 10), (208, 22, 120), (209, 22, 120), (210, 20, 24), (211, 20, 24), (212, 20, 120), (213, 20, 4), (214, 20, 4), (215, 21, 36), (216, 21, 6), (217, 21, 36), (218, 20, 6), (219, 20, 6), (220, 20, 6), (221, 21, 1)]
def spL : List (Nat × Nat × Nat) := [(61, 3, 62), (61, 4, 91), (61, 5, 94), (61, 7, 95), (61, 8, 97), (61, 9, 106), (61, 10, 110), (61, 11, 146), (62, 1, 63), (62, 2, 64), (62, 3, 65), (62, 4, 66), (66, 0, 67), (66, 1, 68), (66, 2, 69), (66, 3, 70), (66, 4, 71), (66, 5, 72), (66, 6, 73), (66, 7, 74), (66, 8, 75), (66, 9, 76), (66, 10, 77), (66, 11, 78), (66, 12, 79), (66, 13, 80), (66, 14, 81), (66, 15, 82), (66, 16, 83), (66, 17, 84), (66, 18, 85), (66, 19, 86), (66, 20, 87), (66, 21, 88), (66, 22, 89), (66, 23, 90), (91, 4, 92), (91, 5, 93), (95, 5, 96), (97, 1, 98), (97, 2, 99), (97, 3, 100), (97, 5, 101), (97, 8, 102), (97, 9, 103), (97, 10, 104), (97, 11, 105), (106, 0, 107), (106, 1, 108), (106, 2, 109), (110, 0, 111), (110, 1, 112), (110, 2, 137), (110, 3, 144), (110, 4, 145), (112, 0, 113), (112, 1, 114), (112, 2, 115), (112, 3, 116), (112, 4, 117), (112, 5, 118), (112, 6, 119), (112, 7, 120), (112, 8, 121), (112, 9, 122), (112, 10, 123), (112, 11, 124), (112, 12, 125), (112, 13, 126), (112, 14, 127), (112, 15, 128), (112, 16, 129), (112, 17, 130), (112, 18, 131), (112, 19, 132), (112, 20, 133), (112, 21, 134), (112, 22, 135), (112, 23, 136), (137, 0, 138), (137, 1, 139), (137, 2, 140), (137, 3, 141), (137, 4, 142), (137, 5, 143), (146, 2, 147), (146, 3, 148), (146, 4, 149), (146, 5, 150), (146, 6, 151), (146, 7, 152), (146, 8, 153), (154, 0, 155), (154, 1, 156), (154, 7, 157), (154, 8, 158), (154, 9, 159), (154, 10, 160), (154, 11, 161), (154, 25, 162), (154, 26, 163), (154, 27, 164), (154, 28, 165), (154, 29, 166), (154, 30, 167), (154, 31, 168), (154, 32, 169), (154, 33, 170), (154, 34, 171), (154, 35, 172), (154, 36, 173), (154, 37, 174), (154, 38, 175), (154, 39, 176), (154, 40, 177), (154, 41, 178), (154, 46, 179), (154, 47, 180), (154, 48, 181), (154, 49, 182), (154, 50, 183), (154, 51, 184), (154, 52, 185), (154, 53, 186), (154, 54, 187), (154, 55, 188), (154, 56, 189), (154, 57, 190), (154, 58, 191), (154, 59, 192), (154, 60, 193), (154, 61, 194), (154, 62, 195), (154, 63, 196), (154, 64, 197), (154, 65, 198), (154, 68, 199), (154, 69, 200), (154, 70, 201), (154, 71, 202), (154, 72, 203), (154, 73, 204), (154, 74, 205), (154, 75, 206), (154, 76, 207), (154, 77, 208), (154, 78, 209), (154, 79, 210), (154, 80, 211), (154, 81, 212), (154, 82, 213), (154, 83, 214), (154, 84, 215), (154, 85, 216), (154, 86, 217), (154, 87, 218), (154, 88, 219), (154, 89, 220), (155, 0, 12), (155, 1, 13), (155, 2, 14), (155, 3, 15), (155, 4, 16), (155, 5, 17), (155, 6, 18), (155, 7, 19), (155, 8, 20), (155, 9, 21), (155, 10, 22), (155, 11, 23), (155, 12, 24), (155, 13, 25), (155, 14, 26), (155, 15, 27), (155, 16, 28), (155, 17, 29), (156, 0, 24), (156, 1, 25), (156, 2, 26), (156, 3, 27), (156, 4, 28), (156, 5, 29), (156, 6, 19)]
def Static (M : Mem) : Prop := 222 ≤ mN M ∧ (∀ q ∈ skL, mK M q.1 = q.2) ∧ ∀ q ∈ spL, mP M q.1 q.2.1 = some q.2.2
section
variable {M : Mem}
theorem K61 (h : Static M) : mK M 61 = (11, 12) := h.2.1 (61, 11, 12) (List.mem_of_getElem? (i := 0) rfl)
theorem O61 (h : Static M) : oB M 61 11 = True := eq_true ⟨by decide, Nat.lt_of_lt_of_le (by decide) h.1, by rw [K61 h]⟩
theorem K62 (h : Static M) : mK M 62 = (4, 5) := h.2.1 (62, 4, 5) (List.mem_of_getElem? (i := 1) rfl)
theorem O62 (h : Static M) : oB M 62 4 = True := eq_true ⟨by decide, Nat.lt_of_lt_of_le (by decide) h.1, by rw [K62 h]⟩
theorem K63 (h : Static M) : mK M 63 = (20, 24) := h.2.1 (63, 20, 24) (List.mem_of_getElem? (i := 2) rfl)
theorem O63 (h : Static M) : oB M 63 20 = True := eq_true ⟨by decide, Nat.lt_of_lt_of_le (by decide) h.1, by rw [K63 h]⟩
theorem A63 (h : Static M) {i : Int32} : iA M 63 20 i = inb i 24 := by unfold iA; rw [O63 h, K63 h, true_and]
theorem K64 (h : Static M) : mK M 64 = (20, 24) := h.2.1 (64, 20, 24) (List.mem_of_getElem? (i := 3) rfl)
theorem O64 (h : Static M) : oB M 64 20 = True := eq_true ⟨by decide, Nat.lt_of_lt_of_le (by decide) h.1, by rw [K64 h]⟩
theorem A64 (h : Static M) {i : Int32} : iA M 64 20 i = inb i 24 := by unfold iA; rw [O64 h, K64 h, true_and]
theorem K65 (h : Static M) : mK M 65 = (20, 24) := h.2.1 (65, 20, 24) (List.mem_of_getElem? (i := 4) rfl)
theorem O65 (h : Static M) : oB M 65 20 = True := eq_true ⟨by decide, Nat.lt_of_lt_of_le (by decide) h.1, by rw [K65 h]⟩
theorem A65 (h : Static M) {i : Int32} : iA M 65 20 i = inb i 24 := by unfold iA; rw [O65 h, K65 h, true_and]
theorem K66 (h : Static M) : mK M 66 = (26, 24) := h.2.1 (66, 26, 24) (List.mem_of_getElem? (i := 5) rfl)
theorem O66 (h : Static M) : oB M 66 26 = True := eq_true ⟨by decide, Nat.lt_of_lt_of_le (by decide) h.1, by rw [K66 h]⟩
theorem A66 (h : Static M) {i : Int32} : iA M 66 26 i = inb i 24 := by unfold iA; rw [O66 h, K66 h, true_and]
theorem R66 (h : Static M) {i : Int32} : iR M 66 i = inb i 24 := by unfold iR iA oB; rw [K66 h]; simp [Nat.lt_of_lt_of_le (by decide : 66 < 222) h.1]
theorem K67 (h : Static M) : mK M 67 = (21, 24) := h.2.1 (67, 21, 24) (List.mem_of_getElem? (i := 6) rfl)
theorem O67 (h : Static M) : oB M 67 21 = True := eq_true ⟨by decide, Nat.lt_of_lt_of_le (by decide) h.1, by rw [K67 h]⟩
theorem A67 (h : Static M) {i : Int32} : iA M 67 21 i = inb i 24 := by unfold iA; rw [O67 h, K67 h, true_and]
theorem K68 (h : Static M) : mK M 68 = (21, 24) := h.2.1 (68, 21, 24) (List.mem_of_getElem? (i := 7) rfl)
theorem O68 (h : Static M) : oB M 68 21 = True := eq_true ⟨by decide, Nat.lt_of_lt_of_le (by decide) h.1, by rw [K68 h]⟩
theorem A68 (h : Static M) {i : Int32} : iA M 68 21 i = inb i 24 := by unfold iA; rw [O68 h, K68 h, true_and]
theorem K69 (h : Static M) : mK M 69 = (21, 24) := h.2.1 (69, 21, 24) (List.mem_of_getElem? (i := 8) rfl)
theorem O69 (h : Static M) : oB M 69 21 = True := eq_true ⟨by decide, Nat.lt_of_lt_of_le (by decide) h.1, by rw [K69 h]⟩
theorem A69 (h : Static M) {i : Int32} : iA M 69 21 i = inb i 24 := by unfold iA; rw [O69 h, K69 h, true_and]
theorem K70 (h : Static M) : mK M 70 = (21, 24) := h.2.1 (70, 21, 24) (List.mem_of_getElem? (i := 9) rfl)
theorem O70 (h : Static M) : oB M 70 21 = True := eq_true ⟨by decide, Nat.lt_of_lt_of_le (by decide) h.1, by rw [K70 h]⟩
theorem A70 (h : Static M) {i : Int32} : iA M 70 21 i = inb i 24 := by unfold iA; rw [O70 h, K70 h, true_and]
theorem K71 (h : Static M) : mK M 71 = (21, 24) := h.2.1 (71, 21, 24) (List.mem_of_getElem? (i := 10) rfl)
theorem O71 (h : Static M) : oB M 71 21 = True := eq_true ⟨by decide, Nat.lt_of_lt_of_le (by decide) h.1, by rw [K71 h]⟩
theorem A71 (h : Static M) {i : Int32} : iA M 71 21 i = inb i 24 := by unfold iA; rw [O71 h, K71 h, true_and]
theorem K72 (h : Static M) : mK M 72 = (21, 24) := h.2.1 (72, 21, 24) (List.mem_of_getElem? (i := 11) rfl)
theorem O72 (h : Static M) : oB M 72 21 = True := eq_true ⟨by decide, Nat.lt_of_lt_of_le (by decide) h.1, by rw [K72 h]⟩
theorem A72 (h : Static M) {i : Int32} : iA M 72 21 i = inb i 24 := by unfold iA; rw [O72 h, K72 h, true_and]
theorem K73 (h : Static M) : mK M 73 = (21, 24) := h.2.1 (73, 21, 24) (List.mem_of_getElem? (i := 12) rfl)
theorem O73 (h : Static M) : oB M 73 21 = True := eq_true ⟨by decide, Nat.lt_of_lt_of_le (by decide) h.1, by rw [K73 h]⟩
theorem A73 (h : Static M) {i : Int32} : iA M 73 21 i = inb i 24 := by unfold iA; rw [O73 h, K73 h, true_and]
theorem K74 (h : Static M) : mK M 74 = (21, 24) := h.2.1 (74, 21, 24) (List.mem_of_getElem? (i := 13) rfl)
theorem O74 (h : Static M) : oB M 74 21 = True := eq_true ⟨by decide, Nat.lt_of_lt_of_le (by decide) h.1, by rw [K74 h]⟩
theorem A74 (h : Static M) {i : Int32} : iA M 74 21 i = inb i 24 := by unfold iA; rw [O74 h, K74 h, true_and]
theorem K75 (h : Static M) : mK M 75 = (21, 24) := h.2.1 (75, 21, 24) (List.mem_of_getElem? (i := 14) rfl)
theorem O75 (h : Static M) : oB M 75 21 = True := eq_true ⟨by decide, Nat.lt_of_lt_of_le (by decide) h.1, by rw [K75 h]⟩
theorem A75 (h : Static M) {i : Int32} : iA M 75 21 i = inb i 24 := by unfold iA; rw [O75 h, K75 h, true_and]
theorem K76 (h : Static M) : mK M 76 = (21, 24) := h.2.1 (76, 21, 24) (List.mem_of_getElem? (i := 15) rfl)
theorem O76 (h : Static M) : oB M 76 21 = True := eq_true ⟨by decide, Nat.lt_of_lt_of_le (by decide) h.1, by rw [K76 h]⟩
theorem A76 (h : Static M) {i : Int32} : iA M 76 21 i = inb i 24 := by unfold iA; rw [O76 h, K76 h, true_and]
theorem K77 (h : Static M) : mK M 77 = (21, 24) := h.2.1 (77, 21, 24) (List.mem_of_getElem? (i := 16) rfl)
theorem O77 (h : Static M) : oB M 77 21 = True := eq_true ⟨by decide, Nat.lt_of_lt_of_le (by decide) h.1, by rw [K77 h]⟩
theorem A77 (h : Static M) {i : Int32} : iA M 77 21 i = inb i 24 := by unfold iA; rw [O77 h, K77 h, true_and]
theorem K78 (h : Static M) : mK M 78 = (21, 24) := h.2.1 (78, 21, 24) (List.mem_of_getElem? (i := 17) rfl)
theorem O78 (h : Static M) : oB M 78 21 = True := eq_true ⟨by decide, Nat.lt_of_lt_of_le (by decide) h.1, by rw [K78 h]⟩
theorem A78 (h : Static M) {i : Int32} : iA M 78 21 i = inb i 24 := by unfold iA; rw [O78 h, K78 h, true_and]
theorem K79 (h : Static M) : mK M 79 = (21, 24) := h.2.1 (79, 21, 24) (List.mem_of_getElem? (i := 18) rfl)
theorem O79 (h : Static M) : oB M 79 21 = True := eq_true ⟨by decide, Nat.lt_of_lt_of_le (by decide) h.1, by rw [K79 h]⟩
theorem A79 (h : Static M) {i : Int32} : iA M 79 21 i = inb i 24 := by unfold iA; rw [O79 h, K79 h, true_and]
theorem K80 (h : Static M) : mK M 80 = (21, 24) := h.2.1 (80, 21, 24) (List.mem_of_getElem? (i := 19) rfl)
theorem O80 (h : Static M) : oB M 80 21 = True := eq_true ⟨by decide, Nat.lt_of_lt_of_le (by decide) h.1, by rw [K80 h]⟩
theorem A80 (h : Static M) {i : Int32} : iA M 80 21 i = inb i 24 := by unfold iA; rw [O80 h, K80 h, true_and]
theorem K81 (h : Static M) : mK M 81 = (21, 24) := h.2.1 (81, 21, 24) (List.mem_of_getElem? (i := 20) rfl)
theorem O81 (h : Static M) : oB M 81 21 = True := eq_true ⟨by decide, Nat.lt_of_lt_of_le (by decide) h.1, by rw [K81 h]⟩
theorem A81 (h : Static M) {i : Int32} : iA M 81 21 i = inb i 24 := by unfold iA; rw [O81 h, K81 h, true_and]
theorem K82 (h : Static M) : mK M 82 = (21, 24) := h.2.1 (82, 21, 24) (List.mem_of_getElem? (i := 21) rfl)
theorem O82 (h : Static M) : oB M 82 21 = True := eq_true ⟨by decide, Nat.lt_of_lt_of_le (by decide) h.1, by rw [K82 h]⟩
theorem A82 (h : Static M) {i : Int32} : iA M 82 21 i = inb i 24 := by unfold iA; rw [O82 h, K82 h, true_and]
theorem K83 (h : Static M) : mK M 83 = (21, 24) := h.2.1 (83, 21, 24) (List.mem_of_getElem? (i := 22) rfl)
theorem O83 (h : Static M) : oB M 83 21 = True := eq_true ⟨by decide, Nat.lt_of_lt_of_le (by decide) h.1, by rw [K83 h]⟩
theorem A83 (h : Static M) {i : Int32} : iA M 83 21 i = inb i 24 := by unfold iA; rw [O83 h, K83 h, true_and]
theorem K84 (h : Static M) : mK M 84 = (21, 24) := h.2.1 (84, 21, 24) (List.mem_of_getElem? (i := 23) rfl)
theorem O84 (h : Static M) : oB M 84 21 = True := eq_true ⟨by decide, Nat.lt_of_lt_of_le (by decide) h.1, by rw [K84 h]⟩
theorem A84 (h : Static M) {i : Int32} : iA M 84 21 i = inb i 24 := by unfold iA; rw [O84 h, K84 h, true_and]
theorem K85 (h : Static M) : mK M 85 = (21, 24) := h.2.1 (85, 21, 24) (List.mem_of_getElem? (i := 24) rfl)
theorem O85 (h : Static M) : oB M 85 21 = True := eq_true ⟨by decide, Nat.lt_of_lt_of_le (by decide) h.1, by rw [K85 h]⟩
theorem A85 (h : Static M) {i : Int32} : iA M 85 21 i = inb i 24 := by unfold iA; rw [O85 h, K85 h, true_and]
theorem K86 (h : Static M) : mK M 86 = (21, 24) := h.2.1 (86, 21, 24) (List.mem_of_getElem? (i := 25) rfl)
theorem O86 (h : Static M) : oB M 86 21 = True := eq_true ⟨by decide, Nat.lt_of_lt_of_le (by decide) h.1, by rw [K86 h]⟩
theorem A86 (h : Static M) {i : Int32} : iA M 86 21 i = inb i 24 := by unfold iA; rw [O86 h, K86 h, true_and]
theorem K87 (h : Static M) : mK M 87 = (21, 24) := h.2.1 (87, 21, 24) (List.mem_of_getElem? (i := 26) rfl)
theorem O87 (h : Static M) : oB M 87 21 = True := eq_true ⟨by decide, Nat.lt_of_lt_of_le (by decide) h.1, by rw [K87 h]⟩
theorem A87 (h : Static M) {i : Int32} : iA M 87 21 i = inb i 24 := by unfold iA; rw [O87 h, K87 h, true_and]
theorem K88 (h : Static M) : mK M 88 = (21, 24) := h.2.1 (88, 21, 24) (List.mem_of_getElem? (i := 27) rfl)
theorem O88 (h : Static M) : oB M 88 21 = True := eq_true ⟨by decide, Nat.lt_of_lt_of_le (by decide) h.1, by rw [K88 h]⟩
theorem A88 (h : Static M) {i : Int32} : iA M 88 21 i = inb i 24 := by unfold iA; rw [O88 h, K88 h, true_and]
theorem K89 (h : Static M) : mK M 89 = (21, 24) := h.2.1 (89, 21, 24) (List.mem_of_getElem? (i := 28) rfl)
theorem O89 (h : Static M) : oB M 89 21 = True := eq_true ⟨by decide, Nat.lt_of_lt_of_le (by decide) h.1, by rw [K89 h]⟩
theorem A89 (h : Static M) {i : Int32} : iA M 89 21 i = inb i 24 := by unfold iA; rw [O89 h, K89 h, true_and]
theorem K90 (h : Static M) : mK M 90 = (21, 24) := h.2.1 (90, 21, 24) (List.mem_of_getElem? (i := 29) rfl)
theorem O90 (h : Static M) : oB M 90 21 = True := eq_true ⟨by decide, Nat.lt_of_lt_of_le (by decide) h.1, by rw [K90 h]⟩
theorem A90 (h : Static M) {i : Int32} : iA M 90 21 i = inb i 24 := by unfold iA; rw [O90 h, K90 h, true_and]
theorem K91 (h : Static M) : mK M 91 = (10, 9) := h.2.1 (91, 10, 9) (List.mem_of_getElem? (i := 30) rfl)
theorem O91 (h : Static M) : oB M 91 10 = True := eq_true ⟨by decide, Nat.lt_of_lt_of_le (by decide) h.1, by rw [K91 h]⟩
theorem K92 (h : Static M) : mK M 92 = (20, 600) := h.2.1 (92, 20, 600) (List.mem_of_getElem? (i := 31) rfl)
theorem O92 (h : Static M) : oB M 92 20 = True := eq_true ⟨by decide, Nat.lt_of_lt_of_le (by decide) h.1, by rw [K92 h]⟩
theorem A92 (h : Static M) {i : Int32} : iA M 92 20 i = inb i 600 := by unfold iA; rw [O92 h, K92 h, true_and]
theorem K93 (h : Static M) : mK M 93 = (20, 600) := h.2.1 (93, 20, 600) (List.mem_of_getElem? (i := 32) rfl)
theorem O93 (h : Static M) : oB M 93 20 = True := eq_true ⟨by decide, Nat.lt_of_lt_of_le (by decide) h.1, by rw [K93 h]⟩
theorem A93 (h : Static M) {i : Int32} : iA M 93 20 i = inb i 600 := by unfold iA; rw [O93 h, K93 h, true_and]
theorem K94 (h : Static M) : mK M 94 = (23, 6) := h.2.1 (94, 23, 6) (List.mem_of_getElem? (i := 33) rfl)
theorem O94 (h : Static M) : oB M 94 23 = True := eq_true ⟨by decide, Nat.lt_of_lt_of_le (by decide) h.1, by rw [K94 h]⟩
theorem A94 (h : Static M) {i : Int32} : iA M 94 23 i = inb i 6 := by unfold iA; rw [O94 h, K94 h, true_and]
theorem R94 (h : Static M) {i : Int32} : iR M 94 i = inb i 6 := by unfold iR iA oB; rw [K94 h]; simp [Nat.lt_of_lt_of_le (by decide : 94 < 222) h.1]
theorem K95 (h : Static M) : mK M 95 = (1, 6) := h.2.1 (95, 1, 6) (List.mem_of_getElem? (i := 34) rfl)
theorem O95 (h : Static M) : oB M 95 1 = True := eq_true ⟨by decide, Nat.lt_of_lt_of_le (by decide) h.1, by rw [K95 h]⟩
theorem K96 (h : Static M) : mK M 96 = (20, 10) := h.2.1 (96, 20, 10) (List.mem_of_getElem? (i := 35) rfl)
theorem O96 (h : Static M) : oB M 96 20 = True := eq_true ⟨by decide, Nat.lt_of_lt_of_le (by decide) h.1, by rw [K96 h]⟩
theorem A96 (h : Static M) {i : Int32} : iA M 96 20 i = inb i 10 := by unfold iA; rw [O96 h, K96 h, true_and]
theorem K97 (h : Static M) : mK M 97 = (9, 12) := h.2.1 (97, 9, 12) (List.mem_of_getElem? (i := 36) rfl)
theorem O97 (h : Static M) : oB M 97 9 = True := eq_true ⟨by decide, Nat.lt_of_lt_of_le (by decide) h.1, by rw [K97 h]⟩
theorem K98 (h : Static M) : mK M 98 = (23, 20) := h.2.1 (98, 23, 20) (List.mem_of_getElem? (i := 37) rfl)
theorem O98 (h : Static M) : oB M 98 23 = True := eq_true ⟨by decide, Nat.lt_of_lt_of_le (by decide) h.1, by rw [K98 h]⟩
theorem A98 (h : Static M) {i : Int32} : iA M 98 23 i = inb i 20 := by unfold iA; rw [O98 h, K98 h, true_and]
theorem R98 (h : Static M) {i : Int32} : iR M 98 i = inb i 20 := by unfold iR iA oB; rw [K98 h]; simp [Nat.lt_of_lt_of_le (by decide : 98 < 222) h.1]
theorem K99 (h : Static M) : mK M 99 = (20, 20) := h.2.1 (99, 20, 20) (List.mem_of_getElem? (i := 38) rfl)
theorem O99 (h : Static M) : oB M 99 20 = True := eq_true ⟨by decide, Nat.lt_of_lt_of_le (by decide) h.1, by rw [K99 h]⟩
theorem A99 (h : Static M) {i : Int32} : iA M 99 20 i = inb i 20 := by unfold iA; rw [O99 h, K99 h, true_and]
theorem K100 (h : Static M) : mK M 100 = (20, 20) := h.2.1 (100, 20, 20) (List.mem_of_getElem? (i := 39) rfl)
theorem O100 (h : Static M) : oB M 100 20 = True := eq_true ⟨by decide, Nat.lt_of_lt_of_le (by decide) h.1, by rw [K100 h]⟩
theorem A100 (h : Static M) {i : Int32} : iA M 100 20 i = inb i 20 := by unfold iA; rw [O100 h, K100 h, true_and]
theorem K101 (h : Static M) : mK M 101 = (24, 120) := h.2.1 (101, 24, 120) (List.mem_of_getElem? (i := 40) rfl)
theorem O101 (h : Static M) : oB M 101 24 = True := eq_true ⟨by decide, Nat.lt_of_lt_of_le (by decide) h.1, by rw [K101 h]⟩
theorem A101 (h : Static M) {i : Int32} : iA M 101 24 i = inb i 120 := by unfold iA; rw [O101 h, K101 h, true_and]
theorem R101 (h : Static M) {i : Int32} : iR M 101 i = inb i 120 := by unfold iR iA oB; rw [K101 h]; simp [Nat.lt_of_lt_of_le (by decide : 101 < 222) h.1]
theorem K102 (h : Static M) : mK M 102 = (20, 40) := h.2.1 (102, 20, 40) (List.mem_of_getElem? (i := 41) rfl)
theorem O102 (h : Static M) : oB M 102 20 = True := eq_true ⟨by decide, Nat.lt_of_lt_of_le (by decide) h.1, by rw [K102 h]⟩
theorem A102 (h : Static M) {i : Int32} : iA M 102 20 i = inb i 40 := by unfold iA; rw [O102 h, K102 h, true_and]
theorem K103 (h : Static M) : mK M 103 = (20, 40) := h.2.1 (103, 20, 40) (List.mem_of_getElem? (i := 42) rfl)
theorem O103 (h : Static M) : oB M 103 20 = True := eq_true ⟨by decide, Nat.lt_of_lt_of_le (by decide) h.1, by rw [K103 h]⟩
theorem A103 (h : Static M) {i : Int32} : iA M 103 20 i = inb i 40 := by unfold iA; rw [O103 h, K103 h, true_and]
theorem K104 (h : Static M) : mK M 104 = (20, 40) := h.2.1 (104, 20, 40) (List.mem_of_getElem? (i := 43) rfl)
theorem O104 (h : Static M) : oB M 104 20 = True := eq_true ⟨by decide, Nat.lt_of_lt_of_le (by decide) h.1, by rw [K104 h]⟩
theorem A104 (h : Static M) {i : Int32} : iA M 104 20 i = inb i 40 := by unfold iA; rw [O104 h, K104 h, true_and]
theorem K105 (h : Static M) : mK M 105 = (20, 40) := h.2.1 (105, 20, 40) (List.mem_of_getElem? (i := 44) rfl)
theorem O105 (h : Static M) : oB M 105 20 = True := eq_true ⟨by decide, Nat.lt_of_lt_of_le (by decide) h.1, by rw [K105 h]⟩
theorem A105 (h : Static M) {i : Int32} : iA M 105 20 i = inb i 40 := by unfold iA; rw [O105 h, K105 h, true_and]
theorem K106 (h : Static M) : mK M 106 = (5, 4) := h.2.1 (106, 5, 4) (List.mem_of_getElem? (i := 45) rfl)
theorem O106 (h : Static M) : oB M 106 5 = True := eq_true ⟨by decide, Nat.lt_of_lt_of_le (by decide) h.1, by rw [K106 h]⟩
theorem K107 (h : Static M) : mK M 107 = (20, 24) := h.2.1 (107, 20, 24) (List.mem_of_getElem? (i := 46) rfl)
theorem O107 (h : Static M) : oB M 107 20 = True := eq_true ⟨by decide, Nat.lt_of_lt_of_le (by decide) h.1, by rw [K107 h]⟩
theorem A107 (h : Static M) {i : Int32} : iA M 107 20 i = inb i 24 := by unfold iA; rw [O107 h, K107 h, true_and]
theorem K108 (h : Static M) : mK M 108 = (20, 24) := h.2.1 (108, 20, 24) (List.mem_of_getElem? (i := 47) rfl)
theorem O108 (h : Static M) : oB M 108 20 = True := eq_true ⟨by decide, Nat.lt_of_lt_of_le (by decide) h.1, by rw [K108 h]⟩
theorem A108 (h : Static M) {i : Int32} : iA M 108 20 i = inb i 24 := by unfold iA; rw [O108 h, K108 h, true_and]
theorem K109 (h : Static M) : mK M 109 = (20, 20) := h.2.1 (109, 20, 20) (List.mem_of_getElem? (i := 48) rfl)
theorem O109 (h : Static M) : oB M 109 20 = True := eq_true ⟨by decide, Nat.lt_of_lt_of_le (by decide) h.1, by rw [K109 h]⟩
theorem A109 (h : Static M) {i : Int32} : iA M 109 20 i = inb i 20 := by unfold iA; rw [O109 h, K109 h, true_and]
theorem K110 (h : Static M) : mK M 110 = (8, 6) := h.2.1 (110, 8, 6) (List.mem_of_getElem? (i := 49) rfl)
theorem O110 (h : Static M) : oB M 110 8 = True := eq_true ⟨by decide, Nat.lt_of_lt_of_le (by decide) h.1, by rw [K110 h]⟩
theorem K111 (h : Static M) : mK M 111 = (20, 6) := h.2.1 (111, 20, 6) (List.mem_of_getElem? (i := 50) rfl)
theorem O111 (h : Static M) : oB M 111 20 = True := eq_true ⟨by decide, Nat.lt_of_lt_of_le (by decide) h.1, by rw [K111 h]⟩
theorem A111 (h : Static M) {i : Int32} : iA M 111 20 i = inb i 6 := by unfold iA; rw [O111 h, K111 h, true_and]
theorem K112 (h : Static M) : mK M 112 = (25, 24) := h.2.1 (112, 25, 24) (List.mem_of_getElem? (i := 51) rfl)
theorem O112 (h : Static M) : oB M 112 25 = True := eq_true ⟨by decide, Nat.lt_of_lt_of_le (by decide) h.1, by rw [K112 h]⟩
theorem A112 (h : Static M) {i : Int32} : iA M 112 25 i = inb i 24 := by unfold iA; rw [O112 h, K112 h, true_and]
theorem R112 (h : Static M) {i : Int32} : iR M 112 i = inb i 24 := by unfold iR iA oB; rw [K112 h]; simp [Nat.lt_of_lt_of_le (by decide : 112 < 222) h.1]
theorem K113 (h : Static M) : mK M 113 = (20, 6) := h.2.1 (113, 20, 6) (List.mem_of_getElem? (i := 52) rfl)
theorem O113 (h : Static M) : oB M 113 20 = True := eq_true ⟨by decide, Nat.lt_of_lt_of_le (by decide) h.1, by rw [K113 h]⟩
theorem A113 (h : Static M) {i : Int32} : iA M 113 20 i = inb i 6 := by unfold iA; rw [O113 h, K113 h, true_and]
theorem K114 (h : Static M) : mK M 114 = (20, 6) := h.2.1 (114, 20, 6) (List.mem_of_getElem? (i := 53) rfl)
theorem O114 (h : Static M) : oB M 114 20 = True := eq_true ⟨by decide, Nat.lt_of_lt_of_le (by decide) h.1, by rw [K114 h]⟩
theorem A114 (h : Static M) {i : Int32} : iA M 114 20 i = inb i 6 := by unfold iA; rw [O114 h, K114 h, true_and]
theorem K115 (h : Static M) : mK M 115 = (20, 6) := h.2.1 (115, 20, 6) (List.mem_of_getElem? (i := 54) rfl)
theorem O115 (h : Static M) : oB M 115 20 = True := eq_true ⟨by decide, Nat.lt_of_lt_of_le (by decide) h.1, by rw [K115 h]⟩
theorem A115 (h : Static M) {i : Int32} : iA M 115 20 i = inb i 6 := by unfold iA; rw [O115 h, K115 h, true_and]
theorem K116 (h : Static M) : mK M 116 = (20, 6) := h.2.1 (116, 20, 6) (List.mem_of_getElem? (i := 55) rfl)
theorem O116 (h : Static M) : oB M 116 20 = True := eq_true ⟨by decide, Nat.lt_of_lt_of_le (by decide) h.1, by rw [K116 h]⟩
theorem A116 (h : Static M) {i : Int32} : iA M 116 20 i = inb i 6 := by unfold iA; rw [O116 h, K116 h, true_and]
theorem K117 (h : Static M) : mK M 117 = (20, 6) := h.2.1 (117, 20, 6) (List.mem_of_getElem? (i := 56) rfl)
theorem O117 (h : Static M) : oB M 117 20 = True := eq_true ⟨by decide, Nat.lt_of_lt_of_le (by decide) h.1, by rw [K117 h]⟩
theorem A117 (h : Static M) {i : Int32} : iA M 117 20 i = inb i 6 := by unfold iA; rw [O117 h, K117 h, true_and]
theorem K118 (h : Static M) : mK M 118 = (20, 6) := h.2.1 (118, 20, 6) (List.mem_of_getElem? (i := 57) rfl)
theorem O118 (h : Static M) : oB M 118 20 = True := eq_true ⟨by decide, Nat.lt_of_lt_of_le (by decide) h.1, by rw [K118 h]⟩
theorem A118 (h : Static M) {i : Int32} : iA M 118 20 i = inb i 6 := by unfold iA; rw [O118 h, K118 h, true_and]
theorem K119 (h : Static M) : mK M 119 = (20, 6) := h.2.1 (119, 20, 6) (List.mem_of_getElem? (i := 58) rfl)
theorem O119 (h : Static M) : oB M 119 20 = True := eq_true ⟨by decide, Nat.lt_of_lt_of_le (by decide) h.1, by rw [K119 h]⟩
theorem A119 (h : Static M) {i : Int32} : iA M 119 20 i = inb i 6 := by unfold iA; rw [O119 h, K119 h, true_and]
theorem K120 (h : Static M) : mK M 120 = (20, 6) := h.2.1 (120, 20, 6) (List.mem_of_getElem? (i := 59) rfl)
theorem O120 (h : Static M) : oB M 120 20 = True := eq_true ⟨by decide, Nat.lt_of_lt_of_le (by decide) h.1, by rw [K120 h]⟩
theorem A120 (h : Static M) {i : Int32} : iA M 120 20 i = inb i 6 := by unfold iA; rw [O120 h, K120 h, true_and]
theorem K121 (h : Static M) : mK M 121 = (20, 6) := h.2.1 (121, 20, 6) (List.mem_of_getElem? (i := 60) rfl)
theorem O121 (h : Static M) : oB M 121 20 = True := eq_true ⟨by decide, Nat.lt_of_lt_of_le (by decide) h.1, by rw [K121 h]⟩
theorem A121 (h : Static M) {i : Int32} : iA M 121 20 i = inb i 6 := by unfold iA; rw [O121 h, K121 h, true_and]
theorem K122 (h : Static M) : mK M 122 = (20, 6) := h.2.1 (122, 20, 6) (List.mem_of_getElem? (i := 61) rfl)
theorem O122 (h : Static M) : oB M 122 20 = True := eq_true ⟨by decide, Nat.lt_of_lt_of_le (by decide) h.1, by rw [K122 h]⟩
theorem A122 (h : Static M) {i : Int32} : iA M 122 20 i = inb i 6 := by unfold iA; rw [O122 h, K122 h, true_and]
theorem K123 (h : Static M) : mK M 123 = (20, 6) := h.2.1 (123, 20, 6) (List.mem_of_getElem? (i := 62) rfl)
theorem O123 (h : Static M) : oB M 123 20 = True := eq_true ⟨by decide, Nat.lt_of_lt_of_le (by decide) h.1, by rw [K123 h]⟩
theorem A123 (h : Static M) {i : Int32} : iA M 123 20 i = inb i 6 := by unfold iA; rw [O123 h, K123 h, true_and]
theorem K124 (h : Static M) : mK M 124 = (20, 6) := h.2.1 (124, 20, 6) (List.mem_of_getElem? (i := 63) rfl)
theorem O124 (h : Static M) : oB M 124 20 = True := eq_true ⟨by decide, Nat.lt_of_lt_of_le (by decide) h.1, by rw [K124 h]⟩
theorem A124 (h : Static M) {i : Int32} : iA M 124 20 i = inb i 6 := by unfold iA; rw [O124 h, K124 h, true_and]
theorem K125 (h : Static M) : mK M 125 = (20, 6) := h.2.1 (125, 20, 6) (List.mem_of_getElem? (i := 64) rfl)
theorem O125 (h : Static M) : oB M 125 20 = True := eq_true ⟨by decide, Nat.lt_of_lt_of_le (by decide) h.1, by rw [K125 h]⟩
theorem A125 (h : Static M) {i : Int32} : iA M 125 20 i = inb i 6 := by unfold iA; rw [O125 h, K125 h, true_and]
theorem K126 (h : Static M) : mK M 126 = (20, 6) := h.2.1 (126, 20, 6) (List.mem_of_getElem? (i := 65) rfl)
theorem O126 (h : Static M) : oB M 126 20 = True := eq_true ⟨by decide, Nat.lt_of_lt_of_le (by decide) h.1, by rw [K126 h]⟩
theorem A126 (h : Static M) {i : Int32} : iA M 126 20 i = inb i 6 := by unfold iA; rw [O126 h, K126 h, true_and]
theorem K127 (h : Static M) : mK M 127 = (20, 6) := h.2.1 (127, 20, 6) (List.mem_of_getElem? (i := 66) rfl)
theorem O127 (h : Static M) : oB M 127 20 = True := eq_true ⟨by decide, Nat.lt_of_lt_of_le (by decide) h.1, by rw [K127 h]⟩
theorem A127 (h : Static M) {i : Int32} : iA M 127 20 i = inb i 6 := by unfold iA; rw [O127 h, K127 h, true_and]
theorem K128 (h : Static M) : mK M 128 = (20, 6) := h.2.1 (128, 20, 6) (List.mem_of_getElem? (i := 67) rfl)
theorem O128 (h : Static M) : oB M 128 20 = True := eq_true ⟨by decide, Nat.lt_of_lt_of_le (by decide) h.1, by rw [K128 h]⟩
theorem A128 (h : Static M) {i : Int32} : iA M 128 20 i = inb i 6 := by unfold iA; rw [O128 h, K128 h, true_and]
theorem K129 (h : Static M) : mK M 129 = (20, 6) := h.2.1 (129, 20, 6) (List.mem_of_getElem? (i := 68) rfl)
theorem O129 (h : Static M) : oB M 129 20 = True := eq_true ⟨by decide, Nat.lt_of_lt_of_le (by decide) h.1, by rw [K129 h]⟩
theorem A129 (h : Static M) {i : Int32} : iA M 129 20 i = inb i 6 := by unfold iA; rw [O129 h, K129 h, true_and]
theorem K130 (h : Static M) : mK M 130 = (20, 6) := h.2.1 (130, 20, 6) (List.mem_of_getElem? (i := 69) rfl)
theorem O130 (h : Static M) : oB M 130 20 = True := eq_true ⟨by decide, Nat.lt_of_lt_of_le (by decide) h.1, by rw [K130 h]⟩
theorem A130 (h : Static M) {i : Int32} : iA M 130 20 i = inb i 6 := by unfold iA; rw [O130 h, K130 h, true_and]
theorem K131 (h : Static M) : mK M 131 = (20, 6) := h.2.1 (131, 20, 6) (List.mem_of_getElem? (i := 70) rfl)
theorem O131 (h : Static M) : oB M 131 20 = True := eq_true ⟨by decide, Nat.lt_of_lt_of_le (by decide) h.1, by rw [K131 h]⟩
theorem A131 (h : Static M) {i : Int32} : iA M 131 20 i = inb i 6 := by unfold iA; rw [O131 h, K131 h, true_and]
theorem K132 (h : Static M) : mK M 132 = (20, 6) := h.2.1 (132, 20, 6) (List.mem_of_getElem? (i := 71) rfl)
theorem O132 (h : Static M) : oB M 132 20 = True := eq_true ⟨by decide, Nat.lt_of_lt_of_le (by decide) h.1, by rw [K132 h]⟩
theorem A132 (h : Static M) {i : Int32} : iA M 132 20 i = inb i 6 := by unfold iA; rw [O132 h, K132 h, true_and]
theorem K133 (h : Static M) : mK M 133 = (20, 6) := h.2.1 (133, 20, 6) (List.mem_of_getElem? (i := 72) rfl)
theorem O133 (h : Static M) : oB M 133 20 = True := eq_true ⟨by decide, Nat.lt_of_lt_of_le (by decide) h.1, by rw [K133 h]⟩
theorem A133 (h : Static M) {i : Int32} : iA M 133 20 i = inb i 6 := by unfold iA; rw [O133 h, K133 h, true_and]
theorem K134 (h : Static M) : mK M 134 = (20, 6) := h.2.1 (134, 20, 6) (List.mem_of_getElem? (i := 73) rfl)
theorem O134 (h : Static M) : oB M 134 20 = True := eq_true ⟨by decide, Nat.lt_of_lt_of_le (by decide) h.1, by rw [K134 h]⟩
theorem A134 (h : Static M) {i : Int32} : iA M 134 20 i = inb i 6 := by unfold iA; rw [O134 h, K134 h, true_and]
theorem K135 (h : Static M) : mK M 135 = (20, 6) := h.2.1 (135, 20, 6) (List.mem_of_getElem? (i := 74) rfl)
theorem O135 (h : Static M) : oB M 135 20 = True := eq_true ⟨by decide, Nat.lt_of_lt_of_le (by decide) h.1, by rw [K135 h]⟩
theorem A135 (h : Static M) {i : Int32} : iA M 135 20 i = inb i 6 := by unfold iA; rw [O135 h, K135 h, true_and]
theorem K136 (h : Static M) : mK M 136 = (20, 6) := h.2.1 (136, 20, 6) (List.mem_of_getElem? (i := 75) rfl)
theorem O136 (h : Static M) : oB M 136 20 = True := eq_true ⟨by decide, Nat.lt_of_lt_of_le (by decide) h.1, by rw [K136 h]⟩
theorem A136 (h : Static M) {i : Int32} : iA M 136 20 i = inb i 6 := by unfold iA; rw [O136 h, K136 h, true_and]
theorem K137 (h : Static M) : mK M 137 = (25, 6) := h.2.1 (137, 25, 6) (List.mem_of_getElem? (i := 76) rfl)
theorem O137 (h : Static M) : oB M 137 25 = True := eq_true ⟨by decide, Nat.lt_of_lt_of_le (by decide) h.1, by rw [K137 h]⟩
theorem A137 (h : Static M) {i : Int32} : iA M 137 25 i = inb i 6 := by unfold iA; rw [O137 h, K137 h, true_and]
theorem R137 (h : Static M) {i : Int32} : iR M 137 i = inb i 6 := by unfold iR iA oB; rw [K137 h]; simp [Nat.lt_of_lt_of_le (by decide : 137 < 222) h.1]
theorem K138 (h : Static M) : mK M 138 = (20, 6) := h.2.1 (138, 20, 6) (List.mem_of_getElem? (i := 77) rfl)
theorem O138 (h : Static M) : oB M 138 20 = True := eq_true ⟨by decide, Nat.lt_of_lt_of_le (by decide) h.1, by rw [K138 h]⟩
theorem A138 (h : Static M) {i : Int32} : iA M 138 20 i = inb i 6 := by unfold iA; rw [O138 h, K138 h, true_and]
theorem K139 (h : Static M) : mK M 139 = (20, 6) := h.2.1 (139, 20, 6) (List.mem_of_getElem? (i := 78) rfl)
theorem O139 (h : Static M) : oB M 139 20 = True := eq_true ⟨by decide, Nat.lt_of_lt_of_le (by decide) h.1, by rw [K139 h]⟩
theorem A139 (h : Static M) {i : Int32} : iA M 139 20 i = inb i 6 := by unfold iA; rw [O139 h, K139 h, true_and]
theorem K140 (h : Static M) : mK M 140 = (20, 6) := h.2.1 (140, 20, 6) (List.mem_of_getElem? (i := 79) rfl)
theorem O140 (h : Static M) : oB M 140 20 = True := eq_true ⟨by decide, Nat.lt_of_lt_of_le (by decide) h.1, by rw [K140 h]⟩
theorem A140 (h : Static M) {i : Int32} : iA M 140 20 i = inb i 6 := by unfold iA; rw [O140 h, K140 h, true_and]
theorem K141 (h : Static M) : mK M 141 = (20, 6) := h.2.1 (141, 20, 6) (List.mem_of_getElem? (i := 80) rfl)
theorem O141 (h : Static M) : oB M 141 20 = True := eq_true ⟨by decide, Nat.lt_of_lt_of_le (by decide) h.1, by rw [K141 h]⟩
theorem A141 (h : Static M) {i : Int32} : iA M 141 20 i = inb i 6 := by unfold iA; rw [O141 h, K141 h, true_and]
theorem K142 (h : Static M) : mK M 142 = (20, 6) := h.2.1 (142, 20, 6) (List.mem_of_getElem? (i := 81) rfl)
theorem O142 (h : Static M) : oB M 142 20 = True := eq_true ⟨by decide, Nat.lt_of_lt_of_le (by decide) h.1, by rw [K142 h]⟩
theorem A142 (h : Static M) {i : Int32} : iA M 142 20 i = inb i 6 := by unfold iA; rw [O142 h, K142 h, true_and]
theorem K143 (h : Static M) : mK M 143 = (20, 6) := h.2.1 (143, 20, 6) (List.mem_of_getElem? (i := 82) rfl)
theorem O143 (h : Static M) : oB M 143 20 = True := eq_true ⟨by decide, Nat.lt_of_lt_of_le (by decide) h.1, by rw [K143 h]⟩
theorem A143 (h : Static M) {i : Int32} : iA M 143 20 i = inb i 6 := by unfold iA; rw [O143 h, K143 h, true_and]
theorem K144 (h : Static M) : mK M 144 = (20, 6) := h.2.1 (144, 20, 6) (List.mem_of_getElem? (i := 83) rfl)
theorem O144 (h : Static M) : oB M 144 20 = True := eq_true ⟨by decide, Nat.lt_of_lt_of_le (by decide) h.1, by rw [K144 h]⟩
theorem A144 (h : Static M) {i : Int32} : iA M 144 20 i = inb i 6 := by unfold iA; rw [O144 h, K144 h, true_and]
theorem K145 (h : Static M) : mK M 145 = (20, 6) := h.2.1 (145, 20, 6) (List.mem_of_getElem? (i := 84) rfl)
theorem O145 (h : Static M) : oB M 145 20 = True := eq_true ⟨by decide, Nat.lt_of_lt_of_le (by decide) h.1, by rw [K145 h]⟩
theorem A145 (h : Static M) {i : Int32} : iA M 145 20 i = inb i 6 := by unfold iA; rw [O145 h, K145 h, true_and]
theorem K146 (h : Static M) : mK M 146 = (2, 10) := h.2.1 (146, 2, 10) (List.mem_of_getElem? (i := 85) rfl)
theorem O146 (h : Static M) : oB M 146 2 = True := eq_true ⟨by decide, Nat.lt_of_lt_of_le (by decide) h.1, by rw [K146 h]⟩
theorem K147 (h : Static M) : mK M 147 = (20, 8) := h.2.1 (147, 20, 8) (List.mem_of_getElem? (i := 86) rfl)
theorem O147 (h : Static M) : oB M 147 20 = True := eq_true ⟨by decide, Nat.lt_of_lt_of_le (by decide) h.1, by rw [K147 h]⟩
theorem A147 (h : Static M) {i : Int32} : iA M 147 20 i = inb i 8 := by unfold iA; rw [O147 h, K147 h, true_and]
theorem K148 (h : Static M) : mK M 148 = (20, 8) := h.2.1 (148, 20, 8) (List.mem_of_getElem? (i := 87) rfl)
theorem O148 (h : Static M) : oB M 148 20 = True := eq_true ⟨by decide, Nat.lt_of_lt_of_le (by decide) h.1, by rw [K148 h]⟩
theorem A148 (h : Static M) {i : Int32} : iA M 148 20 i = inb i 8 := by unfold iA; rw [O148 h, K148 h, true_and]
theorem K149 (h : Static M) : mK M 149 = (20, 8) := h.2.1 (149, 20, 8) (List.mem_of_getElem? (i := 88) rfl)
theorem O149 (h : Static M) : oB M 149 20 = True := eq_true ⟨by decide, Nat.lt_of_lt_of_le (by decide) h.1, by rw [K149 h]⟩
theorem A149 (h : Static M) {i : Int32} : iA M 149 20 i = inb i 8 := by unfold iA; rw [O149 h, K149 h, true_and]
theorem K150 (h : Static M) : mK M 150 = (20, 8) := h.2.1 (150, 20, 8) (List.mem_of_getElem? (i := 89) rfl)
theorem O150 (h : Static M) : oB M 150 20 = True := eq_true ⟨by decide, Nat.lt_of_lt_of_le (by decide) h.1, by rw [K150 h]⟩
theorem A150 (h : Static M) {i : Int32} : iA M 150 20 i = inb i 8 := by unfold iA; rw [O150 h, K150 h, true_and]
theorem K151 (h : Static M) : mK M 151 = (20, 8) := h.2.1 (151, 20, 8) (List.mem_of_getElem? (i := 90) rfl)
theorem O151 (h : Static M) : oB M 151 20 = True := eq_true ⟨by decide, Nat.lt_of_lt_of_le (by decide) h.1, by rw [K151 h]⟩
theorem A151 (h : Static M) {i : Int32} : iA M 151 20 i = inb i 8 := by unfold iA; rw [O151 h, K151 h, true_and]
theorem K152 (h : Static M) : mK M 152 = (20, 12) := h.2.1 (152, 20, 12) (List.mem_of_getElem? (i := 91) rfl)
theorem O152 (h : Static M) : oB M 152 20 = True := eq_true ⟨by decide, Nat.lt_of_lt_of_le (by decide) h.1, by rw [K152 h]⟩
theorem A152 (h : Static M) {i : Int32} : iA M 152 20 i = inb i 12 := by unfold iA; rw [O152 h, K152 h, true_and]
theorem K153 (h : Static M) : mK M 153 = (20, 12) := h.2.1 (153, 20, 12) (List.mem_of_getElem? (i := 92) rfl)
theorem O153 (h : Static M) : oB M 153 20 = True := eq_true ⟨by decide, Nat.lt_of_lt_of_le (by decide) h.1, by rw [K153 h]⟩
theorem A153 (h : Static M) {i : Int32} : iA M 153 20 i = inb i 12 := by unfold iA; rw [O153 h, K153 h, true_and]
theorem K154 (h : Static M) : mK M 154 = (12, 90) := h.2.1 (154, 12, 90) (List.mem_of_getElem? (i := 93) rfl)
theorem O154 (h : Static M) : oB M 154 12 = True := eq_true ⟨by decide, Nat.lt_of_lt_of_le (by decide) h.1, by rw [K154 h]⟩
theorem K155 (h : Static M) : mK M 155 = (27, 18) := h.2.1 (155, 27, 18) (List.mem_of_getElem? (i := 94) rfl)
theorem O155 (h : Static M) : oB M 155 27 = True := eq_true ⟨by decide, Nat.lt_of_lt_of_le (by decide) h.1, by rw [K155 h]⟩
theorem A155 (h : Static M) {i : Int32} : iA M 155 27 i = inb i 18 := by unfold iA; rw [O155 h, K155 h, true_and]
theorem R155 (h : Static M) {i : Int32} : iR M 155 i = inb i 18 := by unfold iR iA oB; rw [K155 h]; simp [Nat.lt_of_lt_of_le (by decide : 155 < 222) h.1]
theorem K156 (h : Static M) : mK M 156 = (27, 7) := h.2.1 (156, 27, 7) (List.mem_of_getElem? (i := 95) rfl)
theorem O156 (h : Static M) : oB M 156 27 = True := eq_true ⟨by decide, Nat.lt_of_lt_of_le (by decide) h.1, by rw [K156 h]⟩
theorem A156 (h : Static M) {i : Int32} : iA M 156 27 i = inb i 7 := by unfold iA; rw [O156 h, K156 h, true_and]
theorem R156 (h : Static M) {i : Int32} : iR M 156 i = inb i 7 := by unfold iR iA oB; rw [K156 h]; simp [Nat.lt_of_lt_of_le (by decide : 156 < 222) h.1]
theorem K157 (h : Static M) : mK M 157 = (20, 24) := h.2.1 (157, 20, 24) (List.mem_of_getElem? (i := 96) rfl)
theorem O157 (h : Static M) : oB M 157 20 = True := eq_true ⟨by decide, Nat.lt_of_lt_of_le (by decide) h.1, by rw [K157 h]⟩
theorem A157 (h : Static M) {i : Int32} : iA M 157 20 i = inb i 24 := by unfold iA; rw [O157 h, K157 h, true_and]
theorem K158 (h : Static M) : mK M 158 = (20, 24) := h.2.1 (158, 20, 24) (List.mem_of_getElem? (i := 97) rfl)
theorem O158 (h : Static M) : oB M 158 20 = True := eq_true ⟨by decide, Nat.lt_of_lt_of_le (by decide) h.1, by rw [K158 h]⟩
theorem A158 (h : Static M) {i : Int32} : iA M 158 20 i = inb i 24 := by unfold iA; rw [O158 h, K158 h, true_and]
theorem K159 (h : Static M) : mK M 159 = (20, 24) := h.2.1 (159, 20, 24) (List.mem_of_getElem? (i := 98) rfl)
theorem O159 (h : Static M) : oB M 159 20 = True := eq_true ⟨by decide, Nat.lt_of_lt_of_le (by decide) h.1, by rw [K159 h]⟩
theorem A159 (h : Static M) {i : Int32} : iA M 159 20 i = inb i 24 := by unfold iA; rw [O159 h, K159 h, true_and]
theorem K160 (h : Static M) : mK M 160 = (21, 576) := h.2.1 (160, 21, 576) (List.mem_of_getElem? (i := 99) rfl)
theorem O160 (h : Static M) : oB M 160 21 = True := eq_true ⟨by decide, Nat.lt_of_lt_of_le (by decide) h.1, by rw [K160 h]⟩
theorem A160 (h : Static M) {i : Int32} : iA M 160 21 i = inb i 576 := by unfold iA; rw [O160 h, K160 h, true_and]
theorem K161 (h : Static M) : mK M 161 = (20, 600) := h.2.1 (161, 20, 600) (List.mem_of_getElem? (i := 100) rfl)
theorem O161 (h : Static M) : oB M 161 20 = True := eq_true ⟨by decide, Nat.lt_of_lt_of_le (by decide) h.1, by rw [K161 h]⟩
theorem A161 (h : Static M) {i : Int32} : iA M 161 20 i = inb i 600 := by unfold iA; rw [O161 h, K161 h, true_and]
theorem K162 (h : Static M) : mK M 162 = (20, 108) := h.2.1 (162, 20, 108) (List.mem_of_getElem? (i := 101) rfl)
theorem O162 (h : Static M) : oB M 162 20 = True := eq_true ⟨by decide, Nat.lt_of_lt_of_le (by decide) h.1, by rw [K162 h]⟩
theorem A162 (h : Static M) {i : Int32} : iA M 162 20 i = inb i 108 := by unfold iA; rw [O162 h, K162 h, true_and]
theorem K163 (h : Static M) : mK M 163 = (20, 864) := h.2.1 (163, 20, 864) (List.mem_of_getElem? (i := 102) rfl)
theorem O163 (h : Static M) : oB M 163 20 = True := eq_true ⟨by decide, Nat.lt_of_lt_of_le (by decide) h.1, by rw [K163 h]⟩
theorem A163 (h : Static M) {i : Int32} : iA M 163 20 i = inb i 864 := by unfold iA; rw [O163 h, K163 h, true_and]
theorem K164 (h : Static M) : mK M 164 = (20, 6) := h.2.1 (164, 20, 6) (List.mem_of_getElem? (i := 103) rfl)
theorem O164 (h : Static M) : oB M 164 20 = True := eq_true ⟨by decide, Nat.lt_of_lt_of_le (by decide) h.1, by rw [K164 h]⟩
theorem A164 (h : Static M) {i : Int32} : iA M 164 20 i = inb i 6 := by unfold iA; rw [O164 h, K164 h, true_and]
theorem K165 (h : Static M) : mK M 165 = (20, 48) := h.2.1 (165, 20, 48) (List.mem_of_getElem? (i := 104) rfl)
theorem O165 (h : Static M) : oB M 165 20 = True := eq_true ⟨by decide, Nat.lt_of_lt_of_le (by decide) h.1, by rw [K165 h]⟩
theorem A165 (h : Static M) {i : Int32} : iA M 165 20 i = inb i 48 := by unfold iA; rw [O165 h, K165 h, true_and]
theorem K166 (h : Static M) : mK M 166 = (20, 6) := h.2.1 (166, 20, 6) (List.mem_of_getElem? (i := 105) rfl)
theorem O166 (h : Static M) : oB M 166 20 = True := eq_true ⟨by decide, Nat.lt_of_lt_of_le (by decide) h.1, by rw [K166 h]⟩
theorem A166 (h : Static M) {i : Int32} : iA M 166 20 i = inb i 6 := by unfold iA; rw [O166 h, K166 h, true_and]
theorem K167 (h : Static M) : mK M 167 = (20, 60) := h.2.1 (167, 20, 60) (List.mem_of_getElem? (i := 106) rfl)
theorem O167 (h : Static M) : oB M 167 20 = True := eq_true ⟨by decide, Nat.lt_of_lt_of_le (by decide) h.1, by rw [K167 h]⟩
theorem A167 (h : Static M) {i : Int32} : iA M 167 20 i = inb i 60 := by unfold iA; rw [O167 h, K167 h, true_and]
theorem K168 (h : Static M) : mK M 168 = (20, 60) := h.2.1 (168, 20, 60) (List.mem_of_getElem? (i := 107) rfl)
theorem O168 (h : Static M) : oB M 168 20 = True := eq_true ⟨by decide, Nat.lt_of_lt_of_le (by decide) h.1, by rw [K168 h]⟩
theorem A168 (h : Static M) {i : Int32} : iA M 168 20 i = inb i 60 := by unfold iA; rw [O168 h, K168 h, true_and]
theorem K169 (h : Static M) : mK M 169 = (20, 6) := h.2.1 (169, 20, 6) (List.mem_of_getElem? (i := 108) rfl)
theorem O169 (h : Static M) : oB M 169 20 = True := eq_true ⟨by decide, Nat.lt_of_lt_of_le (by decide) h.1, by rw [K169 h]⟩
theorem A169 (h : Static M) {i : Int32} : iA M 169 20 i = inb i 6 := by unfold iA; rw [O169 h, K169 h, true_and]
theorem K170 (h : Static M) : mK M 170 = (20, 120) := h.2.1 (170, 20, 120) (List.mem_of_getElem? (i := 109) rfl)
theorem O170 (h : Static M) : oB M 170 20 = True := eq_true ⟨by decide, Nat.lt_of_lt_of_le (by decide) h.1, by rw [K170 h]⟩
theorem A170 (h : Static M) {i : Int32} : iA M 170 20 i = inb i 120 := by unfold iA; rw [O170 h, K170 h, true_and]
theorem K171 (h : Static M) : mK M 171 = (20, 120) := h.2.1 (171, 20, 120) (List.mem_of_getElem? (i := 110) rfl)
theorem O171 (h : Static M) : oB M 171 20 = True := eq_true ⟨by decide, Nat.lt_of_lt_of_le (by decide) h.1, by rw [K171 h]⟩
theorem A171 (h : Static M) {i : Int32} : iA M 171 20 i = inb i 120 := by unfold iA; rw [O171 h, K171 h, true_and]
theorem K172 (h : Static M) : mK M 172 = (20, 6) := h.2.1 (172, 20, 6) (List.mem_of_getElem? (i := 111) rfl)
theorem O172 (h : Static M) : oB M 172 20 = True := eq_true ⟨by decide, Nat.lt_of_lt_of_le (by decide) h.1, by rw [K172 h]⟩
theorem A172 (h : Static M) {i : Int32} : iA M 172 20 i = inb i 6 := by unfold iA; rw [O172 h, K172 h, true_and]
theorem K173 (h : Static M) : mK M 173 = (20, 48) := h.2.1 (173, 20, 48) (List.mem_of_getElem? (i := 112) rfl)
theorem O173 (h : Static M) : oB M 173 20 = True := eq_true ⟨by decide, Nat.lt_of_lt_of_le (by decide) h.1, by rw [K173 h]⟩
theorem A173 (h : Static M) {i : Int32} : iA M 173 20 i = inb i 48 := by unfold iA; rw [O173 h, K173 h, true_and]
theorem K174 (h : Static M) : mK M 174 = (20, 6) := h.2.1 (174, 20, 6) (List.mem_of_getElem? (i := 113) rfl)
theorem O174 (h : Static M) : oB M 174 20 = True := eq_true ⟨by decide, Nat.lt_of_lt_of_le (by decide) h.1, by rw [K174 h]⟩
theorem A174 (h : Static M) {i : Int32} : iA M 174 20 i = inb i 6 := by unfold iA; rw [O174 h, K174 h, true_and]
theorem K175 (h : Static M) : mK M 175 = (20, 6) := h.2.1 (175, 20, 6) (List.mem_of_getElem? (i := 114) rfl)
theorem O175 (h : Static M) : oB M 175 20 = True := eq_true ⟨by decide, Nat.lt_of_lt_of_le (by decide) h.1, by rw [K175 h]⟩
theorem A175 (h : Static M) {i : Int32} : iA M 175 20 i = inb i 6 := by unfold iA; rw [O175 h, K175 h, true_and]
theorem K176 (h : Static M) : mK M 176 = (20, 5400) := h.2.1 (176, 20, 5400) (List.mem_of_getElem? (i := 115) rfl)
theorem O176 (h : Static M) : oB M 176 20 = True := eq_true ⟨by decide, Nat.lt_of_lt_of_le (by decide) h.1, by rw [K176 h]⟩
theorem A176 (h : Static M) {i : Int32} : iA M 176 20 i = inb i 5400 := by unfold iA; rw [O176 h, K176 h, true_and]
theorem K177 (h : Static M) : mK M 177 = (20, 7) := h.2.1 (177, 20, 7) (List.mem_of_getElem? (i := 116) rfl)
theorem O177 (h : Static M) : oB M 177 20 = True := eq_true ⟨by decide, Nat.lt_of_lt_of_le (by decide) h.1, by rw [K177 h]⟩
theorem A177 (h : Static M) {i : Int32} : iA M 177 20 i = inb i 7 := by unfold iA; rw [O177 h, K177 h, true_and]
theorem K178 (h : Static M) : mK M 178 = (20, 200) := h.2.1 (178, 20, 200) (List.mem_of_getElem? (i := 117) rfl)
theorem O178 (h : Static M) : oB M 178 20 = True := eq_true ⟨by decide, Nat.lt_of_lt_of_le (by decide) h.1, by rw [K178 h]⟩
theorem A178 (h : Static M) {i : Int32} : iA M 178 20 i = inb i 200 := by unfold iA; rw [O178 h, K178 h, true_and]
theorem K179 (h : Static M) : mK M 179 = (20, 20) := h.2.1 (179, 20, 20) (List.mem_of_getElem? (i := 118) rfl)
theorem O179 (h : Static M) : oB M 179 20 = True := eq_true ⟨by decide, Nat.lt_of_lt_of_le (by decide) h.1, by rw [K179 h]⟩
theorem A179 (h : Static M) {i : Int32} : iA M 179 20 i = inb i 20 := by unfold iA; rw [O179 h, K179 h, true_and]
theorem K180 (h : Static M) : mK M 180 = (20, 20) := h.2.1 (180, 20, 20) (List.mem_of_getElem? (i := 119) rfl)
theorem O180 (h : Static M) : oB M 180 20 = True := eq_true ⟨by decide, Nat.lt_of_lt_of_le (by decide) h.1, by rw [K180 h]⟩
theorem A180 (h : Static M) {i : Int32} : iA M 180 20 i = inb i 20 := by unfold iA; rw [O180 h, K180 h, true_and]
theorem K181 (h : Static M) : mK M 181 = (20, 20) := h.2.1 (181, 20, 20) (List.mem_of_getElem? (i := 120) rfl)
theorem O181 (h : Static M) : oB M 181 20 = True := eq_true ⟨by decide, Nat.lt_of_lt_of_le (by decide) h.1, by rw [K181 h]⟩
theorem A181 (h : Static M) {i : Int32} : iA M 181 20 i = inb i 20 := by unfold iA; rw [O181 h, K181 h, true_and]
theorem K182 (h : Static M) : mK M 182 = (20, 120) := h.2.1 (182, 20, 120) (List.mem_of_getElem? (i := 121) rfl)
theorem O182 (h : Static M) : oB M 182 20 = True := eq_true ⟨by decide, Nat.lt_of_lt_of_le (by decide) h.1, by rw [K182 h]⟩
theorem A182 (h : Static M) {i : Int32} : iA M 182 20 i = inb i 120 := by unfold iA; rw [O182 h, K182 h, true_and]
theorem K183 (h : Static M) : mK M 183 = (20, 120) := h.2.1 (183, 20, 120) (List.mem_of_getElem? (i := 122) rfl)
theorem O183 (h : Static M) : oB M 183 20 = True := eq_true ⟨by decide, Nat.lt_of_lt_of_le (by decide) h.1, by rw [K183 h]⟩
theorem A183 (h : Static M) {i : Int32} : iA M 183 20 i = inb i 120 := by unfold iA; rw [O183 h, K183 h, true_and]
theorem K184 (h : Static M) : mK M 184 = (20, 120) := h.2.1 (184, 20, 120) (List.mem_of_getElem? (i := 123) rfl)
theorem O184 (h : Static M) : oB M 184 20 = True := eq_true ⟨by decide, Nat.lt_of_lt_of_le (by decide) h.1, by rw [K184 h]⟩
theorem A184 (h : Static M) {i : Int32} : iA M 184 20 i = inb i 120 := by unfold iA; rw [O184 h, K184 h, true_and]
theorem K185 (h : Static M) : mK M 185 = (20, 120) := h.2.1 (185, 20, 120) (List.mem_of_getElem? (i := 124) rfl)
theorem O185 (h : Static M) : oB M 185 20 = True := eq_true ⟨by decide, Nat.lt_of_lt_of_le (by decide) h.1, by rw [K185 h]⟩
theorem A185 (h : Static M) {i : Int32} : iA M 185 20 i = inb i 120 := by unfold iA; rw [O185 h, K185 h, true_and]
theorem K186 (h : Static M) : mK M 186 = (20, 201) := h.2.1 (186, 20, 201) (List.mem_of_getElem? (i := 125) rfl)
theorem O186 (h : Static M) : oB M 186 20 = True := eq_true ⟨by decide, Nat.lt_of_lt_of_le (by decide) h.1, by rw [K186 h]⟩
theorem A186 (h : Static M) {i : Int32} : iA M 186 20 i = inb i 201 := by unfold iA; rw [O186 h, K186 h, true_and]
theorem K187 (h : Static M) : mK M 187 = (20, 201) := h.2.1 (187, 20, 201) (List.mem_of_getElem? (i := 126) rfl)
theorem O187 (h : Static M) : oB M 187 20 = True := eq_true ⟨by decide, Nat.lt_of_lt_of_le (by decide) h.1, by rw [K187 h]⟩
theorem A187 (h : Static M) {i : Int32} : iA M 187 20 i = inb i 201 := by unfold iA; rw [O187 h, K187 h, true_and]
theorem K188 (h : Static M) : mK M 188 = (20, 201) := h.2.1 (188, 20, 201) (List.mem_of_getElem? (i := 127) rfl)
theorem O188 (h : Static M) : oB M 188 20 = True := eq_true ⟨by decide, Nat.lt_of_lt_of_le (by decide) h.1, by rw [K188 h]⟩
theorem A188 (h : Static M) {i : Int32} : iA M 188 20 i = inb i 201 := by unfold iA; rw [O188 h, K188 h, true_and]
theorem K189 (h : Static M) : mK M 189 = (20, 201) := h.2.1 (189, 20, 201) (List.mem_of_getElem? (i := 128) rfl)
theorem O189 (h : Static M) : oB M 189 20 = True := eq_true ⟨by decide, Nat.lt_of_lt_of_le (by decide) h.1, by rw [K189 h]⟩
theorem A189 (h : Static M) {i : Int32} : iA M 189 20 i = inb i 201 := by unfold iA; rw [O189 h, K189 h, true_and]
theorem K190 (h : Static M) : mK M 190 = (20, 201) := h.2.1 (190, 20, 201) (List.mem_of_getElem? (i := 129) rfl)
theorem O190 (h : Static M) : oB M 190 20 = True := eq_true ⟨by decide, Nat.lt_of_lt_of_le (by decide) h.1, by rw [K190 h]⟩
theorem A190 (h : Static M) {i : Int32} : iA M 190 20 i = inb i 201 := by unfold iA; rw [O190 h, K190 h, true_and]
theorem K191 (h : Static M) : mK M 191 = (20, 8040) := h.2.1 (191, 20, 8040) (List.mem_of_getElem? (i := 130) rfl)
theorem O191 (h : Static M) : oB M 191 20 = True := eq_true ⟨by decide, Nat.lt_of_lt_of_le (by decide) h.1, by rw [K191 h]⟩
theorem A191 (h : Static M) {i : Int32} : iA M 191 20 i = inb i 8040 := by unfold iA; rw [O191 h, K191 h, true_and]
theorem K192 (h : Static M) : mK M 192 = (20, 8040) := h.2.1 (192, 20, 8040) (List.mem_of_getElem? (i := 131) rfl)
theorem O192 (h : Static M) : oB M 192 20 = True := eq_true ⟨by decide, Nat.lt_of_lt_of_le (by decide) h.1, by rw [K192 h]⟩
theorem A192 (h : Static M) {i : Int32} : iA M 192 20 i = inb i 8040 := by unfold iA; rw [O192 h, K192 h, true_and]
theorem K193 (h : Static M) : mK M 193 = (20, 8040) := h.2.1 (193, 20, 8040) (List.mem_of_getElem? (i := 132) rfl)
theorem O193 (h : Static M) : oB M 193 20 = True := eq_true ⟨by decide, Nat.lt_of_lt_of_le (by decide) h.1, by rw [K193 h]⟩
theorem A193 (h : Static M) {i : Int32} : iA M 193 20 i = inb i 8040 := by unfold iA; rw [O193 h, K193 h, true_and]
theorem K194 (h : Static M) : mK M 194 = (22, 201) := h.2.1 (194, 22, 201) (List.mem_of_getElem? (i := 133) rfl)
theorem O194 (h : Static M) : oB M 194 22 = True := eq_true ⟨by decide, Nat.lt_of_lt_of_le (by decide) h.1, by rw [K194 h]⟩
theorem A194 (h : Static M) {i : Int32} : iA M 194 22 i = inb i 201 := by unfold iA; rw [O194 h, K194 h, true_and]
theorem K195 (h : Static M) : mK M 195 = (20, 40) := h.2.1 (195, 20, 40) (List.mem_of_getElem? (i := 134) rfl)
theorem O195 (h : Static M) : oB M 195 20 = True := eq_true ⟨by decide, Nat.lt_of_lt_of_le (by decide) h.1, by rw [K195 h]⟩
theorem A195 (h : Static M) {i : Int32} : iA M 195 20 i = inb i 40 := by unfold iA; rw [O195 h, K195 h, true_and]
theorem K196 (h : Static M) : mK M 196 = (20, 40) := h.2.1 (196, 20, 40) (List.mem_of_getElem? (i := 135) rfl)
theorem O196 (h : Static M) : oB M 196 20 = True := eq_true ⟨by decide, Nat.lt_of_lt_of_le (by decide) h.1, by rw [K196 h]⟩
theorem A196 (h : Static M) {i : Int32} : iA M 196 20 i = inb i 40 := by unfold iA; rw [O196 h, K196 h, true_and]
theorem K197 (h : Static M) : mK M 197 = (20, 40) := h.2.1 (197, 20, 40) (List.mem_of_getElem? (i := 136) rfl)
theorem O197 (h : Static M) : oB M 197 20 = True := eq_true ⟨by decide, Nat.lt_of_lt_of_le (by decide) h.1, by rw [K197 h]⟩
theorem A197 (h : Static M) {i : Int32} : iA M 197 20 i = inb i 40 := by unfold iA; rw [O197 h, K197 h, true_and]
theorem K198 (h : Static M) : mK M 198 = (20, 40) := h.2.1 (198, 20, 40) (List.mem_of_getElem? (i := 137) rfl)
theorem O198 (h : Static M) : oB M 198 20 = True := eq_true ⟨by decide, Nat.lt_of_lt_of_le (by decide) h.1, by rw [K198 h]⟩
theorem A198 (h : Static M) {i : Int32} : iA M 198 20 i = inb i 40 := by unfold iA; rw [O198 h, K198 h, true_and]
theorem K199 (h : Static M) : mK M 199 = (20, 8) := h.2.1 (199, 20, 8) (List.mem_of_getElem? (i := 138) rfl)
theorem O199 (h : Static M) : oB M 199 20 = True := eq_true ⟨by decide, Nat.lt_of_lt_of_le (by decide) h.1, by rw [K199 h]⟩
theorem A199 (h : Static M) {i : Int32} : iA M 199 20 i = inb i 8 := by unfold iA; rw [O199 h, K199 h, true_and]
theorem K200 (h : Static M) : mK M 200 = (20, 8) := h.2.1 (200, 20, 8) (List.mem_of_getElem? (i := 139) rfl)
theorem O200 (h : Static M) : oB M 200 20 = True := eq_true ⟨by decide, Nat.lt_of_lt_of_le (by decide) h.1, by rw [K200 h]⟩
theorem A200 (h : Static M) {i : Int32} : iA M 200 20 i = inb i 8 := by unfold iA; rw [O200 h, K200 h, true_and]
theorem K201 (h : Static M) : mK M 201 = (20, 8) := h.2.1 (201, 20, 8) (List.mem_of_getElem? (i := 140) rfl)
theorem O201 (h : Static M) : oB M 201 20 = True := eq_true ⟨by decide, Nat.lt_of_lt_of_le (by decide) h.1, by rw [K201 h]⟩
theorem A201 (h : Static M) {i : Int32} : iA M 201 20 i = inb i 8 := by unfold iA; rw [O201 h, K201 h, true_and]
theorem K202 (h : Static M) : mK M 202 = (20, 8) := h.2.1 (202, 20, 8) (List.mem_of_getElem? (i := 141) rfl)
theorem O202 (h : Static M) : oB M 202 20 = True := eq_true ⟨by decide, Nat.lt_of_lt_of_le (by decide) h.1, by rw [K202 h]⟩
theorem A202 (h : Static M) {i : Int32} : iA M 202 20 i = inb i 8 := by unfold iA; rw [O202 h, K202 h, true_and]
theorem K203 (h : Static M) : mK M 203 = (20, 120) := h.2.1 (203, 20, 120) (List.mem_of_getElem? (i := 142) rfl)
theorem O203 (h : Static M) : oB M 203 20 = True := eq_true ⟨by decide, Nat.lt_of_lt_of_le (by decide) h.1, by rw [K203 h]⟩
theorem A203 (h : Static M) {i : Int32} : iA M 203 20 i = inb i 120 := by unfold iA; rw [O203 h, K203 h, true_and]
theorem K204 (h : Static M) : mK M 204 = (20, 120) := h.2.1 (204, 20, 120) (List.mem_of_getElem? (i := 143) rfl)
theorem O204 (h : Static M) : oB M 204 20 = True := eq_true ⟨by decide, Nat.lt_of_lt_of_le (by decide) h.1, by rw [K204 h]⟩
theorem A204 (h : Static M) {i : Int32} : iA M 204 20 i = inb i 120 := by unfold iA; rw [O204 h, K204 h, true_and]
theorem K205 (h : Static M) : mK M 205 = (20, 960) := h.2.1 (205, 20, 960) (List.mem_of_getElem? (i := 144) rfl)
theorem O205 (h : Static M) : oB M 205 20 = True := eq_true ⟨by decide, Nat.lt_of_lt_of_le (by decide) h.1, by rw [K205 h]⟩
theorem A205 (h : Static M) {i : Int32} : iA M 205 20 i = inb i 960 := by unfold iA; rw [O205 h, K205 h, true_and]
theorem K206 (h : Static M) : mK M 206 = (20, 40) := h.2.1 (206, 20, 40) (List.mem_of_getElem? (i := 145) rfl)
theorem O206 (h : Static M) : oB M 206 20 = True := eq_true ⟨by decide, Nat.lt_of_lt_of_le (by decide) h.1, by rw [K206 h]⟩
theorem A206 (h : Static M) {i : Int32} : iA M 206 20 i = inb i 40 := by unfold iA; rw [O206 h, K206 h, true_and]
theorem K207 (h : Static M) : mK M 207 = (20, 10) := h.2.1 (207, 20, 10) (List.mem_of_getElem? (i := 146) rfl)
theorem O207 (h : Static M) : oB M 207 20 = True := eq_true ⟨by decide, Nat.lt_of_lt_of_le (by decide) h.1, by rw [K207 h]⟩
theorem A207 (h : Static M) {i : Int32} : iA M 207 20 i = inb i 10 := by unfold iA; rw [O207 h, K207 h, true_and]
theorem K208 (h : Static M) : mK M 208 = (22, 120) := h.2.1 (208, 22, 120) (List.mem_of_getElem? (i := 147) rfl)
theorem O208 (h : Static M) : oB M 208 22 = True := eq_true ⟨by decide, Nat.lt_of_lt_of_le (by decide) h.1, by rw [K208 h]⟩
theorem A208 (h : Static M) {i : Int32} : iA M 208 22 i = inb i 120 := by unfold iA; rw [O208 h, K208 h, true_and]
theorem K209 (h : Static M) : mK M 209 = (22, 120) := h.2.1 (209, 22, 120) (List.mem_of_getElem? (i := 148) rfl)
theorem O209 (h : Static M) : oB M 209 22 = True := eq_true ⟨by decide, Nat.lt_of_lt_of_le (by decide) h.1, by rw [K209 h]⟩
theorem A209 (h : Static M) {i : Int32} : iA M 209 22 i = inb i 120 := by unfold iA; rw [O209 h, K209 h, true_and]
theorem K210 (h : Static M) : mK M 210 = (20, 24) := h.2.1 (210, 20, 24) (List.mem_of_getElem? (i := 149) rfl)
theorem O210 (h : Static M) : oB M 210 20 = True := eq_true ⟨by decide, Nat.lt_of_lt_of_le (by decide) h.1, by rw [K210 h]⟩
theorem A210 (h : Static M) {i : Int32} : iA M 210 20 i = inb i 24 := by unfold iA; rw [O210 h, K210 h, true_and]
theorem K211 (h : Static M) : mK M 211 = (20, 24) := h.2.1 (211, 20, 24) (List.mem_of_getElem? (i := 150) rfl)
theorem O211 (h : Static M) : oB M 211 20 = True := eq_true ⟨by decide, Nat.lt_of_lt_of_le (by decide) h.1, by rw [K211 h]⟩
theorem A211 (h : Static M) {i : Int32} : iA M 211 20 i = inb i 24 := by unfold iA; rw [O211 h, K211 h, true_and]
theorem K212 (h : Static M) : mK M 212 = (20, 120) := h.2.1 (212, 20, 120) (List.mem_of_getElem? (i := 151) rfl)
theorem O212 (h : Static M) : oB M 212 20 = True := eq_true ⟨by decide, Nat.lt_of_lt_of_le (by decide) h.1, by rw [K212 h]⟩
theorem A212 (h : Static M) {i : Int32} : iA M 212 20 i = inb i 120 := by unfold iA; rw [O212 h, K212 h, true_and]
theorem K213 (h : Static M) : mK M 213 = (20, 4) := h.2.1 (213, 20, 4) (List.mem_of_getElem? (i := 152) rfl)
theorem O213 (h : Static M) : oB M 213 20 = True := eq_true ⟨by decide, Nat.lt_of_lt_of_le (by decide) h.1, by rw [K213 h]⟩
theorem A213 (h : Static M) {i : Int32} : iA M 213 20 i = inb i 4 := by unfold iA; rw [O213 h, K213 h, true_and]
theorem K214 (h : Static M) : mK M 214 = (20, 4) := h.2.1 (214, 20, 4) (List.mem_of_getElem? (i := 153) rfl)
theorem O214 (h : Static M) : oB M 214 20 = True := eq_true ⟨by decide, Nat.lt_of_lt_of_le (by decide) h.1, by rw [K214 h]⟩
theorem A214 (h : Static M) {i : Int32} : iA M 214 20 i = inb i 4 := by unfold iA; rw [O214 h, K214 h, true_and]
theorem K215 (h : Static M) : mK M 215 = (21, 36) := h.2.1 (215, 21, 36) (List.mem_of_getElem? (i := 154) rfl)
theorem O215 (h : Static M) : oB M 215 21 = True := eq_true ⟨by decide, Nat.lt_of_lt_of_le (by decide) h.1, by rw [K215 h]⟩
theorem A215 (h : Static M) {i : Int32} : iA M 215 21 i = inb i 36 := by unfold iA; rw [O215 h, K215 h, true_and]
theorem K216 (h : Static M) : mK M 216 = (21, 6) := h.2.1 (216, 21, 6) (List.mem_of_getElem? (i := 155) rfl)
theorem O216 (h : Static M) : oB M 216 21 = True := eq_true ⟨by decide, Nat.lt_of_lt_of_le (by decide) h.1, by rw [K216 h]⟩
theorem A216 (h : Static M) {i : Int32} : iA M 216 21 i = inb i 6 := by unfold iA; rw [O216 h, K216 h, true_and]
theorem K217 (h : Static M) : mK M 217 = (21, 36) := h.2.1 (217, 21, 36) (List.mem_of_getElem? (i := 156) rfl)
theorem O217 (h : Static M) : oB M 217 21 = True := eq_true ⟨by decide, Nat.lt_of_lt_of_le (by decide) h.1, by rw [K217 h]⟩
theorem A217 (h : Static M) {i : Int32} : iA M 217 21 i = inb i 36 := by unfold iA; rw [O217 h, K217 h, true_and]
theorem K218 (h : Static M) : mK M 218 = (20, 6) := h.2.1 (218, 20, 6) (List.mem_of_getElem? (i := 157) rfl)
theorem O218 (h : Static M) : oB M 218 20 = True := eq_true ⟨by decide, Nat.lt_of_lt_of_le (by decide) h.1, by rw [K218 h]⟩
theorem A218 (h : Static M) {i : Int32} : iA M 218 20 i = inb i 6 := by unfold iA; rw [O218 h, K218 h, true_and]
theorem K219 (h : Static M) : mK M 219 = (20, 6) := h.2.1 (219, 20, 6) (List.mem_of_getElem? (i := 158) rfl)
theorem O219 (h : Static M) : oB M 219 20 = True := eq_true ⟨by decide, Nat.lt_of_lt_of_le (by decide) h.1, by rw [K219 h]⟩
theorem A219 (h : Static M) {i : Int32} : iA M 219 20 i = inb i 6 := by unfold iA; rw [O219 h, K219 h, true_and]
theorem K220 (h : Static M) : mK M 220 = (20, 6) := h.2.1 (220, 20, 6) (List.mem_of_getElem? (i := 159) rfl)
theorem O220 (h : Static M) : oB M 220 20 = True := eq_true ⟨by decide, Nat.lt_of_lt_of_le (by decide) h.1, by rw [K220 h]⟩
theorem A220 (h : Static M) {i : Int32} : iA M 220 20 i = inb i 6 := by unfold iA; rw [O220 h, K220 h, true_and]
theorem K221 (h : Static M) : mK M 221 = (21, 1) := h.2.1 (221, 21, 1) (List.mem_of_getElem? (i := 160) rfl)
theorem O221 (h : Static M) : oB M 221 21 = True := eq_true ⟨by decide, Nat.lt_of_lt_of_le (by decide) h.1, by rw [K221 h]⟩
theorem A221 (h : Static M) {i : Int32} : iA M 221 21 i = inb i 1 := by unfold iA; rw [O221 h, K221 h, true_and]
theorem P61_3 (h : Static M) : mP M 61 3 = some 62 := h.2.2 (61, 3, 62) (List.mem_of_getElem? (i := 0) rfl)
theorem P61_4 (h : Static M) : mP M 61 4 = some 91 := h.2.2 (61, 4, 91) (List.mem_of_getElem? (i := 1) rfl)
theorem P61_5 (h : Static M) : mP M 61 5 = some 94 := h.2.2 (61, 5, 94) (List.mem_of_getElem? (i := 2) rfl)
theorem P61_7 (h : Static M) : mP M 61 7 = some 95 := h.2.2 (61, 7, 95) (List.mem_of_getElem? (i := 3) rfl)
theorem P61_8 (h : Static M) : mP M 61 8 = some 97 := h.2.2 (61, 8, 97) (List.mem_of_getElem? (i := 4) rfl)
theorem P61_9 (h : Static M) : mP M 61 9 = some 106 := h.2.2 (61, 9, 106) (List.mem_of_getElem? (i := 5) rfl)
theorem P61_10 (h : Static M) : mP M 61 10 = some 110 := h.2.2 (61, 10, 110) (List.mem_of_getElem? (i := 6) rfl)
theorem P61_11 (h : Static M) : mP M 61 11 = some 146 := h.2.2 (61, 11, 146) (List.mem_of_getElem? (i := 7) rfl)
theorem P62_1 (h : Static M) : mP M 62 1 = some 63 := h.2.2 (62, 1, 63) (List.mem_of_getElem? (i := 8) rfl)
theorem P62_2 (h : Static M) : mP M 62 2 = some 64 := h.2.2 (62, 2, 64) (List.mem_of_getElem? (i := 9) rfl)
theorem P62_3 (h : Static M) : mP M 62 3 = some 65 := h.2.2 (62, 3, 65) (List.mem_of_getElem? (i := 10) rfl)
theorem P62_4 (h : Static M) : mP M 62 4 = some 66 := h.2.2 (62, 4, 66) (List.mem_of_getElem? (i := 11) rfl)
theorem P66_0 (h : Static M) : mP M 66 0 = some 67 := h.2.2 (66, 0, 67) (List.mem_of_getElem? (i := 12) rfl)
theorem P66_1 (h : Static M) : mP M 66 1 = some 68 := h.2.2 (66, 1, 68) (List.mem_of_getElem? (i := 13) rfl)
theorem P66_2 (h : Static M) : mP M 66 2 = some 69 := h.2.2 (66, 2, 69) (List.mem_of_getElem? (i := 14) rfl)
theorem P66_3 (h : Static M) : mP M 66 3 = some 70 := h.2.2 (66, 3, 70) (List.mem_of_getElem? (i := 15) rfl)
theorem P66_4 (h : Static M) : mP M 66 4 = some 71 := h.2.2 (66, 4, 71) (List.mem_of_getElem? (i := 16) rfl)
theorem P66_5 (h : Static M) : mP M 66 5 = some 72 := h.2.2 (66, 5, 72) (List.mem_of_getElem? (i := 17) rfl)
theorem P66_6 (h : Static M) : mP M 66 6 = some 73 := h.2.2 (66, 6, 73) (List.mem_of_getElem? (i := 18) rfl)
theorem P66_7 (h : Static M) : mP M 66 7 = some 74 := h.2.2 (66, 7, 74) (List.mem_of_getElem? (i := 19) rfl)
theorem P66_8 (h : Static M) : mP M 66 8 = some 75 := h.2.2 (66, 8, 75) (List.mem_of_getElem? (i := 20) rfl)
theorem P66_9 (h : Static M) : mP M 66 9 = some 76 := h.2.2 (66, 9, 76) (List.mem_of_getElem? (i := 21) rfl)
theorem P66_10 (h : Static M) : mP M 66 10 = some 77 := h.2.2 (66, 10, 77) (List.mem_of_getElem? (i := 22) rfl)
theorem P66_11 (h : Static M) : mP M 66 11 = some 78 := h.2.2 (66, 11, 78) (List.mem_of_getElem? (i := 23) rfl)
theorem P66_12 (h : Static M) : mP M 66 12 = some 79 := h.2.2 (66, 12, 79) (List.mem_of_getElem? (i := 24) rfl)
theorem P66_13 (h : Static M) : mP M 66 13 = some 80 := h.2.2 (66, 13, 80) (List.mem_of_getElem? (i := 25) rfl)
theorem P66_14 (h : Static M) : mP M 66 14 = some 81 := h.2.2 (66, 14, 81) (List.mem_of_getElem? (i := 26) rfl)
theorem P66_15 (h : Static M) : mP M 66 15 = some 82 := h.2.2 (66, 15, 82) (List.mem_of_getElem? (i := 27) rfl)
theorem P66_16 (h : Static M) : mP M 66 16 = some 83 := h.2.2 (66, 16, 83) (List.mem_of_getElem? (i := 28) rfl)
theorem P66_17 (h : Static M) : mP M 66 17 = some 84 := h.2.2 (66, 17, 84) (List.mem_of_getElem? (i := 29) rfl)
theorem P66_18 (h : Static M) : mP M 66 18 = some 85 := h.2.2 (66, 18, 85) (List.mem_of_getElem? (i := 30) rfl)
theorem P66_19 (h : Static M) : mP M 66 19 = some 86 := h.2.2 (66, 19, 86) (List.mem_of_getElem? (i := 31) rfl)
theorem P66_20 (h : Static M) : mP M 66 20 = some 87 := h.2.2 (66, 20, 87) (List.mem_of_getElem? (i := 32) rfl)
theorem P66_21 (h : Static M) : mP M 66 21 = some 88 := h.2.2 (66, 21, 88) (List.mem_of_getElem? (i := 33) rfl)
theorem P66_22 (h : Static M) : mP M 66 22 = some 89 := h.2.2 (66, 22, 89) (List.mem_of_getElem? (i := 34) rfl)
theorem P66_23 (h : Static M) : mP M 66 23 = some 90 := h.2.2 (66, 23, 90) (List.mem_of_getElem? (i := 35) rfl)
theorem P91_4 (h : Static M) : mP M 91 4 = some 92 := h.2.2 (91, 4, 92) (List.mem_of_getElem? (i := 36) rfl)
theorem P91_5 (h : Static M) : mP M 91 5 = some 93 := h.2.2 (91, 5, 93) (List.mem_of_getElem? (i := 37) rfl)
theorem P95_5 (h : Static M) : mP M 95 5 = some 96 := h.2.2 (95, 5, 96) (List.mem_of_getElem? (i := 38) rfl)
theorem P97_1 (h : Static M) : mP M 97 1 = some 98 := h.2.2 (97, 1, 98) (List.mem_of_getElem? (i := 39) rfl)
theorem P97_2 (h : Static M) : mP M 97 2 = some 99 := h.2.2 (97, 2, 99) (List.mem_of_getElem? (i := 40) rfl)
theorem P97_3 (h : Static M) : mP M 97 3 = some 100 := h.2.2 (97, 3, 100) (List.mem_of_getElem? (i := 41) rfl)
theorem P97_5 (h : Static M) : mP M 97 5 = some 101 := h.2.2 (97, 5, 101) (List.mem_of_getElem? (i := 42) rfl)
theorem P97_8 (h : Static M) : mP M 97 8 = some 102 := h.2.2 (97, 8, 102) (List.mem_of_getElem? (i := 43) rfl)
theorem P97_9 (h : Static M) : mP M 97 9 = some 103 := h.2.2 (97, 9, 103) (List.mem_of_getElem? (i := 44) rfl)
theorem P97_10 (h : Static M) : mP M 97 10 = some 104 := h.2.2 (97, 10, 104) (List.mem_of_getElem? (i := 45) rfl)
theorem P97_11 (h : Static M) : mP M 97 11 = some 105 := h.2.2 (97, 11, 105) (List.mem_of_getElem? (i := 46) rfl)
theorem P106_0 (h : Static M) : mP M 106 0 = some 107 := h.2.2 (106, 0, 107) (List.mem_of_getElem? (i := 47) rfl)
theorem P106_1 (h : Static M) : mP M 106 1 = some 108 := h.2.2 (106, 1, 108) (List.mem_of_getElem? (i := 48) rfl)
theorem P106_2 (h : Static M) : mP M 106 2 = some 109 := h.2.2 (106, 2, 109) (List.mem_of_getElem? (i := 49) rfl)
theorem P110_0 (h : Static M) : mP M 110 0 = some 111 := h.2.2 (110, 0, 111) (List.mem_of_getElem? (i := 50) rfl)
theorem P110_1 (h : Static M) : mP M 110 1 = some 112 := h.2.2 (110, 1, 112) (List.mem_of_getElem? (i := 51) rfl)
theorem P110_2 (h : Static M) : mP M 110 2 = some 137 := h.2.2 (110, 2, 137) (List.mem_of_getElem? (i := 52) rfl)
theorem P110_3 (h : Static M) : mP M 110 3 = some 144 := h.2.2 (110, 3, 144) (List.mem_of_getElem? (i := 53) rfl)
theorem P110_4 (h : Static M) : mP M 110 4 = some 145 := h.2.2 (110, 4, 145) (List.mem_of_getElem? (i := 54) rfl)
theorem P112_0 (h : Static M) : mP M 112 0 = some 113 := h.2.2 (112, 0, 113) (List.mem_of_getElem? (i := 55) rfl)
theorem P112_1 (h : Static M) : mP M 112 1 = some 114 := h.2.2 (112, 1, 114) (List.mem_of_getElem? (i := 56) rfl)
theorem P112_2 (h : Static M) : mP M 112 2 = some 115 := h.2.2 (112, 2, 115) (List.mem_of_getElem? (i := 57) rfl)
theorem P112_3 (h : Static M) : mP M 112 3 = some 116 := h.2.2 (112, 3, 116) (List.mem_of_getElem? (i := 58) rfl)
theorem P112_4 (h : Static M) : mP M 112 4 = some 117 := h.2.2 (112, 4, 117) (List.mem_of_getElem? (i := 59) rfl)
theorem P112_5 (h : Static M) : mP M 112 5 = some 118 := h.2.2 (112, 5, 118) (List.mem_of_getElem? (i := 60) rfl)
theorem P112_6 (h : Static M) : mP M 112 6 = some 119 := h.2.2 (112, 6, 119) (List.mem_of_getElem? (i := 61) rfl)
theorem P112_7 (h : Static M) : mP M 112 7 = some 120 := h.2.2 (112, 7, 120) (List.mem_of_getElem? (i := 62) rfl)
theorem P112_8 (h : Static M) : mP M 112 8 = some 121 := h.2.2 (112, 8, 121) (List.mem_of_getElem? (i := 63) rfl)
theorem P112_9 (h : Static M) : mP M 112 9 = some 122 := h.2.2 (112, 9, 122) (List.mem_of_getElem? (i := 64) rfl)
theorem P112_10 (h : Static M) : mP M 112 10 = some 123 := h.2.2 (112, 10, 123) (List.mem_of_getElem? (i := 65) rfl)
theorem P112_11 (h : Static M) : mP M 112 11 = some 124 := h.2.2 (112, 11, 124) (List.mem_of_getElem? (i := 66) rfl)
theorem P112_12 (h : Static M) : mP M 112 12 = some 125 := h.2.2 (112, 12, 125) (List.mem_of_getElem? (i := 67) rfl)
theorem P112_13 (h : Static M) : mP M 112 13 = some 126 := h.2.2 (112, 13, 126) (List.mem_of_getElem? (i := 68) rfl)
theorem P112_14 (h : Static M) : mP M 112 14 = some 127 := h.2.2 (112, 14, 127) (List.mem_of_getElem? (i := 69) rfl)
theorem P112_15 (h : Static M) : mP M 112 15 = some 128 := h.2.2 (112, 15, 128) (List.mem_of_getElem? (i := 70) rfl)
theorem P112_16 (h : Static M) : mP M 112 16 = some 129 := h.2.2 (112, 16, 129) (List.mem_of_getElem? (i := 71) rfl)
theorem P112_17 (h : Static M) : mP M 112 17 = some 130 := h.2.2 (112, 17, 130) (List.mem_of_getElem? (i := 72) rfl)
theorem P112_18 (h : Static M) : mP M 112 18 = some 131 := h.2.2 (112, 18, 131) (List.mem_of_getElem? (i := 73) rfl)
theorem P112_19 (h : Static M) : mP M 112 19 = some 132 := h.2.2 (112, 19, 132) (List.mem_of_getElem? (i := 74) rfl)
theorem P112_20 (h : Static M) : mP M 112 20 = some 133 := h.2.2 (112, 20, 133) (List.mem_of_getElem? (i := 75) rfl)
theorem P112_21 (h : Static M) : mP M 112 21 = some 134 := h.2.2 (112, 21, 134) (List.mem_of_getElem? (i := 76) rfl)
theorem P112_22 (h : Static M) : mP M 112 22 = some 135 := h.2.2 (112, 22, 135) (List.mem_of_getElem? (i := 77) rfl)
theorem P112_23 (h : Static M) : mP M 112 23 = some 136 := h.2.2 (112, 23, 136) (List.mem_of_getElem? (i := 78) rfl)
theorem P137_0 (h : Static M) : mP M 137 0 = some 138 := h.2.2 (137, 0, 138) (List.mem_of_getElem? (i := 79) rfl)
theorem P137_1 (h : Static M) : mP M 137 1 = some 139 := h.2.2 (137, 1, 139) (List.mem_of_getElem? (i := 80) rfl)
theorem P137_2 (h : Static M) : mP M 137 2 = some 140 := h.2.2 (137, 2, 140) (List.mem_of_getElem? (i := 81) rfl)
theorem P137_3 (h : Static M) : mP M 137 3 = some 141 := h.2.2 (137, 3, 141) (List.mem_of_getElem? (i := 82) rfl)
theorem P137_4 (h : Static M) : mP M 137 4 = some 142 := h.2.2 (137, 4, 142) (List.mem_of_getElem? (i := 83) rfl)
theorem P137_5 (h : Static M) : mP M 137 5 = some 143 := h.2.2 (137, 5, 143) (List.mem_of_getElem? (i := 84) rfl)
theorem P146_2 (h : Static M) : mP M 146 2 = some 147 := h.2.2 (146, 2, 147) (List.mem_of_getElem? (i := 85) rfl)
theorem P146_3 (h : Static M) : mP M 146 3 = some 148 := h.2.2 (146, 3, 148) (List.mem_of_getElem? (i := 86) rfl)
theorem P146_4 (h : Static M) : mP M 146 4 = some 149 := h.2.2 (146, 4, 149) (List.mem_of_getElem? (i := 87) rfl)
theorem P146_5 (h : Static M) : mP M 146 5 = some 150 := h.2.2 (146, 5, 150) (List.mem_of_getElem? (i := 88) rfl)
theorem P146_6 (h : Static M) : mP M 146 6 = some 151 := h.2.2 (146, 6, 151) (List.mem_of_getElem? (i := 89) rfl)
theorem P146_7 (h : Static M) : mP M 146 7 = some 152 := h.2.2 (146, 7, 152) (List.mem_of_getElem? (i := 90) rfl)
theorem P146_8 (h : Static M) : mP M 146 8 = some 153 := h.2.2 (146, 8, 153) (List.mem_of_getElem? (i := 91) rfl)
theorem P154_0 (h : Static M) : mP M 154 0 = some 155 := h.2.2 (154, 0, 155) (List.mem_of_getElem? (i := 92) rfl)
theorem P154_1 (h : Static M) : mP M 154 1 = some 156 := h.2.2 (154, 1, 156) (List.mem_of_getElem? (i := 93) rfl)
theorem P154_7 (h : Static M) : mP M 154 7 = some 157 := h.2.2 (154, 7, 157) (List.mem_of_getElem? (i := 94) rfl)
theorem P154_8 (h : Static M) : mP M 154 8 = some 158 := h.2.2 (154, 8, 158) (List.mem_of_getElem? (i := 95) rfl)
theorem P154_9 (h : Static M) : mP M 154 9 = some 159 := h.2.2 (154, 9, 159) (List.mem_of_getElem? (i := 96) rfl)
theorem P154_10 (h : Static M) : mP M 154 10 = some 160 := h.2.2 (154, 10, 160) (List.mem_of_getElem? (i := 97) rfl)
theorem P154_11 (h : Static M) : mP M 154 11 = some 161 := h.2.2 (154, 11, 161) (List.mem_of_getElem? (i := 98) rfl)
theorem P154_25 (h : Static M) : mP M 154 25 = some 162 := h.2.2 (154, 25, 162) (List.mem_of_getElem? (i := 99) rfl)
theorem P154_26 (h : Static M) : mP M 154 26 = some 163 := h.2.2 (154, 26, 163) (List.mem_of_getElem? (i := 100) rfl)
theorem P154_27 (h : Static M) : mP M 154 27 = some 164 := h.2.2 (154, 27, 164) (List.mem_of_getElem? (i := 101) rfl)
theorem P154_28 (h : Static M) : mP M 154 28 = some 165 := h.2.2 (154, 28, 165) (List.mem_of_getElem? (i := 102) rfl)
theorem P154_29 (h : Static M) : mP M 154 29 = some 166 := h.2.2 (154, 29, 166) (List.mem_of_getElem? (i := 103) rfl)
theorem P154_30 (h : Static M) : mP M 154 30 = some 167 := h.2.2 (154, 30, 167) (List.mem_of_getElem? (i := 104) rfl)
theorem P154_31 (h : Static M) : mP M 154 31 = some 168 := h.2.2 (154, 31, 168) (List.mem_of_getElem? (i := 105) rfl)
theorem P154_32 (h : Static M) : mP M 154 32 = some 169 := h.2.2 (154, 32, 169) (List.mem_of_getElem? (i := 106) rfl)
theorem P154_33 (h : Static M) : mP M 154 33 = some 170 := h.2.2 (154, 33, 170) (List.mem_of_getElem? (i := 107) rfl)
theorem P154_34 (h : Static M) : mP M 154 34 = some 171 := h.2.2 (154, 34, 171) (List.mem_of_getElem? (i := 108) rfl)
theorem P154_35 (h : Static M) : mP M 154 35 = some 172 := h.2.2 (154, 35, 172) (List.mem_of_getElem? (i := 109) rfl)
theorem P154_36 (h : Static M) : mP M 154 36 = some 173 := h.2.2 (154, 36, 173) (List.mem_of_getElem? (i := 110) rfl)
theorem P154_37 (h : Static M) : mP M 154 37 = some 174 := h.2.2 (154, 37, 174) (List.mem_of_getElem? (i := 111) rfl)
theorem P154_38 (h : Static M) : mP M 154 38 = some 175 := h.2.2 (154, 38, 175) (List.mem_of_getElem? (i := 112) rfl)
theorem P154_39 (h : Static M) : mP M 154 39 = some 176 := h.2.2 (154, 39, 176) (List.mem_of_getElem? (i := 113) rfl)
theorem P154_40 (h : Static M) : mP M 154 40 = some 177 := h.2.2 (154, 40, 177) (List.mem_of_getElem? (i := 114) rfl)
theorem P154_41 (h : Static M) : mP M 154 41 = some 178 := h.2.2 (154, 41, 178) (List.mem_of_getElem? (i := 115) rfl)
theorem P154_46 (h : Static M) : mP M 154 46 = some 179 := h.2.2 (154, 46, 179) (List.mem_of_getElem? (i := 116) rfl)
theorem P154_47 (h : Static M) : mP M 154 47 = some 180 := h.2.2 (154, 47, 180) (List.mem_of_getElem? (i := 117) rfl)
theorem P154_48 (h : Static M) : mP M 154 48 = some 181 := h.2.2 (154, 48, 181) (List.mem_of_getElem? (i := 118) rfl)
theorem P154_49 (h : Static M) : mP M 154 49 = some 182 := h.2.2 (154, 49, 182) (List.mem_of_getElem? (i := 119) rfl)
theorem P154_50 (h : Static M) : mP M 154 50 = some 183 := h.2.2 (154, 50, 183) (List.mem_of_getElem? (i := 120) rfl)
theorem P154_51 (h : Static M) : mP M 154 51 = some 184 := h.2.2 (154, 51, 184) (List.mem_of_getElem? (i := 121) rfl)
theorem P154_52 (h : Static M) : mP M 154 52 = some 185 := h.2.2 (154, 52, 185) (List.mem_of_getElem? (i := 122) rfl)
theorem P154_53 (h : Static M) : mP M 154 53 = some 186 := h.2.2 (154, 53, 186) (List.mem_of_getElem? (i := 123) rfl)
theorem P154_54 (h : Static M) : mP M 154 54 = some 187 := h.2.2 (154, 54, 187) (List.mem_of_getElem? (i := 124) rfl)
theorem P154_55 (h : Static M) : mP M 154 55 = some 188 := h.2.2 (154, 55, 188) (List.mem_of_getElem? (i := 125) rfl)
theorem P154_56 (h : Static M) : mP M 154 56 = some 189 := h.2.2 (154, 56, 189) (List.mem_of_getElem? (i := 126) rfl)
theorem P154_57 (h : Static M) : mP M 154 57 = some 190 := h.2.2 (154, 57, 190) (List.mem_of_getElem? (i := 127) rfl)
theorem P154_58 (h : Static M) : mP M 154 58 = some 191 := h.2.2 (154, 58, 191) (List.mem_of_getElem? (i := 128) rfl)
theorem P154_59 (h : Static M) : mP M 154 59 = some 192 := h.2.2 (154, 59, 192) (List.mem_of_getElem? (i := 129) rfl)
theorem P154_60 (h : Static M) : mP M 154 60 = some 193 := h.2.2 (154, 60, 193) (List.mem_of_getElem? (i := 130) rfl)
theorem P154_61 (h : Static M) : mP M 154 61 = some 194 := h.2.2 (154, 61, 194) (List.mem_of_getElem? (i := 131) rfl)
theorem P154_62 (h : Static M) : mP M 154 62 = some 195 := h.2.2 (154, 62, 195) (List.mem_of_getElem? (i := 132) rfl)
theorem P154_63 (h : Static M) : mP M 154 63 = some 196 := h.2.2 (154, 63, 196) (List.mem_of_getElem? (i := 133) rfl)
theorem P154_64 (h : Static M) : mP M 154 64 = some 197 := h.2.2 (154, 64, 197) (List.mem_of_getElem? (i := 134) rfl)
theorem P154_65 (h : Static M) : mP M 154 65 = some 198 := h.2.2 (154, 65, 198) (List.mem_of_getElem? (i := 135) rfl)
theorem P154_68 (h : Static M) : mP M 154 68 = some 199 := h.2.2 (154, 68, 199) (List.mem_of_getElem? (i := 136) rfl)
theorem P154_69 (h : Static M) : mP M 154 69 = some 200 := h.2.2 (154, 69, 200) (List.mem_of_getElem? (i := 137) rfl)
theorem P154_70 (h : Static M) : mP M 154 70 = some 201 := h.2.2 (154, 70, 201) (List.mem_of_getElem? (i := 138) rfl)
theorem P154_71 (h : Static M) : mP M 154 71 = some 202 := h.2.2 (154, 71, 202) (List.mem_of_getElem? (i := 139) rfl)
theorem P154_72 (h : Static M) : mP M 154 72 = some 203 := h.2.2 (154, 72, 203) (List.mem_of_getElem? (i := 140) rfl)
theorem P154_73 (h : Static M) : mP M 154 73 = some 204 := h.2.2 (154, 73, 204) (List.mem_of_getElem? (i := 141) rfl)
theorem P154_74 (h : Static M) : mP M 154 74 = some 205 := h.2.2 (154, 74, 205) (List.mem_of_getElem? (i := 142) rfl)
theorem P154_75 (h : Static M) : mP M 154 75 = some 206 := h.2.2 (154, 75, 206) (List.mem_of_getElem? (i := 143) rfl)
theorem P154_76 (h : Static M) : mP M 154 76 = some 207 := h.2.2 (154, 76, 207) (List.mem_of_getElem? (i := 144) rfl)
theorem P154_77 (h : Static M) : mP M 154 77 = some 208 := h.2.2 (154, 77, 208) (List.mem_of_getElem? (i := 145) rfl)
theorem P154_78 (h : Static M) : mP M 154 78 = some 209 := h.2.2 (154, 78, 209) (List.mem_of_getElem? (i := 146) rfl)
theorem P154_79 (h : Static M) : mP M 154 79 = some 210 := h.2.2 (154, 79, 210) (List.mem_of_getElem? (i := 147) rfl)
theorem P154_80 (h : Static M) : mP M 154 80 = some 211 := h.2.2 (154, 80, 211) (List.mem_of_getElem? (i := 148) rfl)
theorem P154_81 (h : Static M) : mP M 154 81 = some 212 := h.2.2 (154, 81, 212) (List.mem_of_getElem? (i := 149) rfl)
theorem P154_82 (h : Static M) : mP M 154 82 = some 213 := h.2.2 (154, 82, 213) (List.mem_of_getElem? (i := 150) rfl)
theorem P154_83 (h : Static M) : mP M 154 83 = some 214 := h.2.2 (154, 83, 214) (List.mem_of_getElem? (i := 151) rfl)
theorem P154_84 (h : Static M) : mP M 154 84 = some 215 := h.2.2 (154, 84, 215) (List.mem_of_getElem? (i := 152) rfl)
theorem P154_85 (h : Static M) : mP M 154 85 = some 216 := h.2.2 (154, 85, 216) (List.mem_of_getElem? (i := 153) rfl)
theorem P154_86 (h : Static M) : mP M 154 86 = some 217 := h.2.2 (154, 86, 217) (List.mem_of_getElem? (i := 154) rfl)
theorem P154_87 (h : Static M) : mP M 154 87 = some 218 := h.2.2 (154, 87, 218) (List.mem_of_getElem? (i := 155) rfl)
theorem P154_88 (h : Static M) : mP M 154 88 = some 219 := h.2.2 (154, 88, 219) (List.mem_of_getElem? (i := 156) rfl)
theorem P154_89 (h : Static M) : mP M 154 89 = some 220 := h.2.2 (154, 89, 220) (List.mem_of_getElem? (i := 157) rfl)
theorem P155_0 (h : Static M) : mP M 155 0 = some 12 := h.2.2 (155, 0, 12) (List.mem_of_getElem? (i := 158) rfl)
theorem P155_1 (h : Static M) : mP M 155 1 = some 13 := h.2.2 (155, 1, 13) (List.mem_of_getElem? (i := 159) rfl)
theorem P155_2 (h : Static M) : mP M 155 2 = some 14 := h.2.2 (155, 2, 14) (List.mem_of_getElem? (i := 160) rfl)
theorem P155_3 (h : Static M) : mP M 155 3 = some 15 := h.2.2 (155, 3, 15) (List.mem_of_getElem? (i := 161) rfl)
theorem P155_4 (h : Static M) : mP M 155 4 = some 16 := h.2.2 (155, 4, 16) (List.mem_of_getElem? (i := 162) rfl)
theorem P155_5 (h : Static M) : mP M 155 5 = some 17 := h.2.2 (155, 5, 17) (List.mem_of_getElem? (i := 163) rfl)
theorem P155_6 (h : Static M) : mP M 155 6 = some 18 := h.2.2 (155, 6, 18) (List.mem_of_getElem? (i := 164) rfl)
theorem P155_7 (h : Static M) : mP M 155 7 = some 19 := h.2.2 (155, 7, 19) (List.mem_of_getElem? (i := 165) rfl)
theorem P155_8 (h : Static M) : mP M 155 8 = some 20 := h.2.2 (155, 8, 20) (List.mem_of_getElem? (i := 166) rfl)
theorem P155_9 (h : Static M) : mP M 155 9 = some 21 := h.2.2 (155, 9, 21) (List.mem_of_getElem? (i := 167) rfl)
theorem P155_10 (h : Static M) : mP M 155 10 = some 22 := h.2.2 (155, 10, 22) (List.mem_of_getElem? (i := 168) rfl)
theorem P155_11 (h : Static M) : mP M 155 11 = some 23 := h.2.2 (155, 11, 23) (List.mem_of_getElem? (i := 169) rfl)
theorem P155_12 (h : Static M) : mP M 155 12 = some 24 := h.2.2 (155, 12, 24) (List.mem_of_getElem? (i := 170) rfl)
theorem P155_13 (h : Static M) : mP M 155 13 = some 25 := h.2.2 (155, 13, 25) (List.mem_of_getElem? (i := 171) rfl)
theorem P155_14 (h : Static M) : mP M 155 14 = some 26 := h.2.2 (155, 14, 26) (List.mem_of_getElem? (i := 172) rfl)
theorem P155_15 (h : Static M) : mP M 155 15 = some 27 := h.2.2 (155, 15, 27) (List.mem_of_getElem? (i := 173) rfl)
theorem P155_16 (h : Static M) : mP M 155 16 = some 28 := h.2.2 (155, 16, 28) (List.mem_of_getElem? (i := 174) rfl)
theorem P155_17 (h : Static M) : mP M 155 17 = some 29 := h.2.2 (155, 17, 29) (List.mem_of_getElem? (i := 175) rfl)
theorem P156_0 (h : Static M) : mP M 156 0 = some 24 := h.2.2 (156, 0, 24) (List.mem_of_getElem? (i := 176) rfl)
theorem P156_1 (h : Static M) : mP M 156 1 = some 25 := h.2.2 (156, 1, 25) (List.mem_of_getElem? (i := 177) rfl)
theorem P156_2 (h : Static M) : mP M 156 2 = some 26 := h.2.2 (156, 2, 26) (List.mem_of_getElem? (i := 178) rfl)
theorem P156_3 (h : Static M) : mP M 156 3 = some 27 := h.2.2 (156, 3, 27) (List.mem_of_getElem? (i := 179) rfl)
theorem P156_4 (h : Static M) : mP M 156 4 = some 28 := h.2.2 (156, 4, 28) (List.mem_of_getElem? (i := 180) rfl)
theorem P156_5 (h : Static M) : mP M 156 5 = some 29 := h.2.2 (156, 5, 29) (List.mem_of_getElem? (i := 181) rfl)
theorem P156_6 (h : Static M) : mP M 156 6 = some 19 := h.2.2 (156, 6, 19) (List.mem_of_getElem? (i := 182) rfl)
end
theorem PP66 {M : Mem} (h : Static M) {i : Nat} (hi : i < 24) : mP M 66 i = some (67 + i) := by
  have hh : (List.range 24).all (fun i => spL.contains (66, i, 67 + i)) = true := by decide +kernel
  have := List.all_eq_true.mp hh i (List.mem_range.mpr hi)
  exact h.2.2 (66, i, 67 + i) (List.contains_iff_mem.mp this)
theorem KK67 {M : Mem} (h : Static M) {i : Nat} (hi : i < 24) : mK M (67 + i) = (21, 24) := by
  have hh : (List.range 24).all (fun i => skL.contains (67 + i, 21, 24)) = true := by decide +kernel
  have := List.all_eq_true.mp hh i (List.mem_range.mpr hi)
  exact h.2.1 (67 + i, 21, 24) (List.contains_iff_mem.mp this)
theorem AA67 {M : Mem} (h : Static M) {i : Nat} (hi : i < 24) {x : Int32} : iA M (67 + i) 21 x = inb x 24 := by
  have h1 : oB M (67 + i) 21 := ⟨by omega, Nat.lt_of_lt_of_le (by omega : 67 + i < 222) h.1, by rw [KK67 h hi]⟩
  unfold iA; rw [eq_true h1, KK67 h hi, true_and]
theorem PP112 {M : Mem} (h : Static M) {i : Nat} (hi : i < 24) : mP M 112 i = some (113 + i) := by
  have hh : (List.range 24).all (fun i => spL.contains (112, i, 113 + i)) = true := by decide +kernel
  have := List.all_eq_true.mp hh i (List.mem_range.mpr hi)
  exact h.2.2 (112, i, 113 + i) (List.contains_iff_mem.mp this)
theorem KK113 {M : Mem} (h : Static M) {i : Nat} (hi : i < 24) : mK M (113 + i) = (20, 6) := by
  have hh : (List.range 24).all (fun i => skL.contains (113 + i, 20, 6)) = true := by decide +kernel
  have := List.all_eq_true.mp hh i (List.mem_range.mpr hi)
  exact h.2.1 (113 + i, 20, 6) (List.contains_iff_mem.mp this)
theorem AA113 {M : Mem} (h : Static M) {i : Nat} (hi : i < 24) {x : Int32} : iA M (113 + i) 20 x = inb x 6 := by
  have h1 : oB M (113 + i) 20 := ⟨by omega, Nat.lt_of_lt_of_le (by omega : 113 + i < 222) h.1, by rw [KK113 h hi]⟩
  unfold iA; rw [eq_true h1, KK113 h hi, true_and]
theorem PP137 {M : Mem} (h : Static M) {i : Nat} (hi : i < 6) : mP M 137 i = some (138 + i) := by
  have hh : (List.range 6).all (fun i => spL.contains (137, i, 138 + i)) = true := by decide +kernel
  have := List.all_eq_true.mp hh i (List.mem_range.mpr hi)
  exact h.2.2 (137, i, 138 + i) (List.contains_iff_mem.mp this)
theorem KK138 {M : Mem} (h : Static M) {i : Nat} (hi : i < 6) : mK M (138 + i) = (20, 6) := by
  have hh : (List.range 6).all (fun i => skL.contains (138 + i, 20, 6)) = true := by decide +kernel
  have := List.all_eq_true.mp hh i (List.mem_range.mpr hi)
  exact h.2.1 (138 + i, 20, 6) (List.contains_iff_mem.mp this)
theorem AA138 {M : Mem} (h : Static M) {i : Nat} (hi : i < 6) {x : Int32} : iA M (138 + i) 20 x = inb x 6 := by
  have h1 : oB M (138 + i) 20 := ⟨by omega, Nat.lt_of_lt_of_le (by omega : 138 + i < 222) h.1, by rw [KK138 h hi]⟩
  unfold iA; rw [eq_true h1, KK138 h hi, true_and]
theorem en0 {r0 : Option Nat} : ent (mL 0) [aR r0] = [aR r0] := rfl
theorem en1 {r0 : Option Nat} : ent (mL 1) [aR r0] = [aR r0] := rfl
theorem en2 {r0 : Option Nat} : ent (mL 2) [aR r0] = [aR r0] := rfl
theorem en3 {x0 : Int32} : ent (mL 3) [aI x0] = [aI x0] := rfl
theorem en4 {x0 : Int32} {x1 : Int32} : ent (mL 4) [aI x0, aI x1] = [aI x0, aI x1] := rfl
theorem en5 {x0 : Int32} {x1 : Int32} : ent (mL 5) [aI x0, aI x1] = [aI x0, aI x1] := rfl
theorem en6 {r0 : Option Nat} {x1 : Int32} {x2 : Int32} {x3 : Int32} : ent (mL 6) [aR r0, aI x1, aI x2, aI x3] = [aR r0, aI x1, aI x2, aI x3, aU, aU] := rfl
theorem en7 {r0 : Option Nat} {x1 : Int32} {x2 : Int32} {x3 : Int32} : ent (mL 7) [aR r0, aI x1, aI x2, aI x3] = [aR r0, aI x1, aI x2, aI x3] := rfl
theorem en8 {r0 : Option Nat} {x1 : Int32} {x2 : Int32} : ent (mL 8) [aR r0, aI x1, aI x2] = [aR r0, aI x1, aI x2] := rfl
theorem en9 {r0 : Option Nat} {x1 : Int32} : ent (mL 9) [aR r0, aI x1] = [aR r0, aI x1] := rfl
theorem en10 {x0 : Int32} {x1 : Int32} {w2 : Option Nat} : ent (mL 10) [aI x0, aI x1, aR w2] = [aI x0, aI x1, aR w2] := rfl
theorem en11 {x0 : Int32} {x1 : Int32} : ent (mL 11) [aI x0, aI x1] = [aI x0, aI x1] := rfl
theorem en12 {r0 : Option Nat} {x1 : Int32} : ent (mL 12) [aR r0, aI x1] = [aR r0, aI x1] := rfl
theorem en13 {r0 : Option Nat} {x1 : Int32} : ent (mL 13) [aR r0, aI x1] = [aR r0, aI x1] := rfl
theorem en14 {r0 : Option Nat} {x1 : Int32} : ent (mL 14) [aR r0, aI x1] = [aR r0, aI x1, aU, aU] := rfl
theorem en15 {y0 : Int64} {y1 : Int64} : ent (mL 15) [aL y0, aL y1] = [aL y0, aU, aL y1, aU, aU, aU] := rfl
theorem en16 {r0 : Option Nat} : ent (mL 16) [aR r0] = [aR r0] := rfl
theorem en17 {r0 : Option Nat} {x1 : Int32} : ent (mL 17) [aR r0, aI x1] = [aR r0, aI x1] := rfl
theorem en18 {r0 : Option Nat} {x1 : Int32} : ent (mL 18) [aR r0, aI x1] = [aR r0, aI x1] := rfl
theorem en19 {r0 : Option Nat} : ent (mL 19) [aR r0] = [aR r0] := rfl
theorem en20 {r0 : Option Nat} {x1 : Int32} : ent (mL 20) [aR r0, aI x1] = [aR r0, aI x1] := rfl
theorem en21 {r0 : Option Nat} {x1 : Int32} {x2 : Int32} : ent (mL 21) [aR r0, aI x1, aI x2] = [aR r0, aI x1, aI x2] := rfl
theorem en22 {r0 : Option Nat} {x1 : Int32} {x2 : Int32} {x3 : Int32} : ent (mL 22) [aR r0, aI x1, aI x2, aI x3] = [aR r0, aI x1, aI x2, aI x3, aU, aU, aU, aU] := rfl
theorem en23 {r0 : Option Nat} {x1 : Int32} {x2 : Int32} : ent (mL 23) [aR r0, aI x1, aI x2] = [aR r0, aI x1, aI x2] := rfl
theorem en24 {r0 : Option Nat} {x1 : Int32} : ent (mL 24) [aR r0, aI x1] = [aR r0, aI x1] := rfl
theorem en25 {r0 : Option Nat} {x1 : Int32} {x2 : Int32} {x3 : Int32} {x4 : Int32} {x5 : Int32} : ent (mL 25) [aR r0, aI x1, aI x2, aI x3, aI x4, aI x5] = [aR r0, aI x1, aI x2, aI x3, aI x4, aI x5, aU, aU] := rfl
theorem en26 {r0 : Option Nat} {x1 : Int32} : ent (mL 26) [aR r0, aI x1] = [aR r0, aI x1] := rfl
theorem en27 {x0 : Int32} : ent (mL 27) [aI x0] = [aI x0] := rfl
theorem en28 {x0 : Int32} : ent (mL 28) [aI x0] = [aI x0] := rfl
theorem en29 {r0 : Option Nat} : ent (mL 29) [aR r0] = [aR r0, aU, aU] := rfl
theorem en30 {r0 : Option Nat} {x1 : Int32} : ent (mL 30) [aR r0, aI x1] = [aR r0, aI x1] := rfl
theorem en31 {r0 : Option Nat} {r1 : Option Nat} : ent (mL 31) [aR r0, aR r1] = [aR r0, aR r1, aU, aU] := rfl
theorem en32 {r0 : Option Nat} {x1 : Int32} : ent (mL 32) [aR r0, aI x1] = [aR r0, aI x1] := rfl
theorem en33 {x0 : Int32} : ent (mL 33) [aI x0] = [aI x0] := rfl
theorem en34 {r0 : Option Nat} : ent (mL 34) [aR r0] = [aR r0, aU, aU] := rfl
theorem en35 {r0 : Option Nat} {x1 : Int32} {x2 : Int32} : ent (mL 35) [aR r0, aI x1, aI x2] = [aR r0, aI x1, aI x2, aU, aU, aU] := rfl
theorem en36 {r0 : Option Nat} {x1 : Int32} {x2 : Int32} : ent (mL 36) [aR r0, aI x1, aI x2] = [aR r0, aI x1, aI x2, aU, aU] := rfl
theorem en37 {r0 : Option Nat} {x1 : Int32} {x2 : Int32} : ent (mL 37) [aR r0, aI x1, aI x2] = [aR r0, aI x1, aI x2, aU] := rfl
theorem en38 {r0 : Option Nat} {x1 : Int32} : ent (mL 38) [aR r0, aI x1] = [aR r0, aI x1] := rfl
theorem en39 {r0 : Option Nat} {x1 : Int32} : ent (mL 39) [aR r0, aI x1] = [aR r0, aI x1] := rfl
theorem en40 {r0 : Option Nat} {x1 : Int32} : ent (mL 40) [aR r0, aI x1] = [aR r0, aI x1, aU] := rfl
theorem en41 {r0 : Option Nat} : ent (mL 41) [aR r0] = [aR r0] := rfl
theorem en42 {x0 : Int32} : ent (mL 42) [aI x0] = [aI x0] := rfl
theorem en43 {r0 : Option Nat} {r1 : Option Nat} : ent (mL 43) [aR r0, aR r1] = [aR r0, aR r1] := rfl
theorem en44 {r0 : Option Nat} {x1 : Int32} {x2 : Int32} : ent (mL 44) [aR r0, aI x1, aI x2] = [aR r0, aI x1, aI x2] := rfl
theorem en45 {r0 : Option Nat} : ent (mL 45) [aR r0] = [aR r0, aU] := rfl
theorem en46 {r0 : Option Nat} {x1 : Int32} {x2 : Int32} : ent (mL 46) [aR r0, aI x1, aI x2] = [aR r0, aI x1, aI x2, aU] := rfl
theorem en47 {r0 : Option Nat} {x1 : Int32} {x2 : Int32} : ent (mL 47) [aR r0, aI x1, aI x2] = [aR r0, aI x1, aI x2, aU] := rfl
theorem en48 {r0 : Option Nat} {x1 : Int32} {x2 : Int32} : ent (mL 48) [aR r0, aI x1, aI x2] = [aR r0, aI x1, aI x2, aU] := rfl
theorem en49 {r0 : Option Nat} {x1 : Int32} {x2 : Int32} : ent (mL 49) [aR r0, aI x1, aI x2] = [aR r0, aI x1, aI x2, aU, aU] := rfl
theorem en50 {r0 : Option Nat} {x1 : Int32} {x2 : Int32} : ent (mL 50) [aR r0, aI x1, aI x2] = [aR r0, aI x1, aI x2] := rfl
theorem en51 {r0 : Option Nat} {x1 : Int32} {x2 : Int32} : ent (mL 51) [aR r0, aI x1, aI x2] = [aR r0, aI x1, aI x2, aU] := rfl
theorem en52 {r0 : Option Nat} {x1 : Int32} : ent (mL 52) [aR r0, aI x1] = [aR r0, aI x1, aU] := rfl
theorem en53 {r0 : Option Nat} {x1 : Int32} : ent (mL 53) [aR r0, aI x1] = [aR r0, aI x1, aU, aU, aU, aU] := rfl
theorem en54 {r0 : Option Nat} {x1 : Int32} : ent (mL 54) [aR r0, aI x1] = [aR r0, aI x1] := rfl
theorem en55 {r0 : Option Nat} {x1 : Int32} : ent (mL 55) [aR r0, aI x1] = [aR r0, aI x1, aU, aU] := rfl
theorem en56 {r0 : Option Nat} : ent (mL 56) [aR r0] = [aR r0] := rfl
theorem en57 {r0 : Option Nat} {x1 : Int32} : ent (mL 57) [aR r0, aI x1] = [aR r0, aI x1] := rfl
theorem en58 {r0 : Option Nat} {x1 : Int32} {x2 : Int32} {x3 : Int32} : ent (mL 58) [aR r0, aI x1, aI x2, aI x3] = [aR r0, aI x1, aI x2, aI x3] := rfl
theorem en59 {r0 : Option Nat} {x1 : Int32} {x2 : Int32} {x3 : Int32} {x4 : Int32} {x5 : Int32} : ent (mL 59) [aR r0, aI x1, aI x2, aI x3, aI x4, aI x5] = [aR r0, aI x1, aI x2, aI x3, aI x4, aI x5] := rfl
theorem en60 {r0 : Option Nat} {x1 : Int32} : ent (mL 60) [aR r0, aI x1] = [aR r0, aI x1] := rfl
theorem en61 {r0 : Option Nat} {x1 : Int32} {x2 : Int32} : ent (mL 61) [aR r0, aI x1, aI x2] = [aR r0, aI x1, aI x2, aU, aU] := rfl
theorem en62 {r0 : Option Nat} {x1 : Int32} {x2 : Int32} : ent (mL 62) [aR r0, aI x1, aI x2] = [aR r0, aI x1, aI x2, aU] := rfl
theorem en63 {r0 : Option Nat} {x1 : Int32} {x2 : Int32} : ent (mL 63) [aR r0, aI x1, aI x2] = [aR r0, aI x1, aI x2, aU, aU] := rfl
theorem en64 {r0 : Option Nat} {x1 : Int32} : ent (mL 64) [aR r0, aI x1] = [aR r0, aI x1] := rfl
theorem en65 {r0 : Option Nat} {x1 : Int32} {x2 : Int32} : ent (mL 65) [aR r0, aI x1, aI x2] = [aR r0, aI x1, aI x2, aU, aU] := rfl
theorem en66 {r0 : Option Nat} {x1 : Int32} : ent (mL 66) [aR r0, aI x1] = [aR r0, aI x1, aU] := rfl
theorem en67 {x0 : Int32} {x1 : Int32} {x2 : Int32} : ent (mL 67) [aI x0, aI x1, aI x2] = [aI x0, aI x1, aI x2] := rfl
theorem en68 {r0 : Option Nat} {x1 : Int32} {x2 : Int32} {x3 : Int32} : ent (mL 68) [aR r0, aI x1, aI x2, aI x3] = [aR r0, aI x1, aI x2, aI x3, aU, aU, aU] := rfl
theorem en69 {r0 : Option Nat} {x1 : Int32} {x2 : Int32} : ent (mL 69) [aR r0, aI x1, aI x2] = [aR r0, aI x1, aI x2, aU, aU, aU, aU, aU, aU, aU] := rfl
theorem en70 {r0 : Option Nat} {x1 : Int32} {x2 : Int32} {x3 : Int32} : ent (mL 70) [aR r0, aI x1, aI x2, aI x3] = [aR r0, aI x1, aI x2, aI x3, aU, aU, aU] := rfl
theorem en71 {r0 : Option Nat} {x1 : Int32} {x2 : Int32} : ent (mL 71) [aR r0, aI x1, aI x2] = [aR r0, aI x1, aI x2, aU, aU, aU, aU, aU] := rfl
theorem en72 {r0 : Option Nat} {x1 : Int32} : ent (mL 72) [aR r0, aI x1] = [aR r0, aI x1, aU] := rfl
theorem en73 {r0 : Option Nat} {x1 : Int32} {x2 : Int32} : ent (mL 73) [aR r0, aI x1, aI x2] = [aR r0, aI x1, aI x2, aU, aU, aU, aU, aU] := rfl
theorem en74 {r0 : Option Nat} {x1 : Int32} : ent (mL 74) [aR r0, aI x1] = [aR r0, aI x1, aU, aU] := rfl
theorem en75 {r0 : Option Nat} {x1 : Int32} {x2 : Int32} {x3 : Int32} : ent (mL 75) [aR r0, aI x1, aI x2, aI x3] = [aR r0, aI x1, aI x2, aI x3] := rfl
theorem en76 {r0 : Option Nat} {x1 : Int32} {x2 : Int32} {x3 : Int32} : ent (mL 76) [aR r0, aI x1, aI x2, aI x3] = [aR r0, aI x1, aI x2, aI x3, aU] := rfl
theorem en77 {r0 : Option Nat} {x1 : Int32} : ent (mL 77) [aR r0, aI x1] = [aR r0, aI x1] := rfl
theorem en78 {r0 : Option Nat} {x1 : Int32} {x2 : Int32} {x3 : Int32} : ent (mL 78) [aR r0, aI x1, aI x2, aI x3] = [aR r0, aI x1, aI x2, aI x3, aU] := rfl
theorem en79 {r0 : Option Nat} {x1 : Int32} {x2 : Int32} {x3 : Int32} : ent (mL 79) [aR r0, aI x1, aI x2, aI x3] = [aR r0, aI x1, aI x2, aI x3, aU, aU, aU, aU, aU, aU] := rfl
theorem en80 {r0 : Option Nat} {x1 : Int32} {x2 : Int32} : ent (mL 80) [aR r0, aI x1, aI x2] = [aR r0, aI x1, aI x2] := rfl
theorem en81 {r0 : Option Nat} {x1 : Int32} {x2 : Int32} {x3 : Int32} {x4 : Int32} : ent (mL 81) [aR r0, aI x1, aI x2, aI x3, aI x4] = [aR r0, aI x1, aI x2, aI x3, aI x4, aU, aU, aU, aU] := rfl
theorem en82 {r0 : Option Nat} {x1 : Int32} {x2 : Int32} {x3 : Int32} {x4 : Int32} : ent (mL 82) [aR r0, aI x1, aI x2, aI x3, aI x4] = [aR r0, aI x1, aI x2, aI x3, aI x4] := rfl
theorem en83 {r0 : Option Nat} : ent (mL 83) [aR r0] = [aR r0] := rfl
theorem en84 {r0 : Option Nat} {x1 : Int32} : ent (mL 84) [aR r0, aI x1] = [aR r0, aI x1, aU, aU] := rfl
theorem en85 {r0 : Option Nat} {x1 : Int32} {x2 : Int32} {x3 : Int32} : ent (mL 85) [aR r0, aI x1, aI x2, aI x3] = [aR r0, aI x1, aI x2, aI x3, aU] := rfl
theorem en86 {r0 : Option Nat} {x1 : Int32} {x2 : Int32} : ent (mL 86) [aR r0, aI x1, aI x2] = [aR r0, aI x1, aI x2, aU] := rfl
theorem en87 {r0 : Option Nat} {y1 : Int64} {x2 : Int32} : ent (mL 87) [aR r0, aL y1, aI x2] = [aR r0, aL y1, aU, aI x2, aU, aU, aU, aU, aU] := rfl
theorem en88 {r0 : Option Nat} {x1 : Int32} : ent (mL 88) [aR r0, aI x1] = [aR r0, aI x1] := rfl
theorem en89 {r0 : Option Nat} {x1 : Int32} {x2 : Int32} {x3 : Int32} : ent (mL 89) [aR r0, aI x1, aI x2, aI x3] = [aR r0, aI x1, aI x2, aI x3, aU, aU, aU, aU, aU, aU, aU, aU, aU, aU, aU, aU, aU] := rfl
theorem en90 {r0 : Option Nat} {x1 : Int32} {x2 : Int32} : ent (mL 90) [aR r0, aI x1, aI x2] = [aR r0, aI x1, aI x2, aU] := rfl
theorem en91 {r0 : Option Nat} {x1 : Int32} {x2 : Int32} {x3 : Int32} : ent (mL 91) [aR r0, aI x1, aI x2, aI x3] = [aR r0, aI x1, aI x2, aI x3, aU, aU, aU] := rfl
theorem en92 {r0 : Option Nat} {x1 : Int32} : ent (mL 92) [aR r0, aI x1] = [aR r0, aI x1, aU, aU, aU, aU, aU] := rfl
theorem en93 {r0 : Option Nat} {x1 : Int32} {x2 : Int32} : ent (mL 93) [aR r0, aI x1, aI x2] = [aR r0, aI x1, aI x2, aU, aU, aU, aU, aU, aU] := rfl
theorem en94 {r0 : Option Nat} {x1 : Int32} {x2 : Int32} : ent (mL 94) [aR r0, aI x1, aI x2] = [aR r0, aI x1, aI x2, aU, aU, aU, aU, aU, aU] := rfl
theorem en95 {r0 : Option Nat} {x1 : Int32} : ent (mL 95) [aR r0, aI x1] = [aR r0, aI x1, aU, aU, aU, aU, aU, aU, aU, aU] := rfl
theorem en96 {r0 : Option Nat} {x1 : Int32} {x2 : Int32} {x3 : Int32} : ent (mL 96) [aR r0, aI x1, aI x2, aI x3] = [aR r0, aI x1, aI x2, aI x3] := rfl
theorem en97 {r0 : Option Nat} {x1 : Int32} {x2 : Int32} {x3 : Int32} : ent (mL 97) [aR r0, aI x1, aI x2, aI x3] = [aR r0, aI x1, aI x2, aI x3, aU, aU, aU, aU, aU] := rfl
theorem en98 {r0 : Option Nat} {x1 : Int32} : ent (mL 98) [aR r0, aI x1] = [aR r0, aI x1] := rfl
theorem en99 {r0 : Option Nat} : ent (mL 99) [aR r0] = [aR r0] := rfl
theorem en100 {r0 : Option Nat} : ent (mL 100) [aR r0] = [aR r0] := rfl
theorem en101 {r0 : Option Nat} : ent (mL 101) [aR r0] = [aR r0] := rfl
theorem en102 {r0 : Option Nat} : ent (mL 102) [aR r0] = [aR r0] := rfl
theorem en103 {r0 : Option Nat} : ent (mL 103) [aR r0] = [aR r0] := rfl
theorem en104 {r0 : Option Nat} : ent (mL 104) [aR r0] = [aR r0] := rfl
theorem en105 {r0 : Option Nat} : ent (mL 105) [aR r0] = [aR r0] := rfl
theorem en106 {r0 : Option Nat} : ent (mL 106) [aR r0] = [aR r0] := rfl
theorem en107 {r0 : Option Nat} {x1 : Int32} : ent (mL 107) [aR r0, aI x1] = [aR r0, aI x1] := rfl
theorem en108 {r0 : Option Nat} {x1 : Int32} : ent (mL 108) [aR r0, aI x1] = [aR r0, aI x1] := rfl
theorem en109 {r0 : Option Nat} {x1 : Int32} {x2 : Int32} : ent (mL 109) [aR r0, aI x1, aI x2] = [aR r0, aI x1, aI x2] := rfl
theorem en110 {r0 : Option Nat} {x1 : Int32} {x2 : Int32} {x3 : Int32} : ent (mL 110) [aR r0, aI x1, aI x2, aI x3] = [aR r0, aI x1, aI x2, aI x3, aU, aU, aU, aU, aU] := rfl
theorem en111 {r0 : Option Nat} {x1 : Int32} {x2 : Int32} {x3 : Int32} : ent (mL 111) [aR r0, aI x1, aI x2, aI x3] = [aR r0, aI x1, aI x2, aI x3] := rfl
theorem en112 {x0 : Int32} {x1 : Int32} : ent (mL 112) [aI x0, aI x1] = [aI x0, aI x1] := rfl
theorem en113 {r0 : Option Nat} {x1 : Int32} : ent (mL 113) [aR r0, aI x1] = [aR r0, aI x1] := rfl
theorem en114 {r0 : Option Nat} {x1 : Int32} {x2 : Int32} : ent (mL 114) [aR r0, aI x1, aI x2] = [aR r0, aI x1, aI x2] := rfl
theorem en115 {r0 : Option Nat} {x1 : Int32} {x2 : Int32} : ent (mL 115) [aR r0, aI x1, aI x2] = [aR r0, aI x1, aI x2] := rfl
theorem en116 {r0 : Option Nat} {x1 : Int32} : ent (mL 116) [aR r0, aI x1] = [aR r0, aI x1] := rfl
theorem en117 {r0 : Option Nat} {x1 : Int32} : ent (mL 117) [aR r0, aI x1] = [aR r0, aI x1] := rfl
theorem en118 {r0 : Option Nat} : ent (mL 118) [aR r0] = [aR r0] := rfl
theorem en119 {x0 : Int32} : ent (mL 119) [aI x0] = [aI x0] := rfl
theorem en120 {r0 : Option Nat} {x1 : Int32} : ent (mL 120) [aR r0, aI x1] = [aR r0, aI x1, aU] := rfl
theorem en121 {r0 : Option Nat} {x1 : Int32} {x2 : Int32} {x3 : Int32} {x4 : Int32} {x5 : Int32} : ent (mL 121) [aR r0, aI x1, aI x2, aI x3, aI x4, aI x5] = [aR r0, aI x1, aI x2, aI x3, aI x4, aI x5] := rfl
theorem en122 {r0 : Option Nat} {x1 : Int32} : ent (mL 122) [aR r0, aI x1] = [aR r0, aI x1] := rfl
theorem en123 {r0 : Option Nat} : ent (mL 123) [aR r0] = [aR r0] := rfl
theorem en124 {r0 : Option Nat} : ent (mL 124) [aR r0] = [aR r0, aU] := rfl
theorem en125 {r0 : Option Nat} {x1 : Int32} : ent (mL 125) [aR r0, aI x1] = [aR r0, aI x1] := rfl
theorem en126 {r0 : Option Nat} {x1 : Int32} : ent (mL 126) [aR r0, aI x1] = [aR r0, aI x1] := rfl
theorem en127 {r0 : Option Nat} {x1 : Int32} : ent (mL 127) [aR r0, aI x1] = [aR r0, aI x1] := rfl
theorem en128 {r0 : Option Nat} {r1 : Option Nat} : ent (mL 128) [aR r0, aR r1] = [aR r0, aR r1, aU, aU, aU, aU, aU] := rfl
theorem en129 {r0 : Option Nat} {r1 : Option Nat} : ent (mL 129) [aR r0, aR r1] = [aR r0, aR r1] := rfl
theorem en130 {r0 : Option Nat} {x1 : Int32} : ent (mL 130) [aR r0, aI x1] = [aR r0, aI x1] := rfl
theorem en131 {r0 : Option Nat} : ent (mL 131) [aR r0] = [aR r0] := rfl
theorem en132 {r0 : Option Nat} : ent (mL 132) [aR r0] = [aR r0] := rfl
theorem en133 {r0 : Option Nat} : ent (mL 133) [aR r0] = [aR r0, aU, aU, aU] := rfl
theorem en134 {r0 : Option Nat} {x1 : Int32} {y2 : Int64} : ent (mL 134) [aR r0, aI x1, aL y2] = [aR r0, aI x1, aL y2, aU, aU] := rfl
theorem en135 {r0 : Option Nat} {r1 : Option Nat} {x2 : Int32} : ent (mL 135) [aR r0, aR r1, aI x2] = [aR r0, aR r1, aI x2] := rfl
theorem en136 {r0 : Option Nat} : ent (mL 136) [aR r0] = [aR r0, aU, aU] := rfl
theorem en137 {r0 : Option Nat} {x1 : Int32} {x2 : Int32} : ent (mL 137) [aR r0, aI x1, aI x2] = [aR r0, aI x1, aI x2, aU] := rfl
theorem en138 {r0 : Option Nat} {x1 : Int32} : ent (mL 138) [aR r0, aI x1] = [aR r0, aI x1] := rfl
theorem en139 {r0 : Option Nat} {x1 : Int32} : ent (mL 139) [aR r0, aI x1] = [aR r0, aI x1] := rfl
theorem en140 {r0 : Option Nat} {r1 : Option Nat} : ent (mL 140) [aR r0, aR r1] = [aR r0, aR r1, aU] := rfl
theorem en141 {r0 : Option Nat} {r1 : Option Nat} : ent (mL 141) [aR r0, aR r1] = [aR r0, aR r1] := rfl
theorem en142 {r0 : Option Nat} {r1 : Option Nat} : ent (mL 142) [aR r0, aR r1] = [aR r0, aR r1] := rfl
theorem en143 {r0 : Option Nat} {x1 : Int32} : ent (mL 143) [aR r0, aI x1] = [aR r0, aI x1] := rfl
theorem en144 {r0 : Option Nat} {r1 : Option Nat} {x2 : Int32} : ent (mL 144) [aR r0, aR r1, aI x2] = [aR r0, aR r1, aI x2, aU] := rfl
theorem en145 {r0 : Option Nat} {r1 : Option Nat} {x2 : Int32} : ent (mL 145) [aR r0, aR r1, aI x2] = [aR r0, aR r1, aI x2, aU, aU] := rfl
theorem en146 {r0 : Option Nat} {r1 : Option Nat} {x2 : Int32} : ent (mL 146) [aR r0, aR r1, aI x2] = [aR r0, aR r1, aI x2, aU, aU] := rfl
theorem en147 {r0 : Option Nat} {r1 : Option Nat} {x2 : Int32} : ent (mL 147) [aR r0, aR r1, aI x2] = [aR r0, aR r1, aI x2, aU] := rfl
theorem en148 {r0 : Option Nat} {r1 : Option Nat} {x2 : Int32} : ent (mL 148) [aR r0, aR r1, aI x2] = [aR r0, aR r1, aI x2, aU, aU] := rfl
theorem en149 {r0 : Option Nat} {r1 : Option Nat} {x2 : Int32} : ent (mL 149) [aR r0, aR r1, aI x2] = [aR r0, aR r1, aI x2, aU] := rfl
theorem en150 {r0 : Option Nat} {r1 : Option Nat} {x2 : Int32} : ent (mL 150) [aR r0, aR r1, aI x2] = [aR r0, aR r1, aI x2, aU] := rfl
theorem en151 {r0 : Option Nat} {r1 : Option Nat} : ent (mL 151) [aR r0, aR r1] = [aR r0, aR r1, aU] := rfl
theorem en152 {r0 : Option Nat} {x1 : Int32} : ent (mL 152) [aR r0, aI x1] = [aR r0, aI x1] := rfl
theorem en153 {r0 : Option Nat} {x1 : Int32} : ent (mL 153) [aR r0, aI x1] = [aR r0, aI x1] := rfl
theorem en154 {r0 : Option Nat} {y1 : Int64} : ent (mL 154) [aR r0, aL y1] = [aR r0, aL y1, aU] := rfl
theorem en155 {r0 : Option Nat} {r1 : Option Nat} : ent (mL 155) [aR r0, aR r1] = [aR r0, aR r1, aU, aU, aU] := rfl
theorem en156 {r0 : Option Nat} {r1 : Option Nat} : ent (mL 156) [aR r0, aR r1] = [aR r0, aR r1, aU] := rfl
theorem en157 {r0 : Option Nat} {r1 : Option Nat} : ent (mL 157) [aR r0, aR r1] = [aR r0, aR r1, aU] := rfl
theorem en158 {r0 : Option Nat} {r1 : Option Nat} : ent (mL 158) [aR r0, aR r1] = [aR r0, aR r1, aU] := rfl
theorem en159 {r0 : Option Nat} {x1 : Int32} : ent (mL 159) [aR r0, aI x1] = [aR r0, aI x1, aU] := rfl
theorem en160 {r0 : Option Nat} : ent (mL 160) [aR r0] = [aR r0] := rfl
theorem en161 {r0 : Option Nat} {x1 : Int32} : ent (mL 161) [aR r0, aI x1] = [aR r0, aI x1] := rfl
theorem en162 {r0 : Option Nat} {r1 : Option Nat} {x2 : Int32} {x3 : Int32} : ent (mL 162) [aR r0, aR r1, aI x2, aI x3] = [aR r0, aR r1, aI x2, aI x3] := rfl
theorem en163 {r0 : Option Nat} {x1 : Int32} {x2 : Int32} {x3 : Int32} : ent (mL 163) [aR r0, aI x1, aI x2, aI x3] = [aR r0, aI x1, aI x2, aI x3] := rfl
theorem en164 {r0 : Option Nat} {x1 : Int32} {x2 : Int32} {x3 : Int32} {x4 : Int32} : ent (mL 164) [aR r0, aI x1, aI x2, aI x3, aI x4] = [aR r0, aI x1, aI x2, aI x3, aI x4] := rfl
theorem en165 {r0 : Option Nat} {x1 : Int32} {x2 : Int32} {x3 : Int32} {x4 : Int32} : ent (mL 165) [aR r0, aI x1, aI x2, aI x3, aI x4] = [aR r0, aI x1, aI x2, aI x3, aI x4, aU] := rfl
theorem en166 {r0 : Option Nat} {x1 : Int32} {x2 : Int32} {x3 : Int32} {x4 : Int32} {x5 : Int32} : ent (mL 166) [aR r0, aI x1, aI x2, aI x3, aI x4, aI x5] = [aR r0, aI x1, aI x2, aI x3, aI x4, aI x5] := rfl
theorem en167 {r0 : Option Nat} {x1 : Int32} : ent (mL 167) [aR r0, aI x1] = [aR r0, aI x1] := rfl
theorem en168 {r0 : Option Nat} {x1 : Int32} : ent (mL 168) [aR r0, aI x1] = [aR r0, aI x1] := rfl
theorem en169 {r0 : Option Nat} : ent (mL 169) [aR r0] = [aR r0] := rfl
theorem en170 {r0 : Option Nat} : ent (mL 170) [aR r0] = [aR r0] := rfl
theorem en171 {r0 : Option Nat} {r1 : Option Nat} : ent (mL 171) [aR r0, aR r1] = [aR r0, aR r1] := rfl
theorem en172 {r0 : Option Nat} {x1 : Int32} : ent (mL 172) [aR r0, aI x1] = [aR r0, aI x1, aU] := rfl
theorem en173 {r0 : Option Nat} {y1 : Int64} : ent (mL 173) [aR r0, aL y1] = [aR r0, aL y1, aU] := rfl
theorem en174 {x0 : Int32} {x1 : Int32} {x2 : Int32} : ent (mL 174) [aI x0, aI x1, aI x2] = [aI x0, aI x1, aI x2] := rfl
theorem en175 {r0 : Option Nat} {x1 : Int32} : ent (mL 175) [aR r0, aI x1] = [aR r0, aI x1, aU, aU, aU] := rfl
theorem en176 {r0 : Option Nat} {x1 : Int32} {x2 : Int32} : ent (mL 176) [aR r0, aI x1, aI x2] = [aR r0, aI x1, aI x2, aU, aU] := rfl
theorem en177 {r0 : Option Nat} : ent (mL 177) [aR r0] = [aR r0, aU, aU] := rfl
theorem en178 {r0 : Option Nat} {x1 : Int32} : ent (mL 178) [aR r0, aI x1] = [aR r0, aI x1, aU] := rfl
theorem en179 {r0 : Option Nat} : ent (mL 179) [aR r0] = [aR r0, aU, aU, aU] := rfl
theorem en180 {r0 : Option Nat} : ent (mL 180) [aR r0] = [aR r0] := rfl
theorem en181 {r0 : Option Nat} : ent (mL 181) [aR r0] = [aR r0, aU, aU] := rfl
theorem en182 {r0 : Option Nat} {r1 : Option Nat} {r2 : Option Nat} {r3 : Option Nat} : ent (mL 182) [aR r0, aR r1, aR r2, aR r3] = [aR r0, aR r1, aR r2, aR r3, aU] := rfl
theorem en183 {r0 : Option Nat} {x1 : Int32} {r2 : Option Nat} {x3 : Int32} : ent (mL 183) [aR r0, aI x1, aR r2, aI x3] = [aR r0, aI x1, aR r2, aI x3] := rfl
theorem en184 {r0 : Option Nat} {x1 : Int32} {x2 : Int32} : ent (mL 184) [aR r0, aI x1, aI x2] = [aR r0, aI x1, aI x2, aU] := rfl
theorem en185 {r0 : Option Nat} {x1 : Int32} : ent (mL 185) [aR r0, aI x1] = [aR r0, aI x1] := rfl
theorem en186 {r0 : Option Nat} {x1 : Int32} {x2 : Int32} : ent (mL 186) [aR r0, aI x1, aI x2] = [aR r0, aI x1, aI x2, aU] := rfl
theorem en187 {r0 : Option Nat} {x1 : Int32} {x2 : Int32} {x3 : Int32} : ent (mL 187) [aR r0, aI x1, aI x2, aI x3] = [aR r0, aI x1, aI x2, aI x3, aU] := rfl
theorem en188 {r0 : Option Nat} {x1 : Int32} {x2 : Int32} {x3 : Int32} : ent (mL 188) [aR r0, aI x1, aI x2, aI x3] = [aR r0, aI x1, aI x2, aI x3, aU] := rfl
theorem en189 {r0 : Option Nat} {x1 : Int32} {x2 : Int32} : ent (mL 189) [aR r0, aI x1, aI x2] = [aR r0, aI x1, aI x2, aU] := rfl
theorem en190 {r0 : Option Nat} {x1 : Int32} {x2 : Int32} : ent (mL 190) [aR r0, aI x1, aI x2] = [aR r0, aI x1, aI x2] := rfl
theorem en191 {r0 : Option Nat} {x1 : Int32} {x2 : Int32} : ent (mL 191) [aR r0, aI x1, aI x2] = [aR r0, aI x1, aI x2, aU, aU, aU] := rfl
theorem en192 {r0 : Option Nat} {x1 : Int32} {x2 : Int32} {x3 : Int32} : ent (mL 192) [aR r0, aI x1, aI x2, aI x3] = [aR r0, aI x1, aI x2, aI x3, aU, aU, aU, aU, aU, aU] := rfl
theorem en193 {r0 : Option Nat} {x1 : Int32} {x2 : Int32} : ent (mL 193) [aR r0, aI x1, aI x2] = [aR r0, aI x1, aI x2, aU, aU] := rfl
theorem en194 {r0 : Option Nat} {x1 : Int32} {x2 : Int32} {x3 : Int32} : ent (mL 194) [aR r0, aI x1, aI x2, aI x3] = [aR r0, aI x1, aI x2, aI x3, aU, aU] := rfl
theorem en195 {r0 : Option Nat} {x1 : Int32} {x2 : Int32} {x3 : Int32} : ent (mL 195) [aR r0, aI x1, aI x2, aI x3] = [aR r0, aI x1, aI x2, aI x3, aU] := rfl
theorem en196 {r0 : Option Nat} {x1 : Int32} {x2 : Int32} : ent (mL 196) [aR r0, aI x1, aI x2] = [aR r0, aI x1, aI x2] := rfl
theorem en197 {r0 : Option Nat} {x1 : Int32} : ent (mL 197) [aR r0, aI x1] = [aR r0, aI x1] := rfl
theorem en198 {r0 : Option Nat} {x1 : Int32} {x2 : Int32} {x3 : Int32} {x4 : Int32} : ent (mL 198) [aR r0, aI x1, aI x2, aI x3, aI x4] = [aR r0, aI x1, aI x2, aI x3, aI x4, aU, aU] := rfl
theorem en199 {r0 : Option Nat} {x1 : Int32} {x2 : Int32} {x3 : Int32} : ent (mL 199) [aR r0, aI x1, aI x2, aI x3] = [aR r0, aI x1, aI x2, aI x3] := rfl
theorem en200 {r0 : Option Nat} : ent (mL 200) [aR r0] = [aR r0] := rfl
theorem en201 {r0 : Option Nat} {x1 : Int32} {x2 : Int32} : ent (mL 201) [aR r0, aI x1, aI x2] = [aR r0, aI x1, aI x2, aU] := rfl
theorem en202 {r0 : Option Nat} {x1 : Int32} : ent (mL 202) [aR r0, aI x1] = [aR r0, aI x1, aU] := rfl
theorem en203 {r0 : Option Nat} {r1 : Option Nat} {x2 : Int32} {x3 : Int32} {x4 : Int32} {x5 : Int32} : ent (mL 203) [aR r0, aR r1, aI x2, aI x3, aI x4, aI x5] = [aR r0, aR r1, aI x2, aI x3, aI x4, aI x5, aU, aU, aU, aU] := rfl
theorem en204 {r0 : Option Nat} : ent (mL 204) [aR r0] = [aR r0, aU, aU] := rfl
theorem en205 {r0 : Option Nat} {x1 : Int32} {x2 : Int32} : ent (mL 205) [aR r0, aI x1, aI x2] = [aR r0, aI x1, aI x2] := rfl
theorem en206 {r0 : Option Nat} {x1 : Int32} : ent (mL 206) [aR r0, aI x1] = [aR r0, aI x1, aU, aU] := rfl
theorem en207 {r0 : Option Nat} {x1 : Int32} : ent (mL 207) [aR r0, aI x1] = [aR r0, aI x1, aU] := rfl
theorem en208 {r0 : Option Nat} {x1 : Int32} {x2 : Int32} {x3 : Int32} {x4 : Int32} : ent (mL 208) [aR r0, aI x1, aI x2, aI x3, aI x4] = [aR r0, aI x1, aI x2, aI x3, aI x4, aU] := rfl
theorem en209 {r0 : Option Nat} {x1 : Int32} {x2 : Int32} {x3 : Int32} {x4 : Int32} : ent (mL 209) [aR r0, aI x1, aI x2, aI x3, aI x4] = [aR r0, aI x1, aI x2, aI x3, aI x4] := rfl
theorem en210 {r0 : Option Nat} : ent (mL 210) [aR r0] = [aR r0] := rfl
theorem en211 {r0 : Option Nat} : ent (mL 211) [aR r0] = [aR r0] := rfl
theorem en212 {r0 : Option Nat} {x1 : Int32} : ent (mL 212) [aR r0, aI x1] = [aR r0, aI x1, aU] := rfl
theorem en213 {r0 : Option Nat} {x1 : Int32} : ent (mL 213) [aR r0, aI x1] = [aR r0, aI x1] := rfl
theorem en214 {r0 : Option Nat} {y1 : Int64} : ent (mL 214) [aR r0, aL y1] = [aR r0, aL y1, aU, aU, aU, aU, aU, aU] := rfl
theorem en215 {r0 : Option Nat} {x1 : Int32} : ent (mL 215) [aR r0, aI x1] = [aR r0, aI x1, aU, aU] := rfl
theorem en216 {r0 : Option Nat} {x1 : Int32} {x2 : Int32} : ent (mL 216) [aR r0, aI x1, aI x2] = [aR r0, aI x1, aI x2, aU, aU, aU, aU, aU] := rfl
theorem en217 {r0 : Option Nat} {y1 : Int64} {x2 : Int32} {r3 : Option Nat} : ent (mL 217) [aR r0, aL y1, aI x2, aR r3] = [aR r0, aL y1, aU, aI x2, aR r3, aU] := rfl
theorem en218 {r0 : Option Nat} {y1 : Int64} {x2 : Int32} : ent (mL 218) [aR r0, aL y1, aI x2] = [aR r0, aL y1, aU, aI x2] := rfl
theorem en219 {r0 : Option Nat} {x1 : Int32} : ent (mL 219) [aR r0, aI x1] = [aR r0, aI x1] := rfl
theorem en220 {r0 : Option Nat} {x1 : Int32} {x2 : Int32} {x3 : Int32} : ent (mL 220) [aR r0, aI x1, aI x2, aI x3] = [aR r0, aI x1, aI x2, aI x3, aU, aU] := rfl
theorem en221 {r0 : Option Nat} : ent (mL 221) [aR r0] = [aR r0, aU] := rfl
theorem en222 {r0 : Option Nat} {x1 : Int32} {x2 : Int32} : ent (mL 222) [aR r0, aI x1, aI x2] = [aR r0, aI x1, aI x2, aU, aU, aU] := rfl
theorem en223 {r0 : Option Nat} {r1 : Option Nat} : ent (mL 223) [aR r0, aR r1] = [aR r0, aR r1, aU, aU] := rfl
theorem en224 {r0 : Option Nat} {r1 : Option Nat} {x2 : Int32} : ent (mL 224) [aR r0, aR r1, aI x2] = [aR r0, aR r1, aI x2, aU, aU, aU] := rfl
theorem en225 {r0 : Option Nat} {x1 : Int32} : ent (mL 225) [aR r0, aI x1] = [aR r0, aI x1, aU, aU] := rfl
theorem en226 {r0 : Option Nat} {x1 : Int32} {x2 : Int32} : ent (mL 226) [aR r0, aI x1, aI x2] = [aR r0, aI x1, aI x2, aU] := rfl
theorem en227 {r0 : Option Nat} {x1 : Int32} {x2 : Int32} {x3 : Int32} : ent (mL 227) [aR r0, aI x1, aI x2, aI x3] = [aR r0, aI x1, aI x2, aI x3, aU, aU, aU, aU, aU, aU, aU] := rfl
theorem en228 {r0 : Option Nat} {x1 : Int32} : ent (mL 228) [aR r0, aI x1] = [aR r0, aI x1, aU, aU, aU] := rfl
theorem en229 {r0 : Option Nat} {x1 : Int32} {x2 : Int32} {x3 : Int32} : ent (mL 229) [aR r0, aI x1, aI x2, aI x3] = [aR r0, aI x1, aI x2, aI x3] := rfl
theorem en230 {r0 : Option Nat} {x1 : Int32} {x2 : Int32} {x3 : Int32} : ent (mL 230) [aR r0, aI x1, aI x2, aI x3] = [aR r0, aI x1, aI x2, aI x3, aU, aU, aU, aU, aU, aU, aU, aU, aU, aU] := rfl
theorem en231 {r0 : Option Nat} {x1 : Int32} {x2 : Int32} {x3 : Int32} : ent (mL 231) [aR r0, aI x1, aI x2, aI x3] = [aR r0, aI x1, aI x2, aI x3] := rfl
theorem en232 {r0 : Option Nat} {x1 : Int32} : ent (mL 232) [aR r0, aI x1] = [aR r0, aI x1] := rfl
theorem en233 {r0 : Option Nat} {x1 : Int32} {r2 : Option Nat} : ent (mL 233) [aR r0, aI x1, aR r2] = [aR r0, aI x1, aR r2, aU] := rfl
theorem en234 {r0 : Option Nat} {x1 : Int32} {x2 : Int32} {r3 : Option Nat} : ent (mL 234) [aR r0, aI x1, aI x2, aR r3] = [aR r0, aI x1, aI x2, aR r3, aU] := rfl
theorem en235 {r0 : Option Nat} {x1 : Int32} {r2 : Option Nat} : ent (mL 235) [aR r0, aI x1, aR r2] = [aR r0, aI x1, aR r2, aU] := rfl
theorem en236 {r0 : Option Nat} {x1 : Int32} {r2 : Option Nat} : ent (mL 236) [aR r0, aI x1, aR r2] = [aR r0, aI x1, aR r2, aU] := rfl
theorem en237 {r0 : Option Nat} {x1 : Int32} {r2 : Option Nat} : ent (mL 237) [aR r0, aI x1, aR r2] = [aR r0, aI x1, aR r2, aU] := rfl
theorem en238 {r0 : Option Nat} {x1 : Int32} {x2 : Int32} {x3 : Int32} {r4 : Option Nat} : ent (mL 238) [aR r0, aI x1, aI x2, aI x3, aR r4] = [aR r0, aI x1, aI x2, aI x3, aR r4, aU] := rfl
theorem en239 {r0 : Option Nat} {x1 : Int32} {x2 : Int32} {x3 : Int32} {x4 : Int32} {x5 : Int32} {r6 : Option Nat} : ent (mL 239) [aR r0, aI x1, aI x2, aI x3, aI x4, aI x5, aR r6] = [aR r0, aI x1, aI x2, aI x3, aI x4, aI x5, aR r6, aU] := rfl
theorem en240 {r0 : Option Nat} {x1 : Int32} {x2 : Int32} {r3 : Option Nat} : ent (mL 240) [aR r0, aI x1, aI x2, aR r3] = [aR r0, aI x1, aI x2, aR r3, aU] := rfl
theorem en241 {r0 : Option Nat} {x1 : Int32} {x2 : Int32} {x3 : Int32} {r4 : Option Nat} : ent (mL 241) [aR r0, aI x1, aI x2, aI x3, aR r4] = [aR r0, aI x1, aI x2, aI x3, aR r4, aU] := rfl
theorem en242 {r0 : Option Nat} {x1 : Int32} {x2 : Int32} {x3 : Int32} {r4 : Option Nat} : ent (mL 242) [aR r0, aI x1, aI x2, aI x3, aR r4] = [aR r0, aI x1, aI x2, aI x3, aR r4, aU] := rfl
theorem en243 {r0 : Option Nat} {x1 : Int32} {r2 : Option Nat} : ent (mL 243) [aR r0, aI x1, aR r2] = [aR r0, aI x1, aR r2, aU] := rfl
theorem en244 {r0 : Option Nat} {x1 : Int32} {x2 : Int32} {x3 : Int32} {r4 : Option Nat} : ent (mL 244) [aR r0, aI x1, aI x2, aI x3, aR r4] = [aR r0, aI x1, aI x2, aI x3, aR r4, aU] := rfl
theorem en245 {r0 : Option Nat} {x1 : Int32} {x2 : Int32} {x3 : Int32} {x4 : Int32} {r5 : Option Nat} : ent (mL 245) [aR r0, aI x1, aI x2, aI x3, aI x4, aR r5] = [aR r0, aI x1, aI x2, aI x3, aI x4, aR r5, aU] := rfl
theorem en246 {r0 : Option Nat} {x1 : Int32} {x2 : Int32} {x3 : Int32} {x4 : Int32} {r5 : Option Nat} : ent (mL 246) [aR r0, aI x1, aI x2, aI x3, aI x4, aR r5] = [aR r0, aI x1, aI x2, aI x3, aI x4, aR r5, aU] := rfl
theorem en247 {r0 : Option Nat} {x1 : Int32} {r2 : Option Nat} : ent (mL 247) [aR r0, aI x1, aR r2] = [aR r0, aI x1, aR r2, aU] := rfl
theorem en248 {r0 : Option Nat} {y1 : Int64} {x2 : Int32} {r3 : Option Nat} : ent (mL 248) [aR r0, aL y1, aI x2, aR r3] = [aR r0, aL y1, aU, aI x2, aR r3, aU] := rfl
theorem en249 {r0 : Option Nat} {x1 : Int32} {r2 : Option Nat} : ent (mL 249) [aR r0, aI x1, aR r2] = [aR r0, aI x1, aR r2, aU] := rfl
theorem en250 {r0 : Option Nat} {x1 : Int32} {x2 : Int32} {x3 : Int32} {r4 : Option Nat} : ent (mL 250) [aR r0, aI x1, aI x2, aI x3, aR r4] = [aR r0, aI x1, aI x2, aI x3, aR r4, aU] := rfl
theorem en251 {r0 : Option Nat} {x1 : Int32} {x2 : Int32} {x3 : Int32} {r4 : Option Nat} : ent (mL 251) [aR r0, aI x1, aI x2, aI x3, aR r4] = [aR r0, aI x1, aI x2, aI x3, aR r4, aU] := rfl
theorem en252 {r0 : Option Nat} {x1 : Int32} {x2 : Int32} {x3 : Int32} {r4 : Option Nat} : ent (mL 252) [aR r0, aI x1, aI x2, aI x3, aR r4] = [aR r0, aI x1, aI x2, aI x3, aR r4, aU] := rfl
theorem en253 {r0 : Option Nat} {x1 : Int32} {r2 : Option Nat} : ent (mL 253) [aR r0, aI x1, aR r2] = [aR r0, aI x1, aR r2, aU] := rfl
theorem en254 {r0 : Option Nat} {r1 : Option Nat} : ent (mL 254) [aR r0, aR r1] = [aR r0, aR r1, aU, aU, aU, aU, aU, aU] := rfl

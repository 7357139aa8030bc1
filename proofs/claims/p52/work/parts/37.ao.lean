/-! CONTRACTS, 15 -/
/-- X11_trace -/
def hb_K169_550 : sy_Co := (169, ([sy_full], 0, [], []), [.inr (.inl 64), .inl (0, [(0, 1)])], [], 1, [(([sy_full, sy_full], 0, [], []), some (.inl (0, [(1, 1)])))])
set_option maxRecDepth 100000 in
theorem hb_K169_550_ok : sy_Met hb_cl hb_lt hb_P hb_A (0, 0) hb_K169_550 := sy_met2 264 (Cs := []) (cuts := [(0, hb_K169_550.2.1, sy_args 0 hb_K169_550.2.2.1, (1, []))]) (m0 := (1, [])) (by intro C h; cases h) rfl rfl (by decide +kernel)
/-- X1_allPersons -/
def hb_K19_551 : sy_Co := (19, ([], 0, [], []), [.inr (.inl 79)], [], 0, [(([sy_full], 0, [], []), some (.inl (0, [(0, 1)])))])
set_option maxRecDepth 100000 in
theorem hb_K19_551_ok : sy_Met hb_cl hb_lt hb_P hb_A (0, 0) hb_K19_551 := sy_met2 238 (Cs := []) (cuts := [(0, hb_K19_551.2.1, sy_args 0 hb_K19_551.2.2.1, (12, [])), (4, ([sy_full, (0, 10)], 0, [], []), [(0, .inr (.inl 79)), (1, .inl (0, [(0, 1)])), (2, .inl (0, [(1, 1)]))], (11, [(1, (-1))]))]) (m0 := (12, [])) (by intro C h; cases h) rfl rfl (by decide +kernel)
/-- X11_many -/
def hb_K170_552 : sy_Co := (170, ([sy_full], 0, [], []), [.inr (.inl 64), .inl (0, [(0, 1)])], [], 1, [(([sy_full, sy_full], 0, [], []), some (.inl (0, [(1, 1)])))])
set_option maxRecDepth 100000 in
theorem hb_K170_552_ok : sy_Met hb_cl hb_lt hb_P hb_A (0, 0) hb_K170_552 := sy_met2 304 (Cs := [hb_K19_551]) (cuts := [(0, hb_K170_552.2.1, sy_args 0 hb_K170_552.2.2.1, (1, []))]) (m0 := (1, [])) (by
  intro C h
  simp only [List.mem_cons, List.not_mem_nil, or_false] at h
  rcases h with rfl
  · exact hb_K19_551_ok) rfl rfl (by decide +kernel)
/-- X3_weigh -/
def hb_K40_553 : sy_Co := (40, ([], 0, [], []), [.inr (.inl 123)], [(59, 8, 10)], 0, [(([], 0, [], []), none)])
set_option maxRecDepth 100000 in
theorem hb_K40_553_ok : sy_Met hb_cl hb_lt hb_P hb_A (0, 0) hb_K40_553 := sy_met2 282 (Cs := []) (cuts := [(0, hb_K40_553.2.1, sy_args 0 hb_K40_553.2.2.1, (10, [])), (9, ([sy_full, (0, 8)], 0, [], []), [(0, .inr (.inl 123)), (1, .inl (0, [(0, 1)])), (2, .inl (0, [(1, 1)]))], (9, [(1, (-1))]))]) (m0 := (10, [])) (by intro C h; cases h) rfl rfl (by decide +kernel)
/-- X11_keep -/
def hb_K171_554 : sy_Co := (171, ([], 0, [], []), [.inr (.inl 64)], [(0, 14, 15), (59, 0, 2), (59, 8, 10), (60, 0, 8), (61, 0, 8), (62, 0, 8), (63, 0, 8), (64, 0, 7), (65, 0, 7), (68, 0, 1), (68, 3, 4), (69, 0, 16), (70, 0, 16), (71, 0, 16), (72, 0, 16), (73, 0, 1), (73, 5, 6), (73, 10, 11), (74, 0, 12), (75, 0, 12), (76, 0, 12), (77, 0, 12), (78, 0, 10), (79, 0, 10), (80, 0, 10), (81, 0, 10), (82, 0, 8), (83, 0, 8), (84, 0, 8), (85, 0, 8), (87, 0, 2), (87, 7, 8), (87, 9, 10), (88, 0, 6), (89, 0, 6), (90, 0, 6), (91, 0, 6), (92, 0, 6), (93, 0, 10), (94, 0, 8), (95, 0, 8), (96, 0, 8), (97, 1, 2), (98, 0, 3), (99, 0, 12), (100, 0, 12), (101, 0, 12), (102, 0, 1), (103, 0, 7), (104, 0, 7), (105, 0, 56), (106, 0, 56), (107, 0, 56), (108, 0, 448), (109, 0, 7), (110, 0, 1), (112, 0, 7), (113, 0, 7)], 3, [(([], 0, [], []), some (.inl (1, [])))])
set_option maxRecDepth 100000 in
theorem hb_K171_554_ok : sy_Met hb_cl hb_lt hb_P hb_A (0, 0) hb_K171_554 := sy_met2 1814 (Cs := [hb_K40_553]) (cuts := [(0, hb_K171_554.2.1, sy_args 0 hb_K171_554.2.2.1, (1, []))]) (m0 := (1, [])) (by
  intro C h
  simp only [List.mem_cons, List.not_mem_nil, or_false] at h
  rcases h with rfl
  · exact hb_K40_553_ok) rfl rfl (by decide +kernel)
/-- X11_again -/
def hb_K172_555 : sy_Co := (172, ([], 0, [], []), [.inr (.inl 64)], [(1, 0, 2), (1, 8, 10), (2, 0, 8), (3, 0, 8), (4, 0, 8), (5, 0, 8), (6, 0, 7), (7, 0, 7), (10, 0, 1), (10, 3, 4), (11, 0, 16), (12, 0, 16), (13, 0, 16), (14, 0, 16), (15, 0, 1), (15, 5, 6), (15, 10, 11), (16, 0, 12), (17, 0, 12), (18, 0, 12), (19, 0, 12), (20, 0, 10), (21, 0, 10), (22, 0, 10), (23, 0, 10), (24, 0, 8), (25, 0, 8), (26, 0, 8), (27, 0, 8), (29, 0, 2), (29, 7, 8), (29, 9, 10), (30, 0, 6), (31, 0, 6), (32, 0, 6), (33, 0, 6), (34, 0, 6), (35, 0, 10), (36, 0, 8), (37, 0, 8), (38, 0, 8), (39, 1, 2), (40, 0, 3), (41, 0, 12), (42, 0, 12), (43, 0, 12), (44, 0, 1), (45, 0, 7), (46, 0, 7), (47, 0, 56), (48, 0, 56), (49, 0, 56), (50, 0, 448), (51, 0, 7), (52, 0, 1), (54, 0, 7), (55, 0, 7)], 3, [(([((-3), 1)], 0, [], []), some (.inl (0, [(0, 1)])))])
set_option maxRecDepth 100000 in
theorem hb_K172_555_ok : sy_Met hb_cl hb_lt hb_P hb_A (0, 0) hb_K172_555 := sy_met2 1816 (Cs := [hb_K40_2]) (cuts := [(0, hb_K172_555.2.1, sy_args 0 hb_K172_555.2.2.1, (1, []))]) (m0 := (1, [])) (by
  intro C h
  simp only [List.mem_cons, List.not_mem_nil, or_false] at h
  rcases h with rfl
  · exact hb_K40_2_ok) rfl rfl (by decide +kernel)
/-- X12_layOut -/
def hb_K186_556 : sy_Co := (186, ([], 0, [], []), [.inr (.inl 215)], [(155, 0, 8), (156, 0, 8), (157, 0, 8)], 0, [(([], 0, [], []), none)])
set_option maxRecDepth 100000 in
theorem hb_K186_556_ok : sy_Met hb_cl hb_lt hb_P hb_A (0, 0) hb_K186_556 := sy_met2 274 (Cs := []) (cuts := [(0, hb_K186_556.2.1, sy_args 0 hb_K186_556.2.2.1, (10, [])), (2, ([(0, 8)], 0, [], []), [(0, .inr (.inl 215)), (1, .inl (0, [(0, 1)]))], (9, [(0, (-1))]))]) (m0 := (10, [])) (by intro C h; cases h) rfl rfl (by decide +kernel)
/-- X12_findTrim -/
def hb_K187_557 : sy_Co := (187, ([], 0, [], []), [.inr (.inl 215)], [(151, 9, 11)], 0, [(([], 0, [], []), none)])
set_option maxRecDepth 100000 in
theorem hb_K187_557_ok : sy_Met hb_cl hb_lt hb_P hb_A (0, 0) hb_K187_557 := sy_met2 290 (Cs := []) (cuts := [(0, hb_K187_557.2.1, sy_args 0 hb_K187_557.2.2.1, (10, [])), (6, ([sy_full, sy_full, (0, 8)], 0, [], []), [(0, .inr (.inl 215)), (1, .inl (0, [(0, 1)])), (2, .inl (0, [(1, 1)])), (3, .inl (0, [(2, 1)]))], (9, [(2, (-1))]))]) (m0 := (10, [])) (by intro C h; cases h) rfl rfl (by decide +kernel)

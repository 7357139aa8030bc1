noncomputable section
/-! CONTRACTS, 37, 3 -/
/-- X8_load -/
def hb_K98_82 : sy_Co := (98, ([], 0, [], []), [.inr (.inl 190), .inr (.inl 79)], [(28, 0, 8), (126, 5, 7), (128, 0, 10), (130, 0, 10), (131, 0, 8), (132, 0, 8), (133, 0, 80), (134, 0, 256)], 3, [(([], 0, [], []), none)])
set_option maxRecDepth 100000 in
theorem hb_K98_82_ok : sy_Met hb_cl hb_lt hb_P hb_A (0, 0) hb_K98_82 := ty_met2 566 hb_Gok hb_Hok hb_An_ok hb_hcl (Cs := [hb_K99_81, hb_K20_78]) (cuts := [(0, hb_K98_82.2.1, sy_args 0 hb_K98_82.2.2.1, (1281, [])), (51, ([(0, 10)], 0, [], []), [(0, .inr (.inl 190)), (1, .inr (.inl 79)), (2, .inl (0, [(0, 1)]))], (1280, [(0, (-10))])), (66, ([(0, 9), (0, 8), (1, 10)], 0, [], [(126, (5, []), .inl (0, [(2, 1)]))]), [(0, .inr (.inl 190)), (1, .inr (.inl 79)), (2, .inl (0, [(0, 1)])), (3, .inl (0, [(1, 1)]))], (1279, [(0, (-10)), (1, (-1))])), (147, ([(0, 8)], 0, [], []), [(0, .inr (.inl 190)), (1, .inr (.inl 79)), (2, .inl (0, [(0, 1)]))], (1170, [(0, (-130))])), (157, ([(0, 7), (0, 128), (1, 8)], 0, [], [(126, (6, []), .inl (0, [(2, 1)]))]), [(0, .inr (.inl 190)), (1, .inr (.inl 79)), (2, .inl (0, [(0, 1)])), (3, .inl (0, [(1, 1)]))], (1169, [(0, (-130)), (1, (-1))]))]) (m0 := (1281, [])) (by
  intro C h
  simp only [List.mem_cons, List.not_mem_nil, or_false] at h
  rcases h with rfl | rfl
  · exact hb_K99_81_ok
  · exact hb_K20_78_ok) rfl rfl (by decide +kernel)
/-- X11_can -/
def hb_K134_83 : sy_Co := (134, ([sy_full], 0, [], []), [.inr (.inl 64), .inl (0, [(0, 1)])], [(28, 0, 8), (126, 5, 7), (128, 0, 10), (130, 0, 10), (131, 0, 8), (132, 0, 8), (133, 0, 80), (134, 0, 256)], 4, [(([sy_full, sy_full], 0, [], []), some (.inl (0, [(1, 1)])))])
set_option maxRecDepth 100000 in
theorem hb_K134_83_ok : sy_Met hb_cl hb_lt hb_P hb_A (0, 0) hb_K134_83 := ty_met2 272 hb_Gok hb_Hok hb_An_ok hb_hcl (Cs := [hb_K98_82]) (cuts := [(0, hb_K134_83.2.1, sy_args 0 hb_K134_83.2.2.1, (1, []))]) (m0 := (1, [])) (by
  intro C h
  simp only [List.mem_cons, List.not_mem_nil, or_false] at h
  rcases h with rfl
  · exact hb_K98_82_ok) rfl rfl (by decide +kernel)
/-- X8_mostSeated -/
def hb_K100_84 : sy_Co := (100, ([], 0, [], []), [.inr (.inl 190)], [(135, 0, 256)], 1, [(([sy_full], 0, [], []), some (.inl (0, [(0, 1)])))])
set_option maxRecDepth 100000 in
theorem hb_K100_84_ok : sy_Met hb_cl hb_lt hb_P hb_A (0, 0) hb_K100_84 := ty_met2 330 hb_Gok hb_Hok hb_An_ok hb_hcl (Cs := []) (cuts := [(0, hb_K100_84.2.1, sy_args 0 hb_K100_84.2.2.1, (3085, [])), (16, ([sy_full, (0, 256)], 0, [], []), [(0, .inr (.inl 190)), (1, .inl (0, [(0, 1)])), (2, .inl (0, [(1, 1)]))], (3084, [(1, (-12))])), (36, ([sy_full, (0, 255), sy_full, (0, 10)], 0, [], []), [(0, .inr (.inl 190)), (1, .inl (0, [(0, 1)])), (2, .inl (0, [(1, 1)])), (3, .inl (0, [(2, 1)])), (4, .inl (0, [(3, 1)]))], (3083, [(1, (-12)), (3, (-1))]))]) (m0 := (3085, [])) (by intro C h; cases h) rfl rfl (by decide +kernel)
/-- X11_most -/
def hb_K135_85 : sy_Co := (135, ([], 0, [], []), [.inr (.inl 64)], [(28, 0, 8), (126, 5, 7), (128, 0, 10), (130, 0, 10), (131, 0, 8), (132, 0, 8), (133, 0, 80), (134, 0, 256), (135, 0, 256)], 4, [(([sy_full], 0, [], []), some (.inl (0, [(0, 1)])))])
set_option maxRecDepth 100000 in
theorem hb_K135_85_ok : sy_Met hb_cl hb_lt hb_P hb_A (0, 0) hb_K135_85 := ty_met2 216 hb_Gok hb_Hok hb_An_ok hb_hcl (Cs := [hb_K98_82, hb_K100_84]) (cuts := [(0, hb_K135_85.2.1, sy_args 0 hb_K135_85.2.2.1, (1, []))]) (m0 := (1, [])) (by
  intro C h
  simp only [List.mem_cons, List.not_mem_nil, or_false] at h
  rcases h with rfl | rfl
  · exact hb_K98_82_ok
  · exact hb_K100_84_ok) rfl rfl (by decide +kernel)
/-- X8_mostOfPair -/
def hb_K102_106 : sy_Co := (102, ([(0, 9), (0, 7), sy_full], 0, [], []), [.inr (.inl 190), .inl (0, [(0, 1)]), .inl (0, [(1, 1)]), .inl (0, [(2, 1)])], [], 1, [(([(0, 9), (0, 7), sy_full, sy_full], 0, [], []), some (.inl (0, [(3, 1)])))])
set_option maxRecDepth 100000 in
theorem hb_K102_106_ok : sy_Met hb_cl hb_lt hb_P hb_A (0, 0) hb_K102_106 := ty_met2 314 hb_Gok hb_Hok hb_An_ok hb_hcl (Cs := []) (cuts := [(0, hb_K102_106.2.1, sy_args 0 hb_K102_106.2.2.1, (258, [])), (20, ([(0, 9), (0, 7), sy_full, sy_full, (0, 256)], 0, [], []), [(0, .inr (.inl 190)), (1, .inl (0, [(0, 1)])), (2, .inl (0, [(1, 1)])), (3, .inl (0, [(2, 1)])), (4, .inl (0, [(3, 1)])), (5, .inl (0, [(4, 1)]))], (257, [(4, (-1))]))]) (m0 := (258, [])) (by intro C h; cases h) rfl rfl (by decide +kernel)
/-- X8_takePair -/
def hb_K103_107 : sy_Co := (103, ([(0, 9), (0, 7), sy_full, (0, 79)], 0, [], [(126, (0, []), .inl (0, [(3, 1)]))]), [.inr (.inl 190), .inl (0, [(0, 1)]), .inl (0, [(1, 1)]), .inl (0, [(2, 1)])], [(126, 0, 1), (127, 0, 240), (130, 0, 10), (131, 0, 8), (135, 0, 256)], 0, [(([(0, 9), (0, 7), sy_full, (0, 79), (0, 80)], 0, [(1, [(3, 1), (4, (-1))])], [(126, (0, []), .inl (0, [(4, 1)]))]), none)])
set_option maxRecDepth 100000 in
theorem hb_K103_107_ok : sy_Met hb_cl hb_lt hb_P hb_A (0, 0) hb_K103_107 := ty_met2 468 hb_Gok hb_Hok hb_An_ok hb_hcl (Cs := []) (cuts := [(0, hb_K103_107.2.1, sy_args 0 hb_K103_107.2.2.1, (258, [])), (28, ([(0, 9), (0, 7), (1, 2147483647), (0, 79), (0, 256)], 0, [], [(126, (0, []), .inl (0, [(3, 1)]))]), [(0, .inr (.inl 190)), (1, .inl (0, [(0, 1)])), (2, .inl (0, [(1, 1)])), (3, .inl (0, [(2, 1)])), (4, .inl (0, [(4, 1)]))], (257, [(4, (-1))]))]) (m0 := (258, [])) (by intro C h; cases h) rfl rfl (by decide +kernel)
/-- X8_seatAll -/
def hb_K101_108 : sy_Co := (101, ([], 0, [], []), [.inr (.inl 190)], [(126, 0, 1), (127, 0, 240), (130, 0, 10), (131, 0, 8), (135, 0, 256)], 2, [(([(0, 80)], 0, [], []), some (.inl (0, [(0, 1)])))])
set_option maxRecDepth 100000 in
theorem hb_K101_108_ok : sy_Met hb_cl hb_lt hb_P hb_A (0, 0) hb_K101_108 := ty_met2 304 hb_Gok hb_Hok hb_An_ok hb_hcl (Cs := [hb_K100_84, hb_K102_106, hb_K103_107]) (cuts := [(0, hb_K101_108.2.1, sy_args 0 hb_K101_108.2.2.1, (111, [])), (12, ([sy_full, (0, 10), (0, 80)], 0, [(0, [(1, 8), (2, (-1))])], [(126, (0, []), .inl (0, [(2, 1)]))]), [(0, .inr (.inl 190)), (1, .inl (0, [(0, 1)])), (2, .inl (0, [(1, 1)]))], (110, [(1, (-10))])), (22, ([sy_full, (0, 9), (0, 8), (0, 80), (1, 10)], 0, [(0, [(1, 8), (2, 1), (3, (-1))])], [(126, (0, []), .inl (0, [(3, 1)])), (126, (5, []), .inl (0, [(4, 1)]))]), [(0, .inr (.inl 190)), (1, .inl (0, [(0, 1)])), (2, .inl (0, [(1, 1)])), (3, .inl (0, [(2, 1)]))], (109, [(1, (-10)), (2, (-1))]))]) (m0 := (111, [])) (by
  intro C h
  simp only [List.mem_cons, List.not_mem_nil, or_false] at h
  rcases h with rfl | rfl | rfl
  · exact hb_K100_84_ok
  · exact hb_K102_106_ok
  · exact hb_K103_107_ok) rfl rfl (by decide +kernel)
/-- X11_seat -/
def hb_K136_109 : sy_Co := (136, ([], 0, [], []), [.inr (.inl 64)], [(28, 0, 8), (126, 0, 1), (126, 5, 7), (127, 0, 240), (128, 0, 10), (130, 0, 10), (131, 0, 8), (132, 0, 8), (133, 0, 80), (134, 0, 256), (135, 0, 256)], 4, [(([(0, 80)], 0, [], []), some (.inl (0, [(0, 1)])))])
set_option maxRecDepth 100000 in
theorem hb_K136_109_ok : sy_Met hb_cl hb_lt hb_P hb_A (0, 0) hb_K136_109 := ty_met2 216 hb_Gok hb_Hok hb_An_ok hb_hcl (Cs := [hb_K98_82, hb_K101_108]) (cuts := [(0, hb_K136_109.2.1, sy_args 0 hb_K136_109.2.2.1, (1, []))]) (m0 := (1, [])) (by
  intro C h
  simp only [List.mem_cons, List.not_mem_nil, or_false] at h
  rcases h with rfl | rfl
  · exact hb_K98_82_ok
  · exact hb_K101_108_ok) rfl rfl (by decide +kernel)
/-- X11_row -/
def hb_K137_110 : sy_Co := (137, ([sy_full, sy_full], 0, [], []), [.inr (.inl 64), .inl (0, [(0, 1)]), .inl (0, [(1, 1)])], [], 1, [(([sy_full, sy_full, sy_full], 0, [], []), some (.inl (0, [(2, 1)])))])
set_option maxRecDepth 100000 in
theorem hb_K137_110_ok : sy_Met hb_cl hb_lt hb_P hb_A (0, 0) hb_K137_110 := ty_met2 314 hb_Gok hb_Hok hb_An_ok hb_hcl (Cs := []) (cuts := [(0, hb_K137_110.2.1, sy_args 0 hb_K137_110.2.2.1, (1, []))]) (m0 := (1, [])) (by intro C h; cases h) rfl rfl (by decide +kernel)
/-- X11_alterRow -/
def hb_K138_111 : sy_Co := (138, ([sy_full, sy_full, sy_full], 0, [], []), [.inr (.inl 64), .inl (0, [(0, 1)]), .inl (0, [(1, 1)]), .inl (0, [(2, 1)])], [(127, 0, 240)], 1, [(([sy_full, sy_full, sy_full, sy_full], 0, [], []), some (.inl (0, [(3, 1)])))])
set_option maxRecDepth 100000 in
theorem hb_K138_111_ok : sy_Met hb_cl hb_lt hb_P hb_A (0, 0) hb_K138_111 := ty_met2 338 hb_Gok hb_Hok hb_An_ok hb_hcl (Cs := []) (cuts := [(0, hb_K138_111.2.1, sy_args 0 hb_K138_111.2.2.1, (1, []))]) (m0 := (1, [])) (by intro C h; cases h) rfl rfl (by decide +kernel)
/-- X8_readRows -/
def hb_K104_112 : sy_Co := (104, ([], 0, [], []), [.inr (.inl 190)], [(130, 0, 10), (131, 0, 8)], 2, [(([sy_full], 0, [], []), some (.inl (0, [(0, 1)])))])
set_option maxRecDepth 100000 in
theorem hb_K104_112_ok : sy_Met hb_cl hb_lt hb_P hb_A (0, 0) hb_K104_112 := ty_met2 1074 hb_Gok hb_Hok hb_An_ok hb_hcl (Cs := []) (cuts := [(0, hb_K104_112.2.1, sy_args 0 hb_K104_112.2.2.1, (82, [])), (4, ([sy_full, (0, 80)], 0, [], []), [(0, .inr (.inl 190)), (1, .inl (0, [(0, 1)])), (2, .inl (0, [(1, 1)]))], (81, [(1, (-1))]))]) (m0 := (82, [])) (by intro C h; cases h) rfl rfl (by decide +kernel)
/-- X11_judge -/
def hb_K139_113 : sy_Co := (139, ([], 0, [], []), [.inr (.inl 64)], [(28, 0, 8), (126, 5, 7), (128, 0, 10), (130, 0, 10), (131, 0, 8), (132, 0, 8), (133, 0, 80), (134, 0, 256)], 4, [(([sy_full], 0, [], []), some (.inl (0, [(0, 1)])))])
set_option maxRecDepth 100000 in
theorem hb_K139_113_ok : sy_Met hb_cl hb_lt hb_P hb_A (0, 0) hb_K139_113 := ty_met2 216 hb_Gok hb_Hok hb_An_ok hb_hcl (Cs := [hb_K98_82, hb_K104_112]) (cuts := [(0, hb_K139_113.2.1, sy_args 0 hb_K139_113.2.2.1, (1, []))]) (m0 := (1, [])) (by
  intro C h
  simp only [List.mem_cons, List.not_mem_nil, or_false] at h
  rcases h with rfl | rfl
  · exact hb_K98_82_ok
  · exact hb_K104_112_ok) rfl rfl (by decide +kernel)
/-- X11_lowestBit -/
def hb_K175_114 : sy_Co := (175, ([sy_full], 0, [], []), [.inl (0, [(0, 1)])], [], 0, [(([sy_full, (0, 31)], 0, [], []), some (.inl (0, [(1, 1)])))])
set_option maxRecDepth 100000 in
theorem hb_K175_114_ok : sy_Met hb_cl hb_lt hb_P hb_A (0, 0) hb_K175_114 := ty_met2 230 hb_Gok hb_Hok hb_An_ok hb_hcl (Cs := []) (cuts := [(0, hb_K175_114.2.1, sy_args 0 hb_K175_114.2.2.1, (33, [])), (2, ([sy_full, (0, 31)], 0, [], []), [(0, .inl (0, [(0, 1)])), (1, .inl (0, [(1, 1)]))], (32, [(1, (-1))]))]) (m0 := (33, [])) (by intro C h; cases h) rfl rfl (by decide +kernel)
/-- X8_pickNext -/
def hb_K107_115 : sy_Co := (107, ([sy_full, (0, 6)], 0, [], [(126, (14, []), .inl (0, [(1, 1)]))]), [.inr (.inl 190), .inl (5, []), .inl (0, [(0, 1)])], [(126, 3, 4), (128, 0, 10), (129, 0, 6), (135, 0, 256), (136, 0, 6)], 2, [(([sy_full, (0, 6)], 0, [], []), none)])
set_option maxRecDepth 100000 in
theorem hb_K107_115_ok : sy_Met hb_cl hb_lt hb_P hb_A (0, 0) hb_K107_115 := ty_met2 288 hb_Gok hb_Hok hb_An_ok hb_hcl (Cs := [hb_K99_81, hb_K100_84, hb_K175_114]) (cuts := [(0, hb_K107_115.2.1, sy_args 0 hb_K107_115.2.2.1, (1, []))]) (m0 := (1, [])) (by
  intro C h
  simp only [List.mem_cons, List.not_mem_nil, or_false] at h
  rcases h with rfl | rfl | rfl
  · exact hb_K99_81_ok
  · exact hb_K100_84_ok
  · exact hb_K175_114_ok) rfl rfl (by decide +kernel)
/-- X8_pickNext -/
def hb_K107_116 : sy_Co := (107, ([sy_full, (0, 6)], 0, [], [(126, (14, []), .inl (0, [(1, 1)]))]), [.inr (.inl 190), .inl (4, []), .inl (0, [(0, 1)])], [(126, 3, 4), (128, 0, 10), (129, 0, 6), (132, 0, 8), (135, 0, 256), (136, 0, 6)], 3, [(([sy_full, (0, 6)], 0, [], []), none)])
set_option maxRecDepth 100000 in
theorem hb_K107_116_ok : sy_Met hb_cl hb_lt hb_P hb_A (0, 0) hb_K107_116 := ty_met2 422 hb_Gok hb_Hok hb_An_ok hb_hcl (Cs := [hb_K99_81, hb_K100_84, hb_K175_114, hb_K107_115]) (cuts := [(0, hb_K107_116.2.1, sy_args 0 hb_K107_116.2.2.1, (10, [])), (66, ([sy_full, (6, 6), ((-2147483647), 2147483647), (0, 8)], 0, [], [(126, (14, []), .inl (6, []))]), [(0, .inr (.inl 190)), (1, .inl (4, [])), (2, .inl (0, [(0, 1)])), (3, .inl (0, [(2, 1)])), (4, .inl (0, [(3, 1)]))], (9, [(3, (-1))]))]) (m0 := (10, [])) (by
  intro C h
  simp only [List.mem_cons, List.not_mem_nil, or_false] at h
  rcases h with rfl | rfl | rfl | rfl
  · exact hb_K99_81_ok
  · exact hb_K100_84_ok
  · exact hb_K175_114_ok
  · exact hb_K107_115_ok) rfl rfl (by decide +kernel)
/-- X8_pickNext -/
def hb_K107_117 : sy_Co := (107, ([sy_full, (0, 6)], 0, [], [(126, (14, []), .inl (0, [(1, 1)]))]), [.inr (.inl 190), .inl (3, []), .inl (0, [(0, 1)])], [(126, 3, 4), (128, 0, 10), (129, 0, 6), (132, 0, 8), (135, 0, 256), (136, 0, 6)], 4, [(([sy_full, (0, 6)], 0, [], []), none)])
set_option maxRecDepth 100000 in
theorem hb_K107_117_ok : sy_Met hb_cl hb_lt hb_P hb_A (0, 0) hb_K107_117 := ty_met2 420 hb_Gok hb_Hok hb_An_ok hb_hcl (Cs := [hb_K99_81, hb_K100_84, hb_K175_114, hb_K107_116]) (cuts := [(0, hb_K107_117.2.1, sy_args 0 hb_K107_117.2.2.1, (10, [])), (66, ([sy_full, (5, 6), ((-2147483647), 2147483647), (0, 8)], 0, [], [(126, (14, []), .inl (0, [(1, 1)]))]), [(0, .inr (.inl 190)), (1, .inl (3, [])), (2, .inl (0, [(0, 1)])), (3, .inl (0, [(2, 1)])), (4, .inl (0, [(3, 1)]))], (9, [(3, (-1))]))]) (m0 := (10, [])) (by
  intro C h
  simp only [List.mem_cons, List.not_mem_nil, or_false] at h
  rcases h with rfl | rfl | rfl | rfl
  · exact hb_K99_81_ok
  · exact hb_K100_84_ok
  · exact hb_K175_114_ok
  · exact hb_K107_116_ok) rfl rfl (by decide +kernel)
/-- X8_pickNext -/
def hb_K107_118 : sy_Co := (107, ([sy_full, (0, 6)], 0, [], [(126, (14, []), .inl (0, [(1, 1)]))]), [.inr (.inl 190), .inl (2, []), .inl (0, [(0, 1)])], [(126, 3, 4), (128, 0, 10), (129, 0, 6), (132, 0, 8), (135, 0, 256), (136, 0, 6)], 5, [(([sy_full, (0, 6)], 0, [], []), none)])
set_option maxRecDepth 100000 in
theorem hb_K107_118_ok : sy_Met hb_cl hb_lt hb_P hb_A (0, 0) hb_K107_118 := ty_met2 420 hb_Gok hb_Hok hb_An_ok hb_hcl (Cs := [hb_K99_81, hb_K100_84, hb_K175_114, hb_K107_117]) (cuts := [(0, hb_K107_118.2.1, sy_args 0 hb_K107_118.2.2.1, (10, [])), (66, ([sy_full, (4, 6), ((-2147483647), 2147483647), (0, 8)], 0, [], [(126, (14, []), .inl (0, [(1, 1)]))]), [(0, .inr (.inl 190)), (1, .inl (2, [])), (2, .inl (0, [(0, 1)])), (3, .inl (0, [(2, 1)])), (4, .inl (0, [(3, 1)]))], (9, [(3, (-1))]))]) (m0 := (10, [])) (by
  intro C h
  simp only [List.mem_cons, List.not_mem_nil, or_false] at h
  rcases h with rfl | rfl | rfl | rfl
  · exact hb_K99_81_ok
  · exact hb_K100_84_ok
  · exact hb_K175_114_ok
  · exact hb_K107_117_ok) rfl rfl (by decide +kernel)
/-- X8_pickNext -/
def hb_K107_119 : sy_Co := (107, ([sy_full, (0, 6)], 0, [], [(126, (14, []), .inl (0, [(1, 1)]))]), [.inr (.inl 190), .inl (1, []), .inl (0, [(0, 1)])], [(126, 3, 4), (128, 0, 10), (129, 0, 6), (132, 0, 8), (135, 0, 256), (136, 0, 6)], 6, [(([sy_full, (0, 6)], 0, [], []), none)])
set_option maxRecDepth 100000 in
theorem hb_K107_119_ok : sy_Met hb_cl hb_lt hb_P hb_A (0, 0) hb_K107_119 := ty_met2 420 hb_Gok hb_Hok hb_An_ok hb_hcl (Cs := [hb_K99_81, hb_K100_84, hb_K175_114, hb_K107_118]) (cuts := [(0, hb_K107_119.2.1, sy_args 0 hb_K107_119.2.2.1, (10, [])), (66, ([sy_full, (3, 6), ((-2147483647), 2147483647), (0, 8)], 0, [], [(126, (14, []), .inl (0, [(1, 1)]))]), [(0, .inr (.inl 190)), (1, .inl (1, [])), (2, .inl (0, [(0, 1)])), (3, .inl (0, [(2, 1)])), (4, .inl (0, [(3, 1)]))], (9, [(3, (-1))]))]) (m0 := (10, [])) (by
  intro C h
  simp only [List.mem_cons, List.not_mem_nil, or_false] at h
  rcases h with rfl | rfl | rfl | rfl
  · exact hb_K99_81_ok
  · exact hb_K100_84_ok
  · exact hb_K175_114_ok
  · exact hb_K107_118_ok) rfl rfl (by decide +kernel)
/-- X8_pickNext -/
def hb_K107_120 : sy_Co := (107, ([sy_full, (0, 6)], 0, [], [(126, (14, []), .inl (0, [(1, 1)]))]), [.inr (.inl 190), .inl (0, []), .inl (0, [(0, 1)])], [(126, 3, 4), (128, 0, 10), (129, 0, 6), (132, 0, 8), (135, 0, 256), (136, 0, 6)], 7, [(([sy_full, (0, 6)], 0, [], []), none)])
set_option maxRecDepth 100000 in
theorem hb_K107_120_ok : sy_Met hb_cl hb_lt hb_P hb_A (0, 0) hb_K107_120 := ty_met2 418 hb_Gok hb_Hok hb_An_ok hb_hcl (Cs := [hb_K99_81, hb_K100_84, hb_K175_114, hb_K107_119]) (cuts := [(0, hb_K107_120.2.1, sy_args 0 hb_K107_120.2.2.1, (10, [])), (66, ([sy_full, (2, 6), ((-2147483647), 2147483647), (0, 8)], 0, [], [(126, (14, []), .inl (0, [(1, 1)]))]), [(0, .inr (.inl 190)), (1, .inl (0, [])), (2, .inl (0, [(0, 1)])), (3, .inl (0, [(2, 1)])), (4, .inl (0, [(3, 1)]))], (9, [(3, (-1))]))]) (m0 := (10, [])) (by
  intro C h
  simp only [List.mem_cons, List.not_mem_nil, or_false] at h
  rcases h with rfl | rfl | rfl | rfl
  · exact hb_K99_81_ok
  · exact hb_K100_84_ok
  · exact hb_K175_114_ok
  · exact hb_K107_119_ok) rfl rfl (by decide +kernel)
/-- X8_findOrder -/
def hb_K106_121 : sy_Co := (106, ([(1, 255), sy_full, (1, 30), sy_full, (0, 1431655765), (0, 858993459), sy_full, (0, 858993459), sy_full, sy_full, (0, 252645135), sy_full, sy_full, sy_full, sy_full, (0, 6)], 0, [], [(27917287425, (2147483648, [(0, 1)]), .inl (0, [(3, 1)])), (20759008597, (2147483648, [(3, 1)]), .inl (0, [(4, 1)])), (20186346291, (2147483648, [(0, 1), (4, (-1))]), .inl (0, [(5, 1)])), (27917287426, (2147483648, [(0, 1), (4, (-1))]), .inl (0, [(6, 1)])), (20186346291, (2147483648, [(6, 1)]), .inl (0, [(7, 1)])), (27917287428, (2147483648, [(5, 1), (7, 1)]), .inl (0, [(8, 1)])), (34359738368, (1099511627776, [(5, 1), (7, 1), (8, 1)]), .inl (0, [(9, 1)])), (19579997967, (2147483648, [(9, 1)]), .inl (0, [(10, 1)])), (27917287432, (2147483648, [(10, 1)]), .inl (0, [(11, 1)])), (34359738368, (1099511627776, [(10, 1), (11, 1)]), .inl (0, [(12, 1)])), (27917287440, (2147483648, [(12, 1)]), .inl (0, [(13, 1)])), (34359738368, (1099511627776, [(12, 1), (13, 1)]), .inl (0, [(14, 1)])), (19327352895, (2147483648, [(14, 1)]), .inl (0, [(15, 1)]))]), [.inr (.inl 190), .inl (0, [(0, 1)]), .inl (0, [(1, 1)]), .inl (0, [(2, 1)])], [(126, 3, 4), (126, 14, 17), (128, 0, 10), (129, 0, 6), (132, 0, 8), (135, 0, 256), (136, 0, 6)], 8, [(([(1, 255), sy_full, (1, 30), sy_full, (0, 1431655765), (0, 858993459), sy_full, (0, 858993459), sy_full, sy_full, (0, 252645135), sy_full, sy_full, sy_full, sy_full, (0, 6)], 0, [], []), none)])
set_option maxRecDepth 100000 in
theorem hb_K106_121_ok : sy_Met hb_cl hb_lt hb_P hb_A (0, 0) hb_K106_121 := ty_met2 380 hb_Gok hb_Hok hb_An_ok hb_hcl (Cs := [hb_K107_120]) (cuts := [(0, hb_K106_121.2.1, sy_args 0 hb_K106_121.2.2.1, (10, [])), (26, ([(1, 255), sy_full, (1, 30), sy_full, (0, 1431655765), (0, 858993459), sy_full, (0, 858993459), sy_full, sy_full, (0, 252645135), sy_full, sy_full, sy_full, sy_full, (0, 6), (0, 8)], 0, [], [(126, (14, []), .inl (0, [(15, 1)])), (126, (15, []), .inl (0, [(1, 1)])), (126, (16, []), .inl (0, [(2, 1)])), (126, (3, []), .inl ((-1), []))]), [(0, .inr (.inl 190)), (1, .inl (0, [(0, 1)])), (2, .inl (0, [(1, 1)])), (3, .inl (0, [(2, 1)])), (4, .inl (0, [(16, 1)]))], (9, [(16, (-1))]))]) (m0 := (10, [])) (by
  intro C h
  simp only [List.mem_cons, List.not_mem_nil, or_false] at h
  rcases h with rfl
  · exact hb_K107_120_ok) rfl rfl (by decide +kernel)
/-- X11_order -/
def hb_K140_122 : sy_Co := (140, ([sy_full, sy_full, sy_full], 0, [], []), [.inr (.inl 64), .inl (0, [(0, 1)]), .inl (0, [(1, 1)]), .inl (0, [(2, 1)])], [(28, 0, 8), (126, 3, 4), (126, 5, 7), (126, 14, 17), (128, 0, 10), (129, 0, 6), (130, 0, 10), (131, 0, 8), (132, 0, 8), (133, 0, 80), (134, 0, 256), (135, 0, 256), (136, 0, 6)], 9, [(([sy_full, sy_full, sy_full, sy_full], 0, [], []), some (.inl (0, [(3, 1)])))])
set_option maxRecDepth 100000 in
theorem hb_K140_122_ok : sy_Met hb_cl hb_lt hb_P hb_A (0, 0) hb_K140_122 := ty_met2 470 hb_Gok hb_Hok hb_An_ok hb_hcl (Cs := [hb_K98_82, hb_K106_121]) (cuts := [(0, hb_K140_122.2.1, sy_args 0 hb_K140_122.2.2.1, (1, []))]) (m0 := (1, [])) (by
  intro C h
  simp only [List.mem_cons, List.not_mem_nil, or_false] at h
  rcases h with rfl | rfl
  · exact hb_K98_82_ok
  · exact hb_K106_121_ok) rfl rfl (by decide +kernel)
/-- X11_ship -/
def hb_K141_123 : sy_Co := (141, ([sy_full, sy_full, sy_full, sy_full], 0, [], []), [.inr (.inl 64), .inl (0, [(0, 1)]), .inl (0, [(1, 1)]), .inl (0, [(2, 1)]), .inl (0, [(3, 1)])], [(29, 1, 2), (30, 0, 6), (31, 0, 6), (32, 0, 6), (33, 0, 6), (34, 0, 6)], 2, [(([sy_full, sy_full, sy_full, sy_full, ((-2), 5)], 0, [], []), some (.inl (0, [(4, 1)])))])
set_option maxRecDepth 100000 in
theorem hb_K141_123_ok : sy_Met hb_cl hb_lt hb_P hb_A (0, 0) hb_K141_123 := ty_met2 768 hb_Gok hb_Hok hb_An_ok hb_hcl (Cs := []) (cuts := [(0, hb_K141_123.2.1, sy_args 0 hb_K141_123.2.2.1, (1, []))]) (m0 := (1, [])) (by intro C h; cases h) rfl rfl (by decide +kernel)
/-- X11_ready -/
def hb_K142_124 : sy_Co := (142, ([sy_full], 0, [], []), [.inr (.inl 64), .inl (0, [(0, 1)])], [(29, 0, 1)], 1, [(([sy_full, sy_full], 0, [], []), some (.inl (0, [(1, 1)])))])
set_option maxRecDepth 100000 in
theorem hb_K142_124_ok : sy_Met hb_cl hb_lt hb_P hb_A (0, 0) hb_K142_124 := ty_met2 262 hb_Gok hb_Hok hb_An_ok hb_hcl (Cs := []) (cuts := [(0, hb_K142_124.2.1, sy_args 0 hb_K142_124.2.2.1, (1, []))]) (m0 := (1, [])) (by intro C h; cases h) rfl rfl (by decide +kernel)
/-- X11_call -/
def hb_K143_125 : sy_Co := (143, ([sy_full], 0, [], []), [.inr (.inl 64), .inl (0, [(0, 1)])], [(29, 7, 8), (35, 0, 10)], 1, [(([sy_full, ((-2), 9)], 0, [], []), some (.inl (0, [(1, 1)])))])
set_option maxRecDepth 100000 in
theorem hb_K143_125_ok : sy_Met hb_cl hb_lt hb_P hb_A (0, 0) hb_K143_125 := ty_met2 288 hb_Gok hb_Hok hb_An_ok hb_hcl (Cs := []) (cuts := [(0, hb_K143_125.2.1, sy_args 0 hb_K143_125.2.2.1, (1, []))]) (m0 := (1, [])) (by intro C h; cases h) rfl rfl (by decide +kernel)
/-- X7_hearersOf -/
def hb_K91_126 : sy_Co := (91, ([(0, 9)], 0, [], []), [.inr (.inl 93), .inl (0, [(0, 1)])], [], 2, [(([(0, 9), (0, 63)], 0, [], []), some (.inl (0, [(1, 1)])))])
set_option maxRecDepth 100000 in
theorem hb_K91_126_ok : sy_Met hb_cl hb_lt hb_P hb_A (0, 0) hb_K91_126 := ty_met2 376 hb_Gok hb_Hok hb_An_ok hb_hcl (Cs := []) (cuts := [(0, hb_K91_126.2.1, sy_args 0 hb_K91_126.2.2.1, (8, [])), (4, ([(0, 9), (0, 63), (0, 6)], 0, [], []), [(0, .inr (.inl 93)), (1, .inl (0, [(0, 1)])), (2, .inl (0, [(1, 1)])), (3, .inl (0, [(2, 1)]))], (7, [(2, (-1))]))]) (m0 := (8, [])) (by intro C h; cases h) rfl rfl (by decide +kernel)
/-- X11_hears -/
def hb_K144_127 : sy_Co := (144, ([sy_full], 0, [], []), [.inr (.inl 64), .inl (0, [(0, 1)])], [], 3, [(([sy_full, ((-1), 63)], 0, [], []), some (.inl (0, [(1, 1)])))])
set_option maxRecDepth 100000 in
theorem hb_K144_127_ok : sy_Met hb_cl hb_lt hb_P hb_A (0, 0) hb_K144_127 := ty_met2 262 hb_Gok hb_Hok hb_An_ok hb_hcl (Cs := [hb_K91_126]) (cuts := [(0, hb_K144_127.2.1, sy_args 0 hb_K144_127.2.2.1, (1, []))]) (m0 := (1, [])) (by
  intro C h
  simp only [List.mem_cons, List.not_mem_nil, or_false] at h
  rcases h with rfl
  · exact hb_K91_126_ok) rfl rfl (by decide +kernel)

end

/-! CONTRACTS, 37, 14 -/
/-- X11_trace -/
def hb_K169_550 : sy_Co := (169, ([sy_full], 0, [], []), [.inr (.inl 64), .inl (0, [(0, 1)])], [], 1, [(([sy_full, sy_full], 0, [], []), some (.inl (0, [(1, 1)])))])
set_option maxRecDepth 100000 in
theorem hb_K169_550_ok : sy_Met hb_cl hb_lt hb_P hb_A (0, 0) hb_K169_550 := sy_met2 264 (Cs := []) (cuts := [(0, hb_K169_550.2.1, sy_args 0 hb_K169_550.2.2.1, (1, []))]) (m0 := (1, [])) (by intro C h; cases h) rfl rfl (by decide +kernel)
/-- X1_allPersons -/
def hb_K19_551 : sy_Co := (19, ([], 0, [], []), [.inr (.inl 79)], [], 0, [(([sy_full], 0, [], []), some (.inl (0, [(0, 1)])))])
set_option maxRecDepth 100000 in
theorem hb_K19_551_ok : sy_Met hb_cl hb_lt hb_P hb_A (0, 0) hb_K19_551 := sy_met2 238 (Cs := []) (cuts := [(0, hb_K19_551.2.1, sy_args 0 hb_K19_551.2.2.1, (12, [])), (4, ([sy_full, (0, 10)], 0, [], []), [(0, .inr (.inl 79)), (1, .inl (0, [(0, 1)])), (2, .inl (0, [(1, 1)]))], (11, [(1, (-1))]))]) (m0 := (12, [])) (by intro C h; cases h) rfl rfl (by decide +kernel)
/-- X11_many -/
def hb_K170_552 : sy_Co := (170, ([sy_full], 0, [], []), [.inr (.inl 64), .inl (0, [(0, 1)])], [], 1, [(([sy_full, sy_full], 0, [], []), some (.inl (0, [(1, 1)])))])
set_option maxRecDepth 100000 in
theorem hb_K170_552_ok : sy_Met hb_cl hb_lt hb_P hb_A (0, 0) hb_K170_552 := sy_met2 304 (Cs := [hb_K19_551]) (cuts := [(0, hb_K170_552.2.1, sy_args 0 hb_K170_552.2.2.1, (1, []))]) (m0 := (1, [])) (by
  intro C h
  simp only [List.mem_cons, List.not_mem_nil, or_false] at h
  rcases h with rfl
  · exact hb_K19_551_ok) rfl rfl (by decide +kernel)
/-- X3_weigh -/
def hb_K40_553 : sy_Co := (40, ([], 0, [], []), [.inr (.inl 123)], [(59, 8, 10)], 0, [(([], 0, [], []), none)])
set_option maxRecDepth 100000 in
theorem hb_K40_553_ok : sy_Met hb_cl hb_lt hb_P hb_A (0, 0) hb_K40_553 := sy_met2 282 (Cs := []) (cuts := [(0, hb_K40_553.2.1, sy_args 0 hb_K40_553.2.2.1, (10, [])), (9, ([sy_full, (0, 8)], 0, [], []), [(0, .inr (.inl 123)), (1, .inl (0, [(0, 1)])), (2, .inl (0, [(1, 1)]))], (9, [(1, (-1))]))]) (m0 := (10, [])) (by intro C h; cases h) rfl rfl (by decide +kernel)
/-- X12_layOut -/
def hb_K186_556 : sy_Co := (186, ([], 0, [], []), [.inr (.inl 215)], [(155, 0, 8), (156, 0, 8), (157, 0, 8)], 0, [(([], 0, [], []), none)])
set_option maxRecDepth 100000 in
theorem hb_K186_556_ok : sy_Met hb_cl hb_lt hb_P hb_A (0, 0) hb_K186_556 := sy_met2 274 (Cs := []) (cuts := [(0, hb_K186_556.2.1, sy_args 0 hb_K186_556.2.2.1, (10, [])), (2, ([(0, 8)], 0, [], []), [(0, .inr (.inl 215)), (1, .inl (0, [(0, 1)]))], (9, [(0, (-1))]))]) (m0 := (10, [])) (by intro C h; cases h) rfl rfl (by decide +kernel)
/-- X12_findTrim -/
def hb_K187_557 : sy_Co := (187, ([], 0, [], []), [.inr (.inl 215)], [(151, 9, 11)], 0, [(([], 0, [], []), none)])
set_option maxRecDepth 100000 in
theorem hb_K187_557_ok : sy_Met hb_cl hb_lt hb_P hb_A (0, 0) hb_K187_557 := sy_met2 290 (Cs := []) (cuts := [(0, hb_K187_557.2.1, sy_args 0 hb_K187_557.2.2.1, (10, [])), (6, ([sy_full, sy_full, (0, 8)], 0, [], []), [(0, .inr (.inl 215)), (1, .inl (0, [(0, 1)])), (2, .inl (0, [(1, 1)])), (3, .inl (0, [(2, 1)]))], (9, [(2, (-1))]))]) (m0 := (10, [])) (by intro C h; cases h) rfl rfl (by decide +kernel)
/-- X12_passes -/
def hb_K190_558 : sy_Co := (190, ([], 0, [], []), [.inr (.inl 215)], [(151, 9, 11), (155, 0, 8), (158, 0, 8)], 2, [(([(0, 1)], 0, [], []), some (.inl (0, [(0, 1)])))])
set_option maxRecDepth 100000 in
theorem hb_K190_558_ok : sy_Met hb_cl hb_lt hb_P hb_A (0, 0) hb_K190_558 := sy_met2 2004 (Cs := [hb_K187_557]) (cuts := [(0, hb_K190_558.2.1, sy_args 0 hb_K190_558.2.2.1, (27, [])), (6, ([(0, 8)], 0, [], []), [(0, .inr (.inl 215)), (1, .inl (0, [(0, 1)]))], (26, [(0, (-1))])), (75, ([(0, 7)], 0, [], []), [(0, .inr (.inl 215)), (1, .inl (0, [(0, 1)]))], (17, [(0, (-1))])), (234, ([(0, 8)], 0, [], []), [(0, .inr (.inl 215)), (1, .inl (0, [(0, 1)]))], (9, [(0, (-1))]))]) (m0 := (27, [])) (by
  intro C h
  simp only [List.mem_cons, List.not_mem_nil, or_false] at h
  rcases h with rfl
  · exact hb_K187_557_ok) rfl rfl (by decide +kernel)
/-- X12_minutes -/
def hb_K191_559 : sy_Co := (191, ([sy_full], 0, [], []), [.inr (.inl 215), .inl (0, [(0, 1)])], [(151, 9, 11), (152, 0, 2), (152, 24, 32), (155, 0, 8), (156, 0, 8), (157, 0, 8), (158, 0, 8)], 3, [(([sy_full, sy_full], 0, [], []), some (.inl (0, [(1, 1)])))])
set_option maxRecDepth 100000 in
theorem hb_K191_559_ok : sy_Met hb_cl hb_lt hb_P hb_A (0, 0) hb_K191_559 := sy_met2 388 (Cs := [hb_K186_556, hb_K190_558]) (cuts := [(0, hb_K191_559.2.1, sy_args 0 hb_K191_559.2.2.1, (2011, [])), (32, ([(1, 200), (0, 200)], 0, [], []), [(0, .inr (.inl 215)), (1, .inl (0, [(0, 1)])), (2, .inl (0, [(1, 1)]))], (2010, [(1, (-10))])), (85, ([(1, 200), (0, 199), (0, 8)], 0, [], []), [(0, .inr (.inl 215)), (1, .inl (0, [(0, 1)])), (2, .inl (0, [(1, 1)])), (3, .inl (0, [(2, 1)]))], (2009, [(1, (-10)), (2, (-1))]))]) (m0 := (2011, [])) (by
  intro C h
  simp only [List.mem_cons, List.not_mem_nil, or_false] at h
  rcases h with rfl | rfl
  · exact hb_K186_556_ok
  · exact hb_K190_558_ok) rfl rfl (by decide +kernel)
/-- X12_set -/
def hb_K192_560 : sy_Co := (192, ([sy_full, sy_full, sy_full], 0, [], []), [.inr (.inl 215), .inl (0, [(0, 1)]), .inl (0, [(1, 1)]), .inl (0, [(2, 1)])], [(152, 16, 48)], 2, [(([sy_full, sy_full, sy_full, sy_full], 0, [], []), some (.inl (0, [(3, 1)])))])
set_option maxRecDepth 100000 in
theorem hb_K192_560_ok : sy_Met hb_cl hb_lt hb_P hb_A (0, 0) hb_K192_560 := sy_met2 718 (Cs := []) (cuts := [(0, hb_K192_560.2.1, sy_args 0 hb_K192_560.2.2.1, (1, []))]) (m0 := (1, [])) (by intro C h; cases h) rfl rfl (by decide +kernel)
/-- X12_wall -/
def hb_K194_561 : sy_Co := (194, ([sy_full, sy_full], 0, [], []), [.inr (.inl 215), .inl (0, [(0, 1)]), .inl (0, [(1, 1)])], [(152, 48, 55)], 2, [(([sy_full, sy_full, sy_full], 0, [], []), some (.inl (0, [(2, 1)])))])
set_option maxRecDepth 100000 in
theorem hb_K194_561_ok : sy_Met hb_cl hb_lt hb_P hb_A (0, 0) hb_K194_561 := sy_met2 328 (Cs := []) (cuts := [(0, hb_K194_561.2.1, sy_args 0 hb_K194_561.2.2.1, (1, []))]) (m0 := (1, [])) (by intro C h; cases h) rfl rfl (by decide +kernel)
/-- X12_door -/
def hb_K195_562 : sy_Co := (195, ([sy_full, (0, 1)], 0, [], []), [.inr (.inl 215), .inl (0, [(0, 1)]), .inl (0, [(1, 1)])], [(152, 56, 63)], 2, [(([sy_full, (0, 1), sy_full], 0, [], []), some (.inl (0, [(2, 1)])))])
set_option maxRecDepth 100000 in
theorem hb_K195_562_ok : sy_Met hb_cl hb_lt hb_P hb_A (0, 0) hb_K195_562 := sy_met2 296 (Cs := []) (cuts := [(0, hb_K195_562.2.1, sy_args 0 hb_K195_562.2.2.1, (1, []))]) (m0 := (1, [])) (by intro C h; cases h) rfl rfl (by decide +kernel)
/-- X12_cell -/
def hb_K196_563 : sy_Co := (196, ([sy_full, sy_full], 0, [], []), [.inr (.inl 215), .inl (0, [(0, 1)]), .inl (0, [(1, 1)])], [(151, 9, 11), (155, 0, 8), (156, 0, 8), (157, 0, 8)], 2, [(([sy_full, sy_full, ((-1), 9990)], 0, [], []), some (.inl (0, [(2, 1)])))])
set_option maxRecDepth 100000 in
theorem hb_K196_563_ok : sy_Met hb_cl hb_lt hb_P hb_A (0, 0) hb_K196_563 := sy_met2 436 (Cs := [hb_K186_556, hb_K187_557]) (cuts := [(0, hb_K196_563.2.1, sy_args 0 hb_K196_563.2.2.1, (1, []))]) (m0 := (1, [])) (by
  intro C h
  simp only [List.mem_cons, List.not_mem_nil, or_false] at h
  rcases h with rfl | rfl
  · exact hb_K186_556_ok
  · exact hb_K187_557_ok) rfl rfl (by decide +kernel)
/-- X12_sunk -/
def hb_K197_564 : sy_Co := (197, ([], 0, [], []), [.inr (.inl 215)], [], 0, [(([((-3), 2147483647)], 0, [], []), some (.inl (0, [(0, 1)])))])
set_option maxRecDepth 100000 in
theorem hb_K197_564_ok : sy_Met hb_cl hb_lt hb_P hb_A (0, 0) hb_K197_564 := sy_met2 222 (Cs := []) (cuts := [(0, hb_K197_564.2.1, sy_args 0 hb_K197_564.2.2.1, (1, []))]) (m0 := (1, [])) (by intro C h; cases h) rfl rfl (by decide +kernel)
/-- X12_sinks -/
def hb_K198_565 : sy_Co := (198, ([sy_full, sy_full], 0, [], []), [.inr (.inl 215), .inl (0, [(0, 1)]), .inl (0, [(1, 1)])], [(151, 9, 11), (155, 0, 8), (156, 0, 8), (157, 0, 8), (158, 0, 8)], 3, [(([sy_full, sy_full, ((-2147483648), 999)], 0, [], []), some (.inl (0, [(2, 1)])))])
set_option maxRecDepth 100000 in
theorem hb_K198_565_ok : sy_Met hb_cl hb_lt hb_P hb_A (0, 0) hb_K198_565 := sy_met2 450 (Cs := [hb_K186_556, hb_K190_558]) (cuts := [(0, hb_K198_565.2.1, sy_args 0 hb_K198_565.2.2.1, (4294967297, [])), (60, ([((-1), 6), (0, 100), ((-1), 6), sy_full, ((-2147483648), (-1))], 0, [], [(152, (1, []), .inl (0, [(4, 1)]))]), [(0, .inr (.inl 215)), (1, .inl (0, [(2, 1)])), (2, .inl (0, [(1, 1)])), (3, .inl (0, [(3, 1)]))], (2147483648, [(3, (-1))]))]) (m0 := (4294967297, [])) (by
  intro C h
  simp only [List.mem_cons, List.not_mem_nil, or_false] at h
  rcases h with rfl | rfl
  · exact hb_K186_556_ok
  · exact hb_K190_558_ok) rfl rfl (by decide +kernel)
/-- X12_sounding -/
def hb_K199_566 : sy_Co := (199, ([sy_full, sy_full, sy_full, sy_full], 0, [], []), [.inr (.inl 215), .inl (0, [(0, 1)]), .inl (0, [(1, 1)]), .inl (0, [(2, 1)]), .inl (0, [(3, 1)])], [(152, 2, 3), (152, 64, 128)], 2, [(([sy_full, sy_full, sy_full, sy_full, ((-2), 15)], 0, [], []), some (.inl (0, [(4, 1)])))])
set_option maxRecDepth 100000 in
theorem hb_K199_566_ok : sy_Met hb_cl hb_lt hb_P hb_A (0, 0) hb_K199_566 := sy_met2 498 (Cs := []) (cuts := [(0, hb_K199_566.2.1, sy_args 0 hb_K199_566.2.2.1, (1, []))]) (m0 := (1, [])) (by intro C h; cases h) rfl rfl (by decide +kernel)
/-- X12_ones -/
def hb_K200_567 : sy_Co := (200, ([], 0, [], []), [.inl (0, [])], [], 0, [(([], 0, [], []), some (.inl (0, [])))])
set_option maxRecDepth 100000 in
theorem hb_K200_567_ok : sy_Met hb_cl hb_lt hb_P hb_A (0, 0) hb_K200_567 := sy_met2 236 (Cs := []) (cuts := [(0, hb_K200_567.2.1, sy_args 0 hb_K200_567.2.2.1, (32, [])), (4, ([(0, 30)], 0, [], []), [(0, .inl (0, [])), (1, .inl (0, [])), (2, .inl (0, [(0, 1)]))], (31, [(0, (-1))]))]) (m0 := (32, [])) (by intro C h; cases h) rfl rfl (by decide +kernel)
/-- X12_holdsAt -/
def hb_K201_587 : sy_Co := (201, ([(0, 60)], 0, [], []), [.inr (.inl 215), .inl (0, [(0, 1)])], [], 1, [(([(0, 60), (0, 1)], 0, [], []), some (.inl (0, [(1, 1)])))])
set_option maxRecDepth 100000 in
theorem hb_K201_587_ok : sy_Met hb_cl hb_lt hb_P hb_A (0, 0) hb_K201_587 := sy_met2 368 (Cs := []) (cuts := [(0, hb_K201_587.2.1, sy_args 0 hb_K201_587.2.2.1, (18, [])), (4, ([(0, 60), (0, 1), (0, 16)], 0, [], []), [(0, .inr (.inl 215)), (1, .inl (0, [(0, 1)])), (2, .inl (0, [(1, 1)])), (3, .inl (0, [(2, 1)]))], (17, [(2, (-1))]))]) (m0 := (18, [])) (by intro C h; cases h) rfl rfl (by decide +kernel)
/-- X12_explains -/
def hb_K202_638 : sy_Co := (202, ([(0, 255), (1, 9)], 0, [], []), [.inr (.inl 215), .inl (0, [(0, 1)]), .inl (0, [(1, 1)])], [(151, 9, 11), (155, 0, 8), (156, 0, 8), (157, 0, 8), (158, 0, 8)], 3, [(([(0, 255), (1, 9), (0, 1)], 0, [], []), some (.inl (0, [(2, 1)])))])
set_option maxRecDepth 100000 in
theorem hb_K202_638_ok : sy_Met hb_cl hb_lt hb_P hb_A (0, 0) hb_K202_638 := sy_met2 390 (Cs := [hb_K201_587, hb_K190_558]) (cuts := [(0, hb_K202_638.2.1, sy_args 0 hb_K202_638.2.2.1, (71, [])), (2, ([(0, 255), (1, 9), (0, 8)], 0, [], []), [(0, .inr (.inl 215)), (1, .inl (0, [(0, 1)])), (2, .inl (0, [(1, 1)])), (3, .inl (0, [(2, 1)]))], (70, [(2, (-1))])), (68, ([(0, 255), (1, 9), (0, 1), (0, 1), (1, 61)], 0, [], []), [(0, .inr (.inl 215)), (1, .inl (0, [(0, 1)])), (2, .inl (0, [(1, 1)])), (3, .inl (0, [(2, 1)])), (4, .inl (0, [(3, 1)])), (5, .inl (0, [(4, 1)]))], (62, [(4, (-1))]))]) (m0 := (71, [])) (by
  intro C h
  simp only [List.mem_cons, List.not_mem_nil, or_false] at h
  rcases h with rfl | rfl
  · exact hb_K201_587_ok
  · exact hb_K190_558_ok) rfl rfl (by decide +kernel)
/-- X12_ones -/
def hb_K200_677 : sy_Co := (200, ([(0, 4095)], 0, [], []), [.inl (0, [(0, 1)])], [], 0, [(([(0, 4095), sy_full], 0, [], []), some (.inl (0, [(1, 1)])))])
set_option maxRecDepth 100000 in
theorem hb_K200_677_ok : sy_Met hb_cl hb_lt hb_P hb_A (0, 0) hb_K200_677 := sy_met2 238 (Cs := []) (cuts := [(0, hb_K200_677.2.1, sy_args 0 hb_K200_677.2.2.1, (32, [])), (4, ([(0, 4095), sy_full, (0, 30)], 0, [], []), [(0, .inl (0, [(0, 1)])), (1, .inl (0, [(1, 1)])), (2, .inl (0, [(2, 1)]))], (31, [(2, (-1))]))]) (m0 := (32, [])) (by intro C h; cases h) rfl rfl (by decide +kernel)
/-- X12_findExplanation -/
def hb_K203_639 : sy_Co := (203, ([], 0, [], []), [.inr (.inl 215)], [(151, 9, 13), (155, 0, 8), (156, 0, 8), (157, 0, 8), (158, 0, 8)], 4, [(([(0, 1)], 0, [], []), some (.inl (0, [(0, 1)])))])
set_option maxRecDepth 100000 in
theorem hb_K203_639_ok : sy_Met hb_cl hb_lt hb_P hb_A (0, 0) hb_K203_639 := sy_met2 280 (Cs := [hb_K200_677, hb_K202_638]) (cuts := [(0, hb_K203_639.2.1, sy_args 0 hb_K203_639.2.2.1, (25811, [])), (2, ([(0, 9)], 0, [], []), [(0, .inr (.inl 215)), (1, .inl (0, [(0, 1)]))], (25810, [(0, (-2581))])), (10, ([(0, 8), (1, 10)], 0, [], []), [(0, .inr (.inl 215)), (1, .inl (0, [(0, 1)])), (2, .inl (0, [(1, 1)]))], (26067, [(0, (-2581)), (1, (-258))])), (18, ([(0, 8), (1, 9), (0, 256)], 0, [], []), [(0, .inr (.inl 215)), (1, .inl (0, [(0, 1)])), (2, .inl (0, [(1, 1)])), (3, .inl (0, [(2, 1)]))], (26066, [(0, (-2581)), (1, (-258)), (2, (-1))]))]) (m0 := (25811, [])) (by
  intro C h
  simp only [List.mem_cons, List.not_mem_nil, or_false] at h
  rcases h with rfl | rfl
  · exact hb_K200_677_ok
  · exact hb_K202_638_ok) rfl rfl (by decide +kernel)
/-- X12_explained -/
def hb_K204_640 : sy_Co := (204, ([sy_full], 0, [], []), [.inr (.inl 215), .inl (0, [(0, 1)])], [(151, 9, 13), (155, 0, 8), (156, 0, 8), (157, 0, 8), (158, 0, 8)], 5, [(([sy_full, sy_full], 0, [], []), some (.inl (0, [(1, 1)])))])
set_option maxRecDepth 100000 in
theorem hb_K204_640_ok : sy_Met hb_cl hb_lt hb_P hb_A (0, 0) hb_K204_640 := sy_met2 266 (Cs := [hb_K203_639]) (cuts := [(0, hb_K204_640.2.1, sy_args 0 hb_K204_640.2.2.1, (1, []))]) (m0 := (1, [])) (by
  intro C h
  simp only [List.mem_cons, List.not_mem_nil, or_false] at h
  rcases h with rfl
  · exact hb_K203_639_ok) rfl rfl (by decide +kernel)
/-- X12_way -/
def hb_K206_641 : sy_Co := (206, ([sy_full, sy_full, sy_full, sy_full], 0, [], []), [.inr (.inl 215), .inl (0, [(0, 1)]), .inl (0, [(1, 1)]), .inl (0, [(2, 1)]), .inl (0, [(3, 1)])], [(152, 3, 4), (152, 128, 176)], 2, [(([sy_full, sy_full, sy_full, sy_full, ((-2), 11)], 0, [], []), some (.inl (0, [(4, 1)])))])
set_option maxRecDepth 100000 in
theorem hb_K206_641_ok : sy_Met hb_cl hb_lt hb_P hb_A (0, 0) hb_K206_641 := sy_met2 526 (Cs := []) (cuts := [(0, hb_K206_641.2.1, sy_args 0 hb_K206_641.2.2.1, (1, []))]) (m0 := (1, [])) (by intro C h; cases h) rfl rfl (by decide +kernel)

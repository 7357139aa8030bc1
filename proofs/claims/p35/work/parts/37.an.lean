noncomputable section
/-! CONTRACTS, 37, 14 -/
/-- X12_passes -/
def hb_K190_562 : sy_Co := (190, ([], 0, [], []), [.inr (.inl 215)], [(151, 9, 11), (155, 0, 8), (158, 0, 8)], 2, [(([(0, 1)], 0, [], []), some (.inl (0, [(0, 1)])))])
set_option maxRecDepth 100000 in
theorem hb_K190_562_ok : sy_Met hb_cl hb_lt hb_P hb_A (0, 0) hb_K190_562 := ty_met2 2004 hb_Gok hb_Hok hb_An_ok hb_hcl (Cs := [hb_K187_561]) (cuts := [(0, hb_K190_562.2.1, sy_args 0 hb_K190_562.2.2.1, (27, [])), (6, ([(0, 8)], 0, [], []), [(0, .inr (.inl 215)), (1, .inl (0, [(0, 1)]))], (26, [(0, (-1))])), (75, ([(0, 7)], 0, [], []), [(0, .inr (.inl 215)), (1, .inl (0, [(0, 1)]))], (17, [(0, (-1))])), (234, ([(0, 8)], 0, [], []), [(0, .inr (.inl 215)), (1, .inl (0, [(0, 1)]))], (9, [(0, (-1))]))]) (m0 := (27, [])) (by
  intro C h
  simp only [List.mem_cons, List.not_mem_nil, or_false] at h
  rcases h with rfl
  · exact hb_K187_561_ok) rfl rfl (by decide +kernel)
/-- X12_minutes -/
def hb_K191_563 : sy_Co := (191, ([sy_full], 0, [], []), [.inr (.inl 215), .inl (0, [(0, 1)])], [(151, 9, 11), (152, 0, 2), (152, 24, 32), (155, 0, 8), (156, 0, 8), (157, 0, 8), (158, 0, 8)], 3, [(([sy_full, sy_full], 0, [], []), some (.inl (0, [(1, 1)])))])
set_option maxRecDepth 100000 in
theorem hb_K191_563_ok : sy_Met hb_cl hb_lt hb_P hb_A (0, 0) hb_K191_563 := ty_met2 388 hb_Gok hb_Hok hb_An_ok hb_hcl (Cs := [hb_K186_560, hb_K190_562]) (cuts := [(0, hb_K191_563.2.1, sy_args 0 hb_K191_563.2.2.1, (2011, [])), (32, ([(1, 200), (0, 200)], 0, [], []), [(0, .inr (.inl 215)), (1, .inl (0, [(0, 1)])), (2, .inl (0, [(1, 1)]))], (2010, [(1, (-10))])), (85, ([(1, 200), (0, 199), (0, 8)], 0, [], []), [(0, .inr (.inl 215)), (1, .inl (0, [(0, 1)])), (2, .inl (0, [(1, 1)])), (3, .inl (0, [(2, 1)]))], (2009, [(1, (-10)), (2, (-1))]))]) (m0 := (2011, [])) (by
  intro C h
  simp only [List.mem_cons, List.not_mem_nil, or_false] at h
  rcases h with rfl | rfl
  · exact hb_K186_560_ok
  · exact hb_K190_562_ok) rfl rfl (by decide +kernel)
/-- X12_set -/
def hb_K192_564 : sy_Co := (192, ([sy_full, sy_full, sy_full], 0, [], []), [.inr (.inl 215), .inl (0, [(0, 1)]), .inl (0, [(1, 1)]), .inl (0, [(2, 1)])], [(152, 16, 48)], 2, [(([sy_full, sy_full, sy_full, sy_full], 0, [], []), some (.inl (0, [(3, 1)])))])
set_option maxRecDepth 100000 in
theorem hb_K192_564_ok : sy_Met hb_cl hb_lt hb_P hb_A (0, 0) hb_K192_564 := ty_met2 718 hb_Gok hb_Hok hb_An_ok hb_hcl (Cs := []) (cuts := [(0, hb_K192_564.2.1, sy_args 0 hb_K192_564.2.2.1, (1, []))]) (m0 := (1, [])) (by intro C h; cases h) rfl rfl (by decide +kernel)
/-- X12_wall -/
def hb_K194_565 : sy_Co := (194, ([sy_full, sy_full], 0, [], []), [.inr (.inl 215), .inl (0, [(0, 1)]), .inl (0, [(1, 1)])], [(152, 48, 55)], 2, [(([sy_full, sy_full, sy_full], 0, [], []), some (.inl (0, [(2, 1)])))])
set_option maxRecDepth 100000 in
theorem hb_K194_565_ok : sy_Met hb_cl hb_lt hb_P hb_A (0, 0) hb_K194_565 := ty_met2 328 hb_Gok hb_Hok hb_An_ok hb_hcl (Cs := []) (cuts := [(0, hb_K194_565.2.1, sy_args 0 hb_K194_565.2.2.1, (1, []))]) (m0 := (1, [])) (by intro C h; cases h) rfl rfl (by decide +kernel)
/-- X12_door -/
def hb_K195_566 : sy_Co := (195, ([sy_full, (0, 1)], 0, [], []), [.inr (.inl 215), .inl (0, [(0, 1)]), .inl (0, [(1, 1)])], [(152, 56, 63)], 2, [(([sy_full, (0, 1), sy_full], 0, [], []), some (.inl (0, [(2, 1)])))])
set_option maxRecDepth 100000 in
theorem hb_K195_566_ok : sy_Met hb_cl hb_lt hb_P hb_A (0, 0) hb_K195_566 := ty_met2 296 hb_Gok hb_Hok hb_An_ok hb_hcl (Cs := []) (cuts := [(0, hb_K195_566.2.1, sy_args 0 hb_K195_566.2.2.1, (1, []))]) (m0 := (1, [])) (by intro C h; cases h) rfl rfl (by decide +kernel)
/-- X12_cell -/
def hb_K196_567 : sy_Co := (196, ([sy_full, sy_full], 0, [], []), [.inr (.inl 215), .inl (0, [(0, 1)]), .inl (0, [(1, 1)])], [(151, 9, 11), (155, 0, 8), (156, 0, 8), (157, 0, 8)], 2, [(([sy_full, sy_full, ((-1), 9990)], 0, [], []), some (.inl (0, [(2, 1)])))])
set_option maxRecDepth 100000 in
theorem hb_K196_567_ok : sy_Met hb_cl hb_lt hb_P hb_A (0, 0) hb_K196_567 := ty_met2 436 hb_Gok hb_Hok hb_An_ok hb_hcl (Cs := [hb_K186_560, hb_K187_561]) (cuts := [(0, hb_K196_567.2.1, sy_args 0 hb_K196_567.2.2.1, (1, []))]) (m0 := (1, [])) (by
  intro C h
  simp only [List.mem_cons, List.not_mem_nil, or_false] at h
  rcases h with rfl | rfl
  · exact hb_K186_560_ok
  · exact hb_K187_561_ok) rfl rfl (by decide +kernel)
/-- X12_sunk -/
def hb_K197_568 : sy_Co := (197, ([], 0, [], []), [.inr (.inl 215)], [], 0, [(([((-3), 2147483647)], 0, [], []), some (.inl (0, [(0, 1)])))])
set_option maxRecDepth 100000 in
theorem hb_K197_568_ok : sy_Met hb_cl hb_lt hb_P hb_A (0, 0) hb_K197_568 := ty_met2 222 hb_Gok hb_Hok hb_An_ok hb_hcl (Cs := []) (cuts := [(0, hb_K197_568.2.1, sy_args 0 hb_K197_568.2.2.1, (1, []))]) (m0 := (1, [])) (by intro C h; cases h) rfl rfl (by decide +kernel)
/-- X12_sinks -/
def hb_K198_569 : sy_Co := (198, ([sy_full, sy_full], 0, [], []), [.inr (.inl 215), .inl (0, [(0, 1)]), .inl (0, [(1, 1)])], [(151, 9, 11), (155, 0, 8), (156, 0, 8), (157, 0, 8), (158, 0, 8)], 3, [(([sy_full, sy_full, ((-2147483648), 999)], 0, [], []), some (.inl (0, [(2, 1)])))])
set_option maxRecDepth 100000 in
theorem hb_K198_569_ok : sy_Met hb_cl hb_lt hb_P hb_A (0, 0) hb_K198_569 := ty_met2 450 hb_Gok hb_Hok hb_An_ok hb_hcl (Cs := [hb_K186_560, hb_K190_562]) (cuts := [(0, hb_K198_569.2.1, sy_args 0 hb_K198_569.2.2.1, (4294967297, [])), (60, ([((-1), 6), (0, 100), ((-1), 6), sy_full, ((-2147483648), (-1))], 0, [], [(152, (1, []), .inl (0, [(4, 1)]))]), [(0, .inr (.inl 215)), (1, .inl (0, [(2, 1)])), (2, .inl (0, [(1, 1)])), (3, .inl (0, [(3, 1)]))], (2147483648, [(3, (-1))]))]) (m0 := (4294967297, [])) (by
  intro C h
  simp only [List.mem_cons, List.not_mem_nil, or_false] at h
  rcases h with rfl | rfl
  · exact hb_K186_560_ok
  · exact hb_K190_562_ok) rfl rfl (by decide +kernel)
/-- X12_sounding -/
def hb_K199_570 : sy_Co := (199, ([sy_full, sy_full, sy_full, sy_full], 0, [], []), [.inr (.inl 215), .inl (0, [(0, 1)]), .inl (0, [(1, 1)]), .inl (0, [(2, 1)]), .inl (0, [(3, 1)])], [(152, 2, 3), (152, 64, 128)], 2, [(([sy_full, sy_full, sy_full, sy_full, ((-2), 15)], 0, [], []), some (.inl (0, [(4, 1)])))])
set_option maxRecDepth 100000 in
theorem hb_K199_570_ok : sy_Met hb_cl hb_lt hb_P hb_A (0, 0) hb_K199_570 := ty_met2 498 hb_Gok hb_Hok hb_An_ok hb_hcl (Cs := []) (cuts := [(0, hb_K199_570.2.1, sy_args 0 hb_K199_570.2.2.1, (1, []))]) (m0 := (1, [])) (by intro C h; cases h) rfl rfl (by decide +kernel)
/-- X12_ones -/
def hb_K200_571 : sy_Co := (200, ([], 0, [], []), [.inl (0, [])], [], 0, [(([], 0, [], []), some (.inl (0, [])))])
set_option maxRecDepth 100000 in
theorem hb_K200_571_ok : sy_Met hb_cl hb_lt hb_P hb_A (0, 0) hb_K200_571 := ty_met2 236 hb_Gok hb_Hok hb_An_ok hb_hcl (Cs := []) (cuts := [(0, hb_K200_571.2.1, sy_args 0 hb_K200_571.2.2.1, (32, [])), (4, ([(0, 30)], 0, [], []), [(0, .inl (0, [])), (1, .inl (0, [])), (2, .inl (0, [(0, 1)]))], (31, [(0, (-1))]))]) (m0 := (32, [])) (by intro C h; cases h) rfl rfl (by decide +kernel)
/-- X12_holdsAt -/
def hb_K201_591 : sy_Co := (201, ([(0, 60)], 0, [], []), [.inr (.inl 215), .inl (0, [(0, 1)])], [], 1, [(([(0, 60), (0, 1)], 0, [], []), some (.inl (0, [(1, 1)])))])
set_option maxRecDepth 100000 in
theorem hb_K201_591_ok : sy_Met hb_cl hb_lt hb_P hb_A (0, 0) hb_K201_591 := ty_met2 368 hb_Gok hb_Hok hb_An_ok hb_hcl (Cs := []) (cuts := [(0, hb_K201_591.2.1, sy_args 0 hb_K201_591.2.2.1, (18, [])), (4, ([(0, 60), (0, 1), (0, 16)], 0, [], []), [(0, .inr (.inl 215)), (1, .inl (0, [(0, 1)])), (2, .inl (0, [(1, 1)])), (3, .inl (0, [(2, 1)]))], (17, [(2, (-1))]))]) (m0 := (18, [])) (by intro C h; cases h) rfl rfl (by decide +kernel)
/-- X12_explains -/
def hb_K202_642 : sy_Co := (202, ([(0, 255), (1, 9)], 0, [], []), [.inr (.inl 215), .inl (0, [(0, 1)]), .inl (0, [(1, 1)])], [(151, 9, 11), (155, 0, 8), (156, 0, 8), (157, 0, 8), (158, 0, 8)], 3, [(([(0, 255), (1, 9), (0, 1)], 0, [], []), some (.inl (0, [(2, 1)])))])
set_option maxRecDepth 100000 in
theorem hb_K202_642_ok : sy_Met hb_cl hb_lt hb_P hb_A (0, 0) hb_K202_642 := ty_met2 390 hb_Gok hb_Hok hb_An_ok hb_hcl (Cs := [hb_K190_562, hb_K201_591]) (cuts := [(0, hb_K202_642.2.1, sy_args 0 hb_K202_642.2.2.1, (71, [])), (2, ([(0, 255), (1, 9), (0, 8)], 0, [], []), [(0, .inr (.inl 215)), (1, .inl (0, [(0, 1)])), (2, .inl (0, [(1, 1)])), (3, .inl (0, [(2, 1)]))], (70, [(2, (-1))])), (68, ([(0, 255), (1, 9), (0, 1), (0, 1), (1, 61)], 0, [], []), [(0, .inr (.inl 215)), (1, .inl (0, [(0, 1)])), (2, .inl (0, [(1, 1)])), (3, .inl (0, [(2, 1)])), (4, .inl (0, [(3, 1)])), (5, .inl (0, [(4, 1)]))], (62, [(4, (-1))]))]) (m0 := (71, [])) (by
  intro C h
  simp only [List.mem_cons, List.not_mem_nil, or_false] at h
  rcases h with rfl | rfl
  · exact hb_K190_562_ok
  · exact hb_K201_591_ok) rfl rfl (by decide +kernel)
/-- X12_ones -/
def hb_K200_681 : sy_Co := (200, ([(0, 4095)], 0, [], []), [.inl (0, [(0, 1)])], [], 0, [(([(0, 4095), sy_full], 0, [], []), some (.inl (0, [(1, 1)])))])
set_option maxRecDepth 100000 in
theorem hb_K200_681_ok : sy_Met hb_cl hb_lt hb_P hb_A (0, 0) hb_K200_681 := ty_met2 238 hb_Gok hb_Hok hb_An_ok hb_hcl (Cs := []) (cuts := [(0, hb_K200_681.2.1, sy_args 0 hb_K200_681.2.2.1, (32, [])), (4, ([(0, 4095), sy_full, (0, 30)], 0, [], []), [(0, .inl (0, [(0, 1)])), (1, .inl (0, [(1, 1)])), (2, .inl (0, [(2, 1)]))], (31, [(2, (-1))]))]) (m0 := (32, [])) (by intro C h; cases h) rfl rfl (by decide +kernel)
/-- X12_findExplanation -/
def hb_K203_643 : sy_Co := (203, ([], 0, [], []), [.inr (.inl 215)], [(151, 9, 13), (155, 0, 8), (156, 0, 8), (157, 0, 8), (158, 0, 8)], 4, [(([(0, 1)], 0, [], []), some (.inl (0, [(0, 1)])))])
set_option maxRecDepth 100000 in
theorem hb_K203_643_ok : sy_Met hb_cl hb_lt hb_P hb_A (0, 0) hb_K203_643 := ty_met2 280 hb_Gok hb_Hok hb_An_ok hb_hcl (Cs := [hb_K200_681, hb_K202_642]) (cuts := [(0, hb_K203_643.2.1, sy_args 0 hb_K203_643.2.2.1, (25811, [])), (2, ([(0, 9)], 0, [], []), [(0, .inr (.inl 215)), (1, .inl (0, [(0, 1)]))], (25810, [(0, (-2581))])), (10, ([(0, 8), (1, 10)], 0, [], []), [(0, .inr (.inl 215)), (1, .inl (0, [(0, 1)])), (2, .inl (0, [(1, 1)]))], (26067, [(0, (-2581)), (1, (-258))])), (18, ([(0, 8), (1, 9), (0, 256)], 0, [], []), [(0, .inr (.inl 215)), (1, .inl (0, [(0, 1)])), (2, .inl (0, [(1, 1)])), (3, .inl (0, [(2, 1)]))], (26066, [(0, (-2581)), (1, (-258)), (2, (-1))]))]) (m0 := (25811, [])) (by
  intro C h
  simp only [List.mem_cons, List.not_mem_nil, or_false] at h
  rcases h with rfl | rfl
  · exact hb_K200_681_ok
  · exact hb_K202_642_ok) rfl rfl (by decide +kernel)
/-- X12_explained -/
def hb_K204_644 : sy_Co := (204, ([sy_full], 0, [], []), [.inr (.inl 215), .inl (0, [(0, 1)])], [(151, 9, 13), (155, 0, 8), (156, 0, 8), (157, 0, 8), (158, 0, 8)], 5, [(([sy_full, sy_full], 0, [], []), some (.inl (0, [(1, 1)])))])
set_option maxRecDepth 100000 in
theorem hb_K204_644_ok : sy_Met hb_cl hb_lt hb_P hb_A (0, 0) hb_K204_644 := ty_met2 266 hb_Gok hb_Hok hb_An_ok hb_hcl (Cs := [hb_K203_643]) (cuts := [(0, hb_K204_644.2.1, sy_args 0 hb_K204_644.2.2.1, (1, []))]) (m0 := (1, [])) (by
  intro C h
  simp only [List.mem_cons, List.not_mem_nil, or_false] at h
  rcases h with rfl
  · exact hb_K203_643_ok) rfl rfl (by decide +kernel)
/-- X12_way -/
def hb_K206_645 : sy_Co := (206, ([sy_full, sy_full, sy_full, sy_full], 0, [], []), [.inr (.inl 215), .inl (0, [(0, 1)]), .inl (0, [(1, 1)]), .inl (0, [(2, 1)]), .inl (0, [(3, 1)])], [(152, 3, 4), (152, 128, 176)], 2, [(([sy_full, sy_full, sy_full, sy_full, ((-2), 11)], 0, [], []), some (.inl (0, [(4, 1)])))])
set_option maxRecDepth 100000 in
theorem hb_K206_645_ok : sy_Met hb_cl hb_lt hb_P hb_A (0, 0) hb_K206_645 := ty_met2 526 hb_Gok hb_Hok hb_An_ok hb_hcl (Cs := []) (cuts := [(0, hb_K206_645.2.1, sy_args 0 hb_K206_645.2.2.1, (1, []))]) (m0 := (1, [])) (by intro C h; cases h) rfl rfl (by decide +kernel)
/-- X12_group -/
def hb_K207_646 : sy_Co := (207, ([sy_full, sy_full, sy_full, sy_full], 0, [], []), [.inr (.inl 215), .inl (0, [(0, 1)]), .inl (0, [(1, 1)]), .inl (0, [(2, 1)]), .inl (0, [(3, 1)])], [(152, 4, 5), (152, 176, 216)], 2, [(([sy_full, sy_full, sy_full, sy_full, ((-2), 9)], 0, [], []), some (.inl (0, [(4, 1)])))])
set_option maxRecDepth 100000 in
theorem hb_K207_646_ok : sy_Met hb_cl hb_lt hb_P hb_A (0, 0) hb_K207_646 := ty_met2 508 hb_Gok hb_Hok hb_An_ok hb_hcl (Cs := []) (cuts := [(0, hb_K207_646.2.1, sy_args 0 hb_K207_646.2.2.1, (1, []))]) (m0 := (1, [])) (by intro C h; cases h) rfl rfl (by decide +kernel)

end

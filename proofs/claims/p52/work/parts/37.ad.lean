/-! CONTRACTS, 4 -/
/-- X10_standAt -/
def hb_K119_129 : sy_Co := (119, ([sy_full], 0, [], []), [.inr (.inl 103), .inl (0, [(0, 1)])], [], 0, [(([sy_full, (0, 4095)], 0, [], []), some (.inl (0, [(1, 1)])))])
set_option maxRecDepth 100000 in
theorem hb_K119_129_ok : sy_Met hb_cl hb_lt hb_P hb_A (0, 0) hb_K119_129 := sy_met2 396 (Cs := []) (cuts := [(0, hb_K119_129.2.1, sy_args 0 hb_K119_129.2.2.1, (14, [])), (4, ([sy_full, (0, 4095), (0, 12)], 0, [], []), [(0, .inr (.inl 103)), (1, .inl (0, [(0, 1)])), (2, .inl (0, [(1, 1)])), (3, .inl (0, [(2, 1)]))], (13, [(2, (-1))]))]) (m0 := (14, [])) (by intro C h; cases h) rfl rfl (by decide +kernel)
/-- X11_takeBack -/
def hb_K152_130 : sy_Co := (152, ([sy_full], 0, [], []), [.inr (.inl 64), .inl (0, [(0, 1)])], [(42, 0, 12)], 1, [(([sy_full, ((-4), 63)], 0, [], []), some (.inl (0, [(1, 1)])))])
set_option maxRecDepth 100000 in
theorem hb_K152_130_ok : sy_Met hb_cl hb_lt hb_P hb_A (0, 0) hb_K152_130 := sy_met2 388 (Cs := [hb_K119_129]) (cuts := [(0, hb_K152_130.2.1, sy_args 0 hb_K152_130.2.2.1, (1, []))]) (m0 := (1, [])) (by
  intro C h
  simp only [List.mem_cons, List.not_mem_nil, or_false] at h
  rcases h with rfl
  · exact hb_K119_129_ok) rfl rfl (by decide +kernel)
/-- X11_standing -/
def hb_K153_131 : sy_Co := (153, ([sy_full], 0, [], []), [.inr (.inl 64), .inl (0, [(0, 1)])], [], 1, [(([sy_full, ((-1), 4095)], 0, [], []), some (.inl (0, [(1, 1)])))])
set_option maxRecDepth 100000 in
theorem hb_K153_131_ok : sy_Met hb_cl hb_lt hb_P hb_A (0, 0) hb_K153_131 := sy_met2 248 (Cs := [hb_K119_129]) (cuts := [(0, hb_K153_131.2.1, sy_args 0 hb_K153_131.2.2.1, (1, []))]) (m0 := (1, [])) (by
  intro C h
  simp only [List.mem_cons, List.not_mem_nil, or_false] at h
  rcases h with rfl
  · exact hb_K119_129_ok) rfl rfl (by decide +kernel)
/-- X5_take -/
def hb_K52_132 : sy_Co := (52, ([(1, 8)], 1, [], []), [.inr (.inl 201), .inr (.inr 0), .inl (0, [(0, 1)])], [(137, 0, 1), (138, 0, 200)], 0, [(([(1, 8), (0, 200)], 1, [], []), some (.inl (0, [(1, 1)])))])
set_option maxRecDepth 100000 in
theorem hb_K52_132_ok : sy_Met hb_cl hb_lt hb_P hb_A (0, 0) hb_K52_132 := sy_met2 268 (Cs := []) (cuts := [(0, hb_K52_132.2.1, sy_args 0 hb_K52_132.2.2.1, (10, [])), (3, ([(1, 8), (0, 8)], 2, [], []), [(0, .inr (.inl 201)), (1, .inr (.inr 1)), (3, .inl (0, [(0, 1)])), (4, .inl (0, [(1, 1)]))], (9, [(1, (-1))]))]) (m0 := (10, [])) (by intro C h; cases h) rfl rfl (by decide +kernel)
/-- X11_feed -/
def hb_K154_133 : sy_Co := (154, ([sy_full], 1, [], []), [.inr (.inl 64), .inr (.inr 0), .inl (0, [(0, 1)])], [(137, 0, 1), (138, 0, 200)], 1, [(([sy_full, ((-2), 200)], 1, [], []), some (.inl (0, [(1, 1)])))])
set_option maxRecDepth 100000 in
theorem hb_K154_133_ok : sy_Met hb_cl hb_lt hb_P hb_A (0, 0) hb_K154_133 := sy_met2 272 (Cs := [hb_K52_132]) (cuts := [(0, hb_K154_133.2.1, sy_args 0 hb_K154_133.2.2.1, (1, []))]) (m0 := (1, [])) (by
  intro C h
  simp only [List.mem_cons, List.not_mem_nil, or_false] at h
  rcases h with rfl
  · exact hb_K52_132_ok) rfl rfl (by decide +kernel)
/-- X5_numberAt -/
def hb_K58_474 : sy_Co := (58, ([(0, 199), (1, 200)], 0, [], []), [.inr (.inl 201), .inl (0, [(0, 1)]), .inl (0, [(1, 1)])], [], 0, [(([(0, 199), (1, 200), sy_full], 0, [], []), some (.inl (0, [(2, 1)])))])
set_option maxRecDepth 100000 in
theorem hb_K58_474_ok : sy_Met hb_cl hb_lt hb_P hb_A (0, 0) hb_K58_474 := sy_met2 260 (Cs := []) (cuts := [(0, hb_K58_474.2.1, sy_args 0 hb_K58_474.2.2.1, (202, [])), (14, ([(0, 199), (1, 200), sy_full, (0, 200)], 0, [], []), [(0, .inr (.inl 201)), (1, .inl (0, [(0, 1)])), (2, .inl (0, [(1, 1)])), (3, .inl (0, [(2, 1)])), (4, .inl (0, [(3, 1)]))], (201, [(3, (-1))]))]) (m0 := (202, [])) (by intro C h; cases h) rfl rfl (by decide +kernel)
/-- X5_is -/
def hb_K60_475 : sy_Co := (60, ([(0, 198)], 0, [], []), [.inr (.inl 201), .inr (.inl 1), .inl (0, [(0, 1)])], [], 4, [(([(0, 198), (0, 1)], 0, [], []), some (.inl (0, [(1, 1)])))])
set_option maxRecDepth 100000 in
theorem hb_K60_475_ok : sy_Met hb_cl hb_lt hb_P hb_A (0, 0) hb_K60_475 := sy_met2 360 (Cs := []) (cuts := [(0, hb_K60_475.2.1, sy_args 0 hb_K60_475.2.2.1, (4, [])), (2, ([(0, 198), (0, 2)], 0, [], []), [(0, .inr (.inl 201)), (1, .inr (.inl 1)), (2, .inl (0, [(0, 1)])), (3, .inl (0, [(1, 1)]))], (3, [(1, (-1))]))]) (m0 := (4, [])) (by intro C h; cases h) rfl rfl (by decide +kernel)
/-- X5_is -/
def hb_K60_476 : sy_Co := (60, ([(0, 198)], 0, [], []), [.inr (.inl 201), .inr (.inl 2), .inl (0, [(0, 1)])], [], 4, [(([(0, 198), (0, 1)], 0, [], []), some (.inl (0, [(1, 1)])))])
set_option maxRecDepth 100000 in
theorem hb_K60_476_ok : sy_Met hb_cl hb_lt hb_P hb_A (0, 0) hb_K60_476 := sy_met2 360 (Cs := []) (cuts := [(0, hb_K60_476.2.1, sy_args 0 hb_K60_476.2.2.1, (4, [])), (2, ([(0, 198), (0, 2)], 0, [], []), [(0, .inr (.inl 201)), (1, .inr (.inl 2)), (2, .inl (0, [(0, 1)])), (3, .inl (0, [(1, 1)]))], (3, [(1, (-1))]))]) (m0 := (4, [])) (by intro C h; cases h) rfl rfl (by decide +kernel)
/-- X5_is -/
def hb_K60_477 : sy_Co := (60, ([(0, 197)], 0, [], []), [.inr (.inl 201), .inr (.inl 3), .inl (0, [(0, 1)])], [], 4, [(([(0, 197), (0, 1)], 0, [], []), some (.inl (0, [(1, 1)])))])
set_option maxRecDepth 100000 in
theorem hb_K60_477_ok : sy_Met hb_cl hb_lt hb_P hb_A (0, 0) hb_K60_477 := sy_met2 360 (Cs := []) (cuts := [(0, hb_K60_477.2.1, sy_args 0 hb_K60_477.2.2.1, (5, [])), (2, ([(0, 197), (0, 3)], 0, [], []), [(0, .inr (.inl 201)), (1, .inr (.inl 3)), (2, .inl (0, [(0, 1)])), (3, .inl (0, [(1, 1)]))], (4, [(1, (-1))]))]) (m0 := (5, [])) (by intro C h; cases h) rfl rfl (by decide +kernel)
/-- X5_is -/
def hb_K60_478 : sy_Co := (60, ([(0, 197)], 0, [], []), [.inr (.inl 201), .inr (.inl 4), .inl (0, [(0, 1)])], [], 4, [(([(0, 197), (0, 1)], 0, [], []), some (.inl (0, [(1, 1)])))])
set_option maxRecDepth 100000 in
theorem hb_K60_478_ok : sy_Met hb_cl hb_lt hb_P hb_A (0, 0) hb_K60_478 := sy_met2 360 (Cs := []) (cuts := [(0, hb_K60_478.2.1, sy_args 0 hb_K60_478.2.2.1, (5, [])), (2, ([(0, 197), (0, 3)], 0, [], []), [(0, .inr (.inl 201)), (1, .inr (.inl 4)), (2, .inl (0, [(0, 1)])), (3, .inl (0, [(1, 1)]))], (4, [(1, (-1))]))]) (m0 := (5, [])) (by intro C h; cases h) rfl rfl (by decide +kernel)
/-- X5_is -/
def hb_K60_479 : sy_Co := (60, ([(0, 197)], 0, [], []), [.inr (.inl 201), .inr (.inl 5), .inl (0, [(0, 1)])], [], 4, [(([(0, 197), (0, 1)], 0, [], []), some (.inl (0, [(1, 1)])))])
set_option maxRecDepth 100000 in
theorem hb_K60_479_ok : sy_Met hb_cl hb_lt hb_P hb_A (0, 0) hb_K60_479 := sy_met2 360 (Cs := []) (cuts := [(0, hb_K60_479.2.1, sy_args 0 hb_K60_479.2.2.1, (5, [])), (2, ([(0, 197), (0, 3)], 0, [], []), [(0, .inr (.inl 201)), (1, .inr (.inl 5)), (2, .inl (0, [(0, 1)])), (3, .inl (0, [(1, 1)]))], (4, [(1, (-1))]))]) (m0 := (5, [])) (by intro C h; cases h) rfl rfl (by decide +kernel)
/-- X5_is -/
def hb_K60_480 : sy_Co := (60, ([(0, 197)], 0, [], []), [.inr (.inl 201), .inr (.inl 6), .inl (0, [(0, 1)])], [], 4, [(([(0, 197), (0, 1)], 0, [], []), some (.inl (0, [(1, 1)])))])
set_option maxRecDepth 100000 in
theorem hb_K60_480_ok : sy_Met hb_cl hb_lt hb_P hb_A (0, 0) hb_K60_480 := sy_met2 360 (Cs := []) (cuts := [(0, hb_K60_480.2.1, sy_args 0 hb_K60_480.2.2.1, (5, [])), (2, ([(0, 197), (0, 3)], 0, [], []), [(0, .inr (.inl 201)), (1, .inr (.inl 6)), (2, .inl (0, [(0, 1)])), (3, .inl (0, [(1, 1)]))], (4, [(1, (-1))]))]) (m0 := (5, [])) (by intro C h; cases h) rfl rfl (by decide +kernel)
/-- X5_is -/
def hb_K60_481 : sy_Co := (60, ([(0, 197)], 0, [], []), [.inr (.inl 201), .inr (.inl 7), .inl (0, [(0, 1)])], [], 4, [(([(0, 197), (0, 1)], 0, [], []), some (.inl (0, [(1, 1)])))])
set_option maxRecDepth 100000 in
theorem hb_K60_481_ok : sy_Met hb_cl hb_lt hb_P hb_A (0, 0) hb_K60_481 := sy_met2 360 (Cs := []) (cuts := [(0, hb_K60_481.2.1, sy_args 0 hb_K60_481.2.2.1, (5, [])), (2, ([(0, 197), (0, 3)], 0, [], []), [(0, .inr (.inl 201)), (1, .inr (.inl 7)), (2, .inl (0, [(0, 1)])), (3, .inl (0, [(1, 1)]))], (4, [(1, (-1))]))]) (m0 := (5, [])) (by intro C h; cases h) rfl rfl (by decide +kernel)
/-- X5_is -/
def hb_K60_482 : sy_Co := (60, ([(0, 196)], 0, [], []), [.inr (.inl 201), .inr (.inl 8), .inl (0, [(0, 1)])], [], 4, [(([(0, 196), (0, 1)], 0, [], []), some (.inl (0, [(1, 1)])))])
set_option maxRecDepth 100000 in
theorem hb_K60_482_ok : sy_Met hb_cl hb_lt hb_P hb_A (0, 0) hb_K60_482 := sy_met2 360 (Cs := []) (cuts := [(0, hb_K60_482.2.1, sy_args 0 hb_K60_482.2.2.1, (6, [])), (2, ([(0, 196), (0, 4)], 0, [], []), [(0, .inr (.inl 201)), (1, .inr (.inl 8)), (2, .inl (0, [(0, 1)])), (3, .inl (0, [(1, 1)]))], (5, [(1, (-1))]))]) (m0 := (6, [])) (by intro C h; cases h) rfl rfl (by decide +kernel)
/-- X5_is -/
def hb_K60_483 : sy_Co := (60, ([(0, 196)], 0, [], []), [.inr (.inl 201), .inr (.inl 9), .inl (0, [(0, 1)])], [], 4, [(([(0, 196), (0, 1)], 0, [], []), some (.inl (0, [(1, 1)])))])
set_option maxRecDepth 100000 in
theorem hb_K60_483_ok : sy_Met hb_cl hb_lt hb_P hb_A (0, 0) hb_K60_483 := sy_met2 360 (Cs := []) (cuts := [(0, hb_K60_483.2.1, sy_args 0 hb_K60_483.2.2.1, (6, [])), (2, ([(0, 196), (0, 4)], 0, [], []), [(0, .inr (.inl 201)), (1, .inr (.inl 9)), (2, .inl (0, [(0, 1)])), (3, .inl (0, [(1, 1)]))], (5, [(1, (-1))]))]) (m0 := (6, [])) (by intro C h; cases h) rfl rfl (by decide +kernel)
/-- X5_is -/
def hb_K60_484 : sy_Co := (60, ([(0, 195)], 0, [], []), [.inr (.inl 201), .inr (.inl 10), .inl (0, [(0, 1)])], [], 4, [(([(0, 195), (0, 1)], 0, [], []), some (.inl (0, [(1, 1)])))])
set_option maxRecDepth 100000 in
theorem hb_K60_484_ok : sy_Met hb_cl hb_lt hb_P hb_A (0, 0) hb_K60_484 := sy_met2 360 (Cs := []) (cuts := [(0, hb_K60_484.2.1, sy_args 0 hb_K60_484.2.2.1, (7, [])), (2, ([(0, 195), (0, 5)], 0, [], []), [(0, .inr (.inl 201)), (1, .inr (.inl 10)), (2, .inl (0, [(0, 1)])), (3, .inl (0, [(1, 1)]))], (6, [(1, (-1))]))]) (m0 := (7, [])) (by intro C h; cases h) rfl rfl (by decide +kernel)
/-- X5_is -/
def hb_K60_485 : sy_Co := (60, ([(0, 195)], 0, [], []), [.inr (.inl 201), .inr (.inl 11), .inl (0, [(0, 1)])], [], 4, [(([(0, 195), (0, 1)], 0, [], []), some (.inl (0, [(1, 1)])))])
set_option maxRecDepth 100000 in
theorem hb_K60_485_ok : sy_Met hb_cl hb_lt hb_P hb_A (0, 0) hb_K60_485 := sy_met2 360 (Cs := []) (cuts := [(0, hb_K60_485.2.1, sy_args 0 hb_K60_485.2.2.1, (7, [])), (2, ([(0, 195), (0, 5)], 0, [], []), [(0, .inr (.inl 201)), (1, .inr (.inl 11)), (2, .inl (0, [(0, 1)])), (3, .inl (0, [(1, 1)]))], (6, [(1, (-1))]))]) (m0 := (7, [])) (by intro C h; cases h) rfl rfl (by decide +kernel)
/-- X5_is -/
def hb_K60_486 : sy_Co := (60, ([(0, 195)], 0, [], []), [.inr (.inl 201), .inr (.inl 12), .inl (0, [(0, 1)])], [], 4, [(([(0, 195), (0, 1)], 0, [], []), some (.inl (0, [(1, 1)])))])
set_option maxRecDepth 100000 in
theorem hb_K60_486_ok : sy_Met hb_cl hb_lt hb_P hb_A (0, 0) hb_K60_486 := sy_met2 360 (Cs := []) (cuts := [(0, hb_K60_486.2.1, sy_args 0 hb_K60_486.2.2.1, (7, [])), (2, ([(0, 195), (0, 5)], 0, [], []), [(0, .inr (.inl 201)), (1, .inr (.inl 12)), (2, .inl (0, [(0, 1)])), (3, .inl (0, [(1, 1)]))], (6, [(1, (-1))]))]) (m0 := (7, [])) (by intro C h; cases h) rfl rfl (by decide +kernel)
/-- X5_is -/
def hb_K60_487 : sy_Co := (60, ([(0, 195)], 0, [], []), [.inr (.inl 201), .inr (.inl 13), .inl (0, [(0, 1)])], [], 4, [(([(0, 195), (0, 1)], 0, [], []), some (.inl (0, [(1, 1)])))])
set_option maxRecDepth 100000 in
theorem hb_K60_487_ok : sy_Met hb_cl hb_lt hb_P hb_A (0, 0) hb_K60_487 := sy_met2 360 (Cs := []) (cuts := [(0, hb_K60_487.2.1, sy_args 0 hb_K60_487.2.2.1, (7, [])), (2, ([(0, 195), (0, 5)], 0, [], []), [(0, .inr (.inl 201)), (1, .inr (.inl 13)), (2, .inl (0, [(0, 1)])), (3, .inl (0, [(1, 1)]))], (6, [(1, (-1))]))]) (m0 := (7, [])) (by intro C h; cases h) rfl rfl (by decide +kernel)
/-- X5_is -/
def hb_K60_488 : sy_Co := (60, ([(0, 195)], 0, [], []), [.inr (.inl 201), .inr (.inl 14), .inl (0, [(0, 1)])], [], 4, [(([(0, 195), (0, 1)], 0, [], []), some (.inl (0, [(1, 1)])))])
set_option maxRecDepth 100000 in
theorem hb_K60_488_ok : sy_Met hb_cl hb_lt hb_P hb_A (0, 0) hb_K60_488 := sy_met2 360 (Cs := []) (cuts := [(0, hb_K60_488.2.1, sy_args 0 hb_K60_488.2.2.1, (7, [])), (2, ([(0, 195), (0, 5)], 0, [], []), [(0, .inr (.inl 201)), (1, .inr (.inl 14)), (2, .inl (0, [(0, 1)])), (3, .inl (0, [(1, 1)]))], (6, [(1, (-1))]))]) (m0 := (7, [])) (by intro C h; cases h) rfl rfl (by decide +kernel)
/-- X5_is -/
def hb_K60_489 : sy_Co := (60, ([(0, 194)], 0, [], []), [.inr (.inl 201), .inr (.inl 15), .inl (0, [(0, 1)])], [], 4, [(([(0, 194), (0, 1)], 0, [], []), some (.inl (0, [(1, 1)])))])
set_option maxRecDepth 100000 in
theorem hb_K60_489_ok : sy_Met hb_cl hb_lt hb_P hb_A (0, 0) hb_K60_489 := sy_met2 360 (Cs := []) (cuts := [(0, hb_K60_489.2.1, sy_args 0 hb_K60_489.2.2.1, (8, [])), (2, ([(0, 194), (0, 6)], 0, [], []), [(0, .inr (.inl 201)), (1, .inr (.inl 15)), (2, .inl (0, [(0, 1)])), (3, .inl (0, [(1, 1)]))], (7, [(1, (-1))]))]) (m0 := (8, [])) (by intro C h; cases h) rfl rfl (by decide +kernel)
/-- X5_is -/
def hb_K60_490 : sy_Co := (60, ([(0, 192)], 0, [], []), [.inr (.inl 201), .inr (.inl 16), .inl (0, [(0, 1)])], [], 4, [(([(0, 192), (0, 1)], 0, [], []), some (.inl (0, [(1, 1)])))])
set_option maxRecDepth 100000 in
theorem hb_K60_490_ok : sy_Met hb_cl hb_lt hb_P hb_A (0, 0) hb_K60_490 := sy_met2 360 (Cs := []) (cuts := [(0, hb_K60_490.2.1, sy_args 0 hb_K60_490.2.2.1, (10, [])), (2, ([(0, 192), (0, 8)], 0, [], []), [(0, .inr (.inl 201)), (1, .inr (.inl 16)), (2, .inl (0, [(0, 1)])), (3, .inl (0, [(1, 1)]))], (9, [(1, (-1))]))]) (m0 := (10, [])) (by intro C h; cases h) rfl rfl (by decide +kernel)

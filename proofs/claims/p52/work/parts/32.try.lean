/-! SMALL CONTRACTS -/
def hb_C173 : sy_Co := (173, ([sy_full, sy_full, sy_full], 0, [], []), [.inl (sy_x 0), .inl (sy_x 1), .inl (sy_x 2)], [], 0, [(([sy_full, sy_full, sy_full, (0, 1)], 0, [], []), some (.inl (sy_x 3)))])
set_option maxRecDepth 100000 in
theorem hb_C173_ok : sy_Met hb_cl hb_lt hb_P [] (0, 0) hb_C173 := sy_met2 1000 (Cs := []) (cuts := [(0, hb_C173.2.1, sy_args 0 hb_C173.2.2.1, sy_c 0)]) (m0 := sy_c 0) (by intro C h; cases h) rfl rfl (by decide +kernel)
def hb_C200 : sy_Co := (200, ([(0, 1073741823)], 0, [], []), [.inl (sy_x 0)], [], 0, [(([(0, 1073741823), (0, 30)], 0, [], []), some (.inl (sy_x 1)))])
set_option maxRecDepth 100000 in
theorem hb_C200_ok : sy_Met hb_cl hb_lt hb_P [] (0, 0) hb_C200 := sy_met2 1000 (Cs := []) (cuts := [(0, hb_C200.2.1, sy_args 0 hb_C200.2.2.1, sy_c 40), (4, ([(0, 1073741823), (0, 30), (0, 30)], 0, [(0, [(1, -1), (2, 1)])], []), [(0, .inl (sy_x 0)), (1, .inl (sy_x 1)), (2, .inl (sy_x 2))], (30, [(2, -1)]))]) (m0 := sy_c 40) (by intro C h; cases h) rfl rfl (by decide +kernel)

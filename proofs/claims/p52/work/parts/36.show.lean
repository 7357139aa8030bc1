/-! A CONTRACT PRINTED BY PROGRAM, AND ONE THAT USES IT -/
def hb_T200 : sy_Co := (200, ([(0, 1073741823)], 0, [], []), [.inl (0, [(0, 1)])], [], 0, [(([(0, 1073741823), (0, 30)], 0, [], []), some (.inl (0, [(1, 1)])))])
set_option maxRecDepth 100000 in
theorem hb_T200_ok : sy_Met hb_cl hb_lt hb_P hb_A0 (0, 0) hb_T200 := sy_met2 1000 (Cs := []) (cuts := [(0, hb_T200.2.1, sy_args 0 hb_T200.2.2.1, (40, [])), (4, ([(0, 1073741823), (0, 30), (0, 30)], 0, [(0, [(1, (-1)), (2, 1)])], []), [(0, .inl (0, [(0, 1)])), (1, .inl (0, [(1, 1)])), (2, .inl (0, [(2, 1)]))], (30, [(2, (-1))]))]) (m0 := (40, [])) (by intro C h; cases h) rfl rfl (by decide +kernel)


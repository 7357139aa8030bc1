/-! CONTRACTS, 37, 39 -/
/-- X12_act -/
def hb_K289_737 : sy_Co := (289, ([sy_full, sy_full, sy_full], 0, [], []), [.inr (.inl 215), .inl (0, [(0, 1)]), .inl (0, [(1, 1)]), .inl (0, [(2, 1)])], [(151, 47, 52), (178, 0, 30)], 7, [(([sy_full, sy_full, sy_full, sy_full], 0, [], []), some (.inl (0, [(3, 1)])))])
set_option maxRecDepth 100000 in
theorem hb_K289_737_ok : sy_Met hb_cl hb_lt hb_P hb_A (0, 0) hb_K289_737 := sy_met2 8292 (Cs := []) (cuts := [(0, hb_K289_737.2.1, sy_args 0 hb_K289_737.2.2.1, (1, []))]) (m0 := (1, [])) (by intro C h; cases h) rfl rfl (by decide +kernel)

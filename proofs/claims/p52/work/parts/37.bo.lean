/-! CONTRACTS, 41 -/
/-- X12_taken -/
def hb_K279_738 : sy_Co := (279, ([sy_full, sy_full], 0, [], []), [.inr (.inl 215), .inl (0, [(0, 1)]), .inl (0, [(1, 1)])], [(1099511627779, 0, 0)], 3, [(([sy_full, sy_full, ((-13), 40)], 0, [], []), some (.inl (0, [(2, 1)])))])
set_option maxRecDepth 100000 in
theorem hb_K279_738_ok : sy_Met hb_cl hb_lt hb_P hb_A (0, 0) hb_K279_738 := sy_met2 2058 (Cs := []) (cuts := [(0, hb_K279_738.2.1, sy_args 0 hb_K279_738.2.2.1, (1, []))]) (m0 := (1, [])) (by intro C h; cases h) rfl rfl (by decide +kernel)

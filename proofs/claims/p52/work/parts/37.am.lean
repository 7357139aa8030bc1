/-! CONTRACTS, 37, 13 -/
/-- X11_act -/
def hb_K168_549 : sy_Co := (168, ([sy_full, sy_full, sy_full], 0, [], []), [.inr (.inl 64), .inl (0, [(0, 1)]), .inl (0, [(1, 1)]), .inl (0, [(2, 1)])], [(149, 0, 1), (149, 2, 6), (150, 0, 30)], 7, [(([sy_full, sy_full, sy_full, sy_full], 0, [], []), some (.inl (0, [(3, 1)])))])
set_option maxRecDepth 100000 in
theorem hb_K168_549_ok : sy_Met hb_cl hb_lt hb_P hb_A (0, 0) hb_K168_549 := sy_met2 12866 (Cs := []) (cuts := [(0, hb_K168_549.2.1, sy_args 0 hb_K168_549.2.2.1, (1, []))]) (m0 := (1, [])) (by intro C h; cases h) rfl rfl (by decide +kernel)

noncomputable section
/-! CONTRACTS, 37, 12 -/
/-- X11_shelf -/
def hb_K166_547 : sy_Co := (166, ([sy_full, sy_full, sy_full], 0, [], []), [.inr (.inl 64), .inl (0, [(0, 1)]), .inl (0, [(1, 1)]), .inl (0, [(2, 1)])], [(144, 0, 4), (145, 0, 4), (146, 0, 4)], 1, [(([sy_full, sy_full, sy_full, ((-1), 1)], 0, [], []), some (.inl (0, [(3, 1)])))])
set_option maxRecDepth 100000 in
theorem hb_K166_547_ok : sy_Met hb_cl hb_lt hb_P hb_A (0, 0) hb_K166_547 := ty_met2 1200 hb_Gok hb_Hok hb_An_ok hb_hcl (Cs := []) (cuts := [(0, hb_K166_547.2.1, sy_args 0 hb_K166_547.2.2.1, (1, []))]) (m0 := (1, [])) (by intro C h; cases h) rfl rfl (by decide +kernel)
/-- X11_taken -/
def hb_K167_548 : sy_Co := (167, ([sy_full, sy_full], 0, [], []), [.inr (.inl 64), .inl (0, [(0, 1)]), .inl (0, [(1, 1)])], [], 2, [(([sy_full, sy_full, sy_full], 0, [], []), some (.inl (0, [(2, 1)])))])
set_option maxRecDepth 100000 in
theorem hb_K167_548_ok : sy_Met hb_cl hb_lt hb_P hb_A (0, 0) hb_K167_548 := ty_met2 2758 hb_Gok hb_Hok hb_An_ok hb_hcl (Cs := []) (cuts := [(0, hb_K167_548.2.1, sy_args 0 hb_K167_548.2.2.1, (1, []))]) (m0 := (1, [])) (by intro C h; cases h) rfl rfl (by decide +kernel)
/-- X0_fills -/
def hb_K5_549 : sy_Co := (5, ([sy_full], 0, [], []), [.inr (.inl 213), .inl (0, [(0, 1)])], [(149, 0, 1), (150, 0, 30)], 1, [(([sy_full, sy_full], 0, [], []), some (.inl (0, [(1, 1)])))])
set_option maxRecDepth 100000 in
theorem hb_K5_549_ok : sy_Met hb_cl hb_lt hb_P hb_A (0, 0) hb_K5_549 := ty_met2 766 hb_Gok hb_Hok hb_An_ok hb_hcl (Cs := []) (cuts := [(0, hb_K5_549.2.1, sy_args 0 hb_K5_549.2.2.1, (1, []))]) (m0 := (1, [])) (by intro C h; cases h) rfl rfl (by decide +kernel)

end

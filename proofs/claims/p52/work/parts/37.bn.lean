/-! CONTRACTS, 37, 40 -/
/-- X12_trace -/
def hb_K290_738 : sy_Co := (290, ([sy_full], 0, [], []), [.inr (.inl 215), .inl (0, [(0, 1)])], [], 1, [(([sy_full, sy_full], 0, [], []), some (.inl (0, [(1, 1)])))])
set_option maxRecDepth 100000 in
theorem hb_K290_738_ok : sy_Met hb_cl hb_lt hb_P hb_A (0, 0) hb_K290_738 := sy_met2 260 (Cs := []) (cuts := [(0, hb_K290_738.2.1, sy_args 0 hb_K290_738.2.2.1, (1, []))]) (m0 := (1, [])) (by intro C h; cases h) rfl rfl (by decide +kernel)
/-- X12_sumOf -/
def hb_K264_739 : sy_Co := (264, ([(8, 8)], 0, [], []), [.inr (.inl 215), .inl (24, []), .inl (0, [(0, 1)]), .inl (1, [])], [], 0, [(([(8, 8), sy_full], 0, [], []), some (.inl (0, [(1, 1)])))])
set_option maxRecDepth 100000 in
theorem hb_K264_739_ok : sy_Met hb_cl hb_lt hb_P hb_A (0, 0) hb_K264_739 := sy_met2 244 (Cs := []) (cuts := [(0, hb_K264_739.2.1, sy_args 0 hb_K264_739.2.2.1, (10, [])), (6, ([(8, 8), sy_full, (0, 8)], 0, [], []), [(0, .inr (.inl 215)), (1, .inl (24, [])), (2, .inl (8, [])), (3, .inl (1, [])), (4, .inl (0, [(1, 1)])), (5, .inl (0, [(2, 1)]))], (9, [(2, (-1))]))]) (m0 := (10, [])) (by intro C h; cases h) rfl rfl (by decide +kernel)
/-- X12_sumOf -/
def hb_K264_740 : sy_Co := (264, ([(0, 10)], 0, [], []), [.inr (.inl 215), .inl (176, []), .inl (0, [(0, 1)]), .inl (4, [])], [], 0, [(([(0, 10), sy_full], 0, [], []), some (.inl (0, [(1, 1)])))])
set_option maxRecDepth 100000 in
theorem hb_K264_740_ok : sy_Met hb_cl hb_lt hb_P hb_A (0, 0) hb_K264_740 := sy_met2 244 (Cs := []) (cuts := [(0, hb_K264_740.2.1, sy_args 0 hb_K264_740.2.2.1, (12, [])), (6, ([(0, 10), sy_full, (0, 10)], 0, [], []), [(0, .inr (.inl 215)), (1, .inl (176, [])), (2, .inl (0, [(0, 1)])), (3, .inl (4, [])), (4, .inl (0, [(1, 1)])), (5, .inl (0, [(2, 1)]))], (11, [(2, (-1))]))]) (m0 := (12, [])) (by intro C h; cases h) rfl rfl (by decide +kernel)
/-- X12_many -/
def hb_K291_741 : sy_Co := (291, ([sy_full], 0, [], []), [.inr (.inl 215), .inl (0, [(0, 1)])], [], 1, [(([sy_full, sy_full], 0, [], []), some (.inl (0, [(1, 1)])))])
set_option maxRecDepth 100000 in
theorem hb_K291_741_ok : sy_Met hb_cl hb_lt hb_P hb_A (0, 0) hb_K291_741 := sy_met2 414 (Cs := [hb_K264_739, hb_K264_740]) (cuts := [(0, hb_K291_741.2.1, sy_args 0 hb_K291_741.2.2.1, (1, []))]) (m0 := (1, [])) (by
  intro C h
  simp only [List.mem_cons, List.not_mem_nil, or_false] at h
  rcases h with rfl | rfl
  · exact hb_K264_739_ok
  · exact hb_K264_740_ok) rfl rfl (by decide +kernel)

/-! CONTRACTS, 37, 38 -/
/-- X12_must -/
def hb_K267_733 : sy_Co := (267, ([sy_full, sy_full], 0, [], []), [.inr (.inl 215), .inl (0, [(0, 1)]), .inl (0, [(1, 1)])], [(151, 24, 33), (151, 35, 38), (151, 39, 40), (169, 0, 3), (170, 0, 8), (171, 0, 3)], 22, [(([sy_full, sy_full, ((-1), 1)], 0, [], []), some (.inl (0, [(2, 1)])))])
set_option maxRecDepth 100000 in
theorem hb_K267_733_ok : sy_Met hb_cl hb_lt hb_P hb_A (0, 0) hb_K267_733 := sy_met2 1066 (Cs := [hb_K234_671, hb_K263_728]) (cuts := [(0, hb_K267_733.2.1, sy_args 0 hb_K267_733.2.2.1, (1, []))]) (m0 := (1, [])) (by
  intro C h
  simp only [List.mem_cons, List.not_mem_nil, or_false] at h
  rcases h with rfl | rfl
  · exact hb_K234_671_ok
  · exact hb_K263_728_ok) rfl rfl (by decide +kernel)
/-- X12_leg -/
def hb_K268_734 : sy_Co := (268, ([sy_full, sy_full], 0, [], []), [.inr (.inl 215), .inl (0, [(0, 1)]), .inl (0, [(1, 1)])], [(152, 11, 12), (152, 354, 368)], 1, [(([sy_full, sy_full, ((-2), 7)], 0, [], []), some (.inl (0, [(2, 1)])))])
set_option maxRecDepth 100000 in
theorem hb_K268_734_ok : sy_Met hb_cl hb_lt hb_P hb_A (0, 0) hb_K268_734 := sy_met2 378 (Cs := []) (cuts := [(0, hb_K268_734.2.1, sy_args 0 hb_K268_734.2.2.1, (1, []))]) (m0 := (1, [])) (by intro C h; cases h) rfl rfl (by decide +kernel)
/-- X12_run -/
def hb_K269_735 : sy_Co := (269, ([sy_full, sy_full], 0, [], []), [.inr (.inl 215), .inl (0, [(0, 1)]), .inl (0, [(1, 1)])], [], 1, [(([sy_full, sy_full, sy_full], 0, [], []), some (.inl (0, [(2, 1)])))])
set_option maxRecDepth 100000 in
theorem hb_K269_735_ok : sy_Met hb_cl hb_lt hb_P hb_A (0, 0) hb_K269_735 := sy_met2 738 (Cs := []) (cuts := [(0, hb_K269_735.2.1, sy_args 0 hb_K269_735.2.2.1, (19327352841, [])), (39, ([(0, 9999), ((-2), 6), (0, 7), sy_full, (0, 7)], 0, [], []), [(0, .inr (.inl 215)), (1, .inl (0, [(0, 1)])), (2, .inl (0, [(1, 1)])), (3, .inl (0, [(2, 1)])), (4, .inl (0, [(3, 1)])), (5, .inl (0, [(4, 1)]))], (19327352840, [(4, (-1))])), (69, ([(0, 9999), ((-2), 6), (0, 7), sy_full, ((-1), 2147483646), sy_full, ((-2147483648), 9999), (0, 2147483647)], 0, [], []), [(0, .inr (.inl 215)), (1, .inl (0, [(0, 1)])), (2, .inl (0, [(1, 1)])), (3, .inl (0, [(2, 1)])), (4, .inl (0, [(3, 1)])), (5, .inl (0, [(4, 1)])), (6, .inl (0, [(5, 1)])), (7, .inl (0, [(6, 1)])), (8, .inl (0, [(7, 1)]))], (19327352832, [(7, (-9))])), (85, ([(0, 9999), ((-2), 6), (0, 7), (1, 2147483647), ((-1), 2147483646), sy_full, ((-2147483648), 9999), (0, 2147483646), sy_full, sy_full, (0, 7)], 0, [], []), [(0, .inr (.inl 215)), (1, .inl (0, [(0, 1)])), (2, .inl (0, [(1, 1)])), (3, .inl (0, [(2, 1)])), (4, .inl (0, [(3, 1)])), (5, .inl (0, [(4, 1)])), (6, .inl (0, [(5, 1)])), (7, .inl (0, [(6, 1)])), (8, .inl (0, [(7, 1)])), (9, .inl (0, [(8, 1)])), (10, .inl (0, [(9, 1)])), (11, .inl (0, [(10, 1)]))], (19327352831, [(7, (-9)), (10, (-1))]))]) (m0 := (19327352841, [])) (by intro C h; cases h) rfl rfl (by decide +kernel)
/-- X12_put -/
def hb_K274_737 : sy_Co := (274, ([sy_full, sy_full, sy_full], 0, [], []), [.inr (.inl 215), .inl (0, [(0, 1)]), .inl (0, [(1, 1)]), .inl (0, [(2, 1)])], [(175, 0, 320)], 2, [(([sy_full, sy_full, sy_full, ((-12), 1)], 0, [], []), some (.inl (0, [(3, 1)])))])
set_option maxRecDepth 100000 in
theorem hb_K274_737_ok : sy_Met hb_cl hb_lt hb_P hb_A (0, 0) hb_K274_737 := sy_met2 418 (Cs := []) (cuts := [(0, hb_K274_737.2.1, sy_args 0 hb_K274_737.2.2.1, (1, []))]) (m0 := (1, [])) (by intro C h; cases h) rfl rfl (by decide +kernel)
/-- X12_item -/
def hb_K275_738 : sy_Co := (275, ([sy_full, sy_full, sy_full], 0, [], []), [.inr (.inl 215), .inl (0, [(0, 1)]), .inl (0, [(1, 1)]), .inl (0, [(2, 1)])], [], 2, [(([sy_full, sy_full, sy_full, sy_full], 0, [], []), some (.inl (0, [(3, 1)])))])
set_option maxRecDepth 100000 in
theorem hb_K275_738_ok : sy_Met hb_cl hb_lt hb_P hb_A (0, 0) hb_K275_738 := sy_met2 408 (Cs := []) (cuts := [(0, hb_K275_738.2.1, sy_args 0 hb_K275_738.2.2.1, (1, []))]) (m0 := (1, [])) (by intro C h; cases h) rfl rfl (by decide +kernel)
/-- X12_sound -/
def hb_K276_739 : sy_Co := (276, ([sy_full, sy_full, sy_full, sy_full, sy_full], 0, [], []), [.inr (.inl 215), .inl (0, [(0, 1)]), .inl (0, [(1, 1)]), .inl (0, [(2, 1)]), .inl (0, [(3, 1)]), .inl (0, [(4, 1)])], [(152, 2, 3), (152, 64, 128)], 3, [(([sy_full, sy_full, sy_full, sy_full, sy_full, sy_full], 0, [], []), some (.inl (0, [(5, 1)])))])
set_option maxRecDepth 100000 in
theorem hb_K276_739_ok : sy_Met hb_cl hb_lt hb_P hb_A (0, 0) hb_K276_739 := sy_met2 666 (Cs := [hb_K199_570]) (cuts := [(0, hb_K276_739.2.1, sy_args 0 hb_K276_739.2.2.1, (11, [])), (77, ([(0, 7), (0, 60), (0, 3), sy_full, (0, 9), (0, 7)], 0, [], []), [(0, .inr (.inl 215)), (1, .inl (0, [(0, 1)])), (2, .inl (0, [(1, 1)])), (3, .inl (0, [(2, 1)])), (4, .inl (0, [(3, 1)])), (5, .inl (0, [(4, 1)])), (6, .inl (0, [(5, 1)])), (7, .inl (0, [])), (8, .inl (0, []))], (10, [])), (77, ([(0, 7), (0, 60), (0, 3), (0, 39), (1, 9), (0, 7), (1, 9), sy_full, ((-1), 15), sy_full], 0, [], []), [(0, .inr (.inl 215)), (1, .inl (0, [(0, 1)])), (2, .inl (0, [(1, 1)])), (3, .inl (0, [(2, 1)])), (4, .inl (0, [(3, 1)])), (5, .inl (0, [(4, 1)])), (6, .inl (0, [(5, 1)])), (7, .inl (0, [(9, 1)])), (8, .inl (0, [(6, 1)])), (9, .inl (0, [(7, 1)])), (10, .inl (0, [(8, 1)]))], (10, [(6, (-1))]))]) (m0 := (11, [])) (by
  intro C h
  simp only [List.mem_cons, List.not_mem_nil, or_false] at h
  rcases h with rfl
  · exact hb_K199_570_ok) rfl rfl (by decide +kernel)
/-- X12_taken -/
def hb_K279_740 : sy_Co := (279, ([sy_full, sy_full], 0, [], []), [.inr (.inl 215), .inl (0, [(0, 1)]), .inl (0, [(1, 1)])], [(1099511627779, 0, 0)], 3, [(([sy_full, sy_full, ((-13), 40)], 0, [], []), some (.inl (0, [(2, 1)])))])
set_option maxRecDepth 100000 in
theorem hb_K279_740_ok : sy_Met hb_cl hb_lt hb_P hb_A (0, 0) hb_K279_740 := sy_met2 2058 (Cs := []) (cuts := [(0, hb_K279_740.2.1, sy_args 0 hb_K279_740.2.2.1, (1, []))]) (m0 := (1, [])) (by intro C h; cases h) rfl rfl (by decide +kernel)
/-- X12_fills -/
def hb_K282_741 : sy_Co := (282, ([sy_full], 0, [], []), [.inr (.inl 215), .inl (0, [(0, 1)])], [(151, 47, 48), (178, 0, 30)], 2, [(([sy_full, sy_full], 0, [], []), some (.inl (0, [(1, 1)])))])
set_option maxRecDepth 100000 in
theorem hb_K282_741_ok : sy_Met hb_cl hb_lt hb_P hb_A (0, 0) hb_K282_741 := sy_met2 620 (Cs := []) (cuts := [(0, hb_K282_741.2.1, sy_args 0 hb_K282_741.2.2.1, (1, []))]) (m0 := (1, [])) (by intro C h; cases h) rfl rfl (by decide +kernel)

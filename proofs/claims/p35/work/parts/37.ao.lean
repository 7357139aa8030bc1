noncomputable section
/-! CONTRACTS, 37, 15 -/
/-- X12_findReach -/
def hb_K209_647 : sy_Co := (209, ([(0, 9)], 0, [], []), [.inr (.inl 215), .inl (0, [(0, 1)])], [(159, 0, 8)], 1, [(([(0, 9)], 0, [], []), none)])
set_option maxRecDepth 100000 in
theorem hb_K209_647_ok : sy_Met hb_cl hb_lt hb_P hb_A (0, 0) hb_K209_647 := ty_met2 1874 hb_Gok hb_Hok hb_An_ok hb_hcl (Cs := []) (cuts := [(0, hb_K209_647.2.1, sy_args 0 hb_K209_647.2.2.1, (136, [])), (2, ([(0, 9), (0, 8)], 0, [], []), [(0, .inr (.inl 215)), (1, .inl (0, [(0, 1)])), (2, .inl (0, [(1, 1)]))], (135, [(1, (-1))])), (59, ([(0, 9), (0, 8)], 0, [], []), [(0, .inr (.inl 215)), (1, .inl (0, [(0, 1)])), (2, .inl (0, [(1, 1)]))], (126, [(1, (-14))])), (67, ([(0, 9), (0, 7), (0, 12)], 0, [], []), [(0, .inr (.inl 215)), (1, .inl (0, [(0, 1)])), (2, .inl (0, [(1, 1)])), (3, .inl (0, [(2, 1)]))], (125, [(1, (-14)), (2, (-1))]))]) (m0 := (136, [])) (by intro C h; cases h) rfl rfl (by decide +kernel)
/-- X12_reach -/
def hb_K211_648 : sy_Co := (211, ([sy_full, sy_full], 0, [], []), [.inr (.inl 215), .inl (0, [(0, 1)]), .inl (0, [(1, 1)])], [(159, 0, 8)], 2, [(([sy_full, sy_full, sy_full], 0, [], []), some (.inl (0, [(2, 1)])))])
set_option maxRecDepth 100000 in
theorem hb_K211_648_ok : sy_Met hb_cl hb_lt hb_P hb_A (0, 0) hb_K211_648 := ty_met2 350 hb_Gok hb_Hok hb_An_ok hb_hcl (Cs := [hb_K209_647]) (cuts := [(0, hb_K211_648.2.1, sy_args 0 hb_K211_648.2.2.1, (1, []))]) (m0 := (1, [])) (by
  intro C h
  simp only [List.mem_cons, List.not_mem_nil, or_false] at h
  rcases h with rfl
  · exact hb_K209_647_ok) rfl rfl (by decide +kernel)
/-- X12_boat -/
def hb_K212_649 : sy_Co := (212, ([sy_full, sy_full, sy_full, sy_full], 0, [], []), [.inr (.inl 215), .inl (0, [(0, 1)]), .inl (0, [(1, 1)]), .inl (0, [(2, 1)]), .inl (0, [(3, 1)])], [(152, 5, 6), (152, 216, 248)], 2, [(([sy_full, sy_full, sy_full, sy_full, ((-2), 7)], 0, [], []), some (.inl (0, [(4, 1)])))])
set_option maxRecDepth 100000 in
theorem hb_K212_649_ok : sy_Met hb_cl hb_lt hb_P hb_A (0, 0) hb_K212_649 := ty_met2 508 hb_Gok hb_Hok hb_An_ok hb_hcl (Cs := []) (cuts := [(0, hb_K212_649.2.1, sy_args 0 hb_K212_649.2.2.1, (1, []))]) (m0 := (1, [])) (by intro C h; cases h) rfl rfl (by decide +kernel)
/-- X12_layBoats -/
def hb_K214_650 : sy_Co := (214, ([], 0, [], []), [.inr (.inl 215)], [(160, 0, 8)], 0, [(([], 0, [], []), none)])
set_option maxRecDepth 100000 in
theorem hb_K214_650_ok : sy_Met hb_cl hb_lt hb_P hb_A (0, 0) hb_K214_650 := ty_met2 248 hb_Gok hb_Hok hb_An_ok hb_hcl (Cs := []) (cuts := [(0, hb_K214_650.2.1, sy_args 0 hb_K214_650.2.2.1, (10, [])), (2, ([(0, 8)], 0, [], []), [(0, .inr (.inl 215)), (1, .inl (0, [(0, 1)]))], (9, [(0, (-1))]))]) (m0 := (10, [])) (by intro C h; cases h) rfl rfl (by decide +kernel)
/-- X12_findCan -/
def hb_K215_651 : sy_Co := (215, ([], 0, [], []), [.inr (.inl 215)], [(159, 0, 8), (161, 0, 10), (162, 0, 10), (163, 0, 8)], 2, [(([], 0, [], []), none)])
set_option maxRecDepth 100000 in
theorem hb_K215_651_ok : sy_Met hb_cl hb_lt hb_P hb_A (0, 0) hb_K215_651 := ty_met2 560 hb_Gok hb_Hok hb_An_ok hb_hcl (Cs := [hb_K209_647]) (cuts := [(0, hb_K215_651.2.1, sy_args 0 hb_K215_651.2.2.1, (120, [])), (2, ([(0, 10)], 0, [], []), [(0, .inr (.inl 215)), (1, .inl (0, [(0, 1)]))], (119, [(0, (-10))])), (44, ([(0, 9), (0, 8), (1, 10)], 0, [], [(152, (4, []), .inl (0, [(2, 1)]))]), [(0, .inr (.inl 215)), (1, .inl (0, [(0, 1)])), (2, .inl (0, [(1, 1)]))], (118, [(0, (-10)), (1, (-1))])), (158, ([(0, 8)], 0, [], []), [(0, .inr (.inl 215)), (1, .inl (0, [(0, 1)]))], (9, [(0, (-1))]))]) (m0 := (120, [])) (by
  intro C h
  simp only [List.mem_cons, List.not_mem_nil, or_false] at h
  rcases h with rfl
  · exact hb_K209_647_ok) rfl rfl (by decide +kernel)
/-- X12_can -/
def hb_K216_652 : sy_Co := (216, ([sy_full], 0, [], []), [.inr (.inl 215), .inl (0, [(0, 1)])], [(159, 0, 8), (160, 0, 8), (161, 0, 10), (162, 0, 10), (163, 0, 8)], 3, [(([sy_full, sy_full], 0, [], []), some (.inl (0, [(1, 1)])))])
set_option maxRecDepth 100000 in
theorem hb_K216_652_ok : sy_Met hb_cl hb_lt hb_P hb_A (0, 0) hb_K216_652 := ty_met2 282 hb_Gok hb_Hok hb_An_ok hb_hcl (Cs := [hb_K214_650, hb_K215_651]) (cuts := [(0, hb_K216_652.2.1, sy_args 0 hb_K216_652.2.2.1, (1, []))]) (m0 := (1, [])) (by
  intro C h
  simp only [List.mem_cons, List.not_mem_nil, or_false] at h
  rcases h with rfl | rfl
  · exact hb_K214_650_ok
  · exact hb_K215_651_ok) rfl rfl (by decide +kernel)
/-- X12_mostOf -/
def hb_K217_653 : sy_Co := (217, ([], 0, [], []), [.inr (.inl 215)], [], 0, [(([((-2147483648), 1000000)], 0, [], []), some (.inl (0, [(0, 1)])))])
set_option maxRecDepth 100000 in
theorem hb_K217_653_ok : sy_Met hb_cl hb_lt hb_P hb_A (0, 0) hb_K217_653 := ty_met2 434 hb_Gok hb_Hok hb_An_ok hb_hcl (Cs := []) (cuts := [(0, hb_K217_653.2.1, sy_args 0 hb_K217_653.2.2.1, (33202, [])), (5, ([((-2147483648), 1000000), (0, 1580)], 0, [], []), [(0, .inr (.inl 215)), (1, .inl (0, [(0, 1)])), (2, .inl (0, [(1, 1)]))], (33201, [(1, (-21))])), (25, ([((-2147483648), 1000000), (0, 1579), sy_full, sy_full, (0, 10)], 0, [], []), [(0, .inr (.inl 215)), (1, .inl (0, [(0, 1)])), (2, .inl (0, [(1, 1)])), (3, .inl (0, [(2, 1)])), (4, .inl (0, [(3, 1)])), (5, .inl (0, [(4, 1)]))], (33200, [(1, (-21)), (4, (-1))])), (102, ([((-2147483648), 1000000), (0, 1579), sy_full, sy_full, (0, 8)], 0, [], []), [(0, .inr (.inl 215)), (1, .inl (0, [(0, 1)])), (2, .inl (0, [(1, 1)])), (3, .inl (0, [(2, 1)])), (4, .inl (0, [(3, 1)])), (5, .inl (0, [(4, 1)]))], (33189, [(1, (-21)), (4, (-1))]))]) (m0 := (33202, [])) (by intro C h; cases h) rfl rfl (by decide +kernel)
/-- X12_most -/
def hb_K218_654 : sy_Co := (218, ([], 0, [], []), [.inr (.inl 215)], [(159, 0, 8), (160, 0, 8), (161, 0, 10), (162, 0, 10), (163, 0, 8)], 3, [(([((-2147483648), 1000000)], 0, [], []), some (.inl (0, [(0, 1)])))])
set_option maxRecDepth 100000 in
theorem hb_K218_654_ok : sy_Met hb_cl hb_lt hb_P hb_A (0, 0) hb_K218_654 := ty_met2 212 hb_Gok hb_Hok hb_An_ok hb_hcl (Cs := [hb_K214_650, hb_K215_651, hb_K217_653]) (cuts := [(0, hb_K218_654.2.1, sy_args 0 hb_K218_654.2.2.1, (1, []))]) (m0 := (1, [])) (by
  intro C h
  simp only [List.mem_cons, List.not_mem_nil, or_false] at h
  rcases h with rfl | rfl | rfl
  · exact hb_K214_650_ok
  · exact hb_K215_651_ok
  · exact hb_K217_653_ok) rfl rfl (by decide +kernel)
/-- X12_mostIn -/
def hb_K219_655 : sy_Co := (219, ([(0, 9), (0, 7), sy_full], 0, [], []), [.inr (.inl 215), .inl (0, [(0, 1)]), .inl (0, [(1, 1)]), .inl (0, [(2, 1)])], [(162, 0, 10), (163, 0, 8)], 1, [(([(0, 9), (0, 7), sy_full, (0, 50), ((-50), 50), ((-65), 65)], 0, [(50, [(3, (-1)), (4, 1)]), (65, [(3, (-1)), (5, 1)])], [(162, (0, [(0, 1)]), .inl (0, [(4, 1)])), (163, (0, [(1, 1)]), .inl (0, [(5, 1)]))]), some (.inl (0, [(3, 1)])))])
set_option maxRecDepth 100000 in
theorem hb_K219_655_ok : sy_Met hb_cl hb_lt hb_P hb_A (0, 0) hb_K219_655 := ty_met2 616 hb_Gok hb_Hok hb_An_ok hb_hcl (Cs := [hb_K217_653]) (cuts := [(0, hb_K219_655.2.1, sy_args 0 hb_K219_655.2.2.1, (172, [])), (35, ([(0, 9), (0, 7), sy_full, ((-65), 50), ((-50), 50), ((-65), 65)], 0, [(0, [(3, (-1)), (4, 1)]), (0, [(3, (-1)), (5, 1)])], [(162, (0, [(0, 1)]), .inl (0, [(4, 1)])), (163, (0, [(1, 1)]), .inl (0, [(5, 1)]))]), [(0, .inr (.inl 215)), (1, .inl (0, [(0, 1)])), (2, .inl (0, [(1, 1)])), (3, .inl (0, [(2, 1)])), (4, .inl (0, [])), (5, .inl (0, [(3, 1)]))], (121, [(3, 1)])), (35, ([(0, 9), (0, 7), ((-2147483647), 1000025), (1, 50), (0, 1), (1, 50), (1, 50), (1, 50), (1, 65)], 0, [(0, [(6, (-1)), (7, 1)]), (0, [(6, (-1)), (8, 1)]), (0, [(5, (-1)), (6, 1)])], [(162, (0, [(0, 1)]), .inl (0, [(7, 1)])), (163, (0, [(1, 1)]), .inl (0, [(8, 1)]))]), [(0, .inr (.inl 215)), (1, .inl (0, [(0, 1)])), (2, .inl (0, [(1, 1)])), (3, .inl (0, [(2, 1)])), (4, .inl (0, [(5, 1)])), (5, .inl (0, [(6, 1)])), (6, .inl (0, [(3, 1)])), (7, .inl (0, [(4, 1)]))], (1, [(5, (-1)), (6, 1)]))]) (m0 := (172, [])) (by
  intro C h
  simp only [List.mem_cons, List.not_mem_nil, or_false] at h
  rcases h with rfl
  · exact hb_K217_653_ok) rfl rfl (by decide +kernel)
/-- X12_seat -/
def hb_K220_656 : sy_Co := (220, ([], 0, [], []), [.inr (.inl 215)], [(151, 19, 20), (159, 0, 8), (160, 0, 8), (161, 0, 10), (162, 0, 10), (163, 0, 8), (164, 0, 240)], 3, [(([(0, 80)], 0, [], []), some (.inl (0, [(0, 1)])))])
set_option maxRecDepth 100000 in
theorem hb_K220_656_ok : sy_Met hb_cl hb_lt hb_P hb_A (0, 0) hb_K220_656 := ty_met2 520 hb_Gok hb_Hok hb_An_ok hb_hcl (Cs := [hb_K214_650, hb_K215_651, hb_K217_653, hb_K219_655]) (cuts := [(0, hb_K220_656.2.1, sy_args 0 hb_K220_656.2.2.1, (111, [])), (20, ([sy_full, (0, 10), (0, 80)], 0, [(0, [(1, 8), (2, (-1))])], [(151, (19, []), .inl (0, [(2, 1)]))]), [(0, .inr (.inl 215)), (1, .inl (0, [(0, 1)])), (2, .inl (0, [(1, 1)]))], (110, [(1, (-10))])), (32, ([sy_full, (0, 9), (0, 8), (0, 80), (1, 10)], 0, [(0, [(1, 8), (2, 1), (3, (-1))])], [(151, (19, []), .inl (0, [(3, 1)])), (152, (4, []), .inl (0, [(4, 1)]))]), [(0, .inr (.inl 215)), (1, .inl (0, [(0, 1)])), (2, .inl (0, [(1, 1)])), (3, .inl (0, [(2, 1)]))], (109, [(1, (-10)), (2, (-1))]))]) (m0 := (111, [])) (by
  intro C h
  simp only [List.mem_cons, List.not_mem_nil, or_false] at h
  rcases h with rfl | rfl | rfl | rfl
  · exact hb_K214_650_ok
  · exact hb_K215_651_ok
  · exact hb_K217_653_ok
  · exact hb_K219_655_ok) rfl rfl (by decide +kernel)
/-- X12_row -/
def hb_K222_657 : sy_Co := (222, ([sy_full, sy_full], 0, [], []), [.inr (.inl 215), .inl (0, [(0, 1)]), .inl (0, [(1, 1)])], [], 2, [(([sy_full, sy_full, sy_full], 0, [], []), some (.inl (0, [(2, 1)])))])
set_option maxRecDepth 100000 in
theorem hb_K222_657_ok : sy_Met hb_cl hb_lt hb_P hb_A (0, 0) hb_K222_657 := ty_met2 352 hb_Gok hb_Hok hb_An_ok hb_hcl (Cs := []) (cuts := [(0, hb_K222_657.2.1, sy_args 0 hb_K222_657.2.2.1, (1, []))]) (m0 := (1, [])) (by intro C h; cases h) rfl rfl (by decide +kernel)
/-- X12_alterRow -/
def hb_K223_658 : sy_Co := (223, ([sy_full, sy_full, sy_full], 0, [], []), [.inr (.inl 215), .inl (0, [(0, 1)]), .inl (0, [(1, 1)]), .inl (0, [(2, 1)])], [(164, 0, 240)], 2, [(([sy_full, sy_full, sy_full, sy_full], 0, [], []), some (.inl (0, [(3, 1)])))])
set_option maxRecDepth 100000 in
theorem hb_K223_658_ok : sy_Met hb_cl hb_lt hb_P hb_A (0, 0) hb_K223_658 := ty_met2 372 hb_Gok hb_Hok hb_An_ok hb_hcl (Cs := []) (cuts := [(0, hb_K223_658.2.1, sy_args 0 hb_K223_658.2.2.1, (1, []))]) (m0 := (1, [])) (by intro C h; cases h) rfl rfl (by decide +kernel)

end

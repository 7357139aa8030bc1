/-! CONTRACTS, 17 -/
/-- X12_findReach -/
def hb_K209_632 : sy_Co := (209, ([(0, 9)], 0, [], []), [.inr (.inl 215), .inl (0, [(0, 1)])], [(159, 0, 8)], 1, [(([(0, 9)], 0, [], []), none)])
set_option maxRecDepth 100000 in
theorem hb_K209_632_ok : sy_Met hb_cl hb_lt hb_P hb_A (0, 0) hb_K209_632 := sy_met2 1874 (Cs := []) (cuts := [(0, hb_K209_632.2.1, sy_args 0 hb_K209_632.2.2.1, (136, [])), (2, ([(0, 9), (0, 8)], 0, [], []), [(0, .inr (.inl 215)), (1, .inl (0, [(0, 1)])), (2, .inl (0, [(1, 1)]))], (135, [(1, (-1))])), (59, ([(0, 9), (0, 8)], 0, [], []), [(0, .inr (.inl 215)), (1, .inl (0, [(0, 1)])), (2, .inl (0, [(1, 1)]))], (126, [(1, (-14))])), (67, ([(0, 9), (0, 7), (0, 12)], 0, [], []), [(0, .inr (.inl 215)), (1, .inl (0, [(0, 1)])), (2, .inl (0, [(1, 1)])), (3, .inl (0, [(2, 1)]))], (125, [(1, (-14)), (2, (-1))]))]) (m0 := (136, [])) (by intro C h; cases h) rfl rfl (by decide +kernel)
/-- X12_reach -/
def hb_K211_633 : sy_Co := (211, ([sy_full, sy_full], 0, [], []), [.inr (.inl 215), .inl (0, [(0, 1)]), .inl (0, [(1, 1)])], [(159, 0, 8)], 2, [(([sy_full, sy_full, sy_full], 0, [], []), some (.inl (0, [(2, 1)])))])
set_option maxRecDepth 100000 in
theorem hb_K211_633_ok : sy_Met hb_cl hb_lt hb_P hb_A (0, 0) hb_K211_633 := sy_met2 350 (Cs := [hb_K209_632]) (cuts := [(0, hb_K211_633.2.1, sy_args 0 hb_K211_633.2.2.1, (1, []))]) (m0 := (1, [])) (by
  intro C h
  simp only [List.mem_cons, List.not_mem_nil, or_false] at h
  rcases h with rfl
  · exact hb_K209_632_ok) rfl rfl (by decide +kernel)
/-- X12_boat -/
def hb_K212_634 : sy_Co := (212, ([sy_full, sy_full, sy_full, sy_full], 0, [], []), [.inr (.inl 215), .inl (0, [(0, 1)]), .inl (0, [(1, 1)]), .inl (0, [(2, 1)]), .inl (0, [(3, 1)])], [(152, 5, 6), (152, 216, 248)], 2, [(([sy_full, sy_full, sy_full, sy_full, ((-2), 7)], 0, [], []), some (.inl (0, [(4, 1)])))])
set_option maxRecDepth 100000 in
theorem hb_K212_634_ok : sy_Met hb_cl hb_lt hb_P hb_A (0, 0) hb_K212_634 := sy_met2 508 (Cs := []) (cuts := [(0, hb_K212_634.2.1, sy_args 0 hb_K212_634.2.2.1, (1, []))]) (m0 := (1, [])) (by intro C h; cases h) rfl rfl (by decide +kernel)
/-- X12_layBoats -/
def hb_K214_635 : sy_Co := (214, ([], 0, [], []), [.inr (.inl 215)], [(160, 0, 8)], 0, [(([], 0, [], []), none)])
set_option maxRecDepth 100000 in
theorem hb_K214_635_ok : sy_Met hb_cl hb_lt hb_P hb_A (0, 0) hb_K214_635 := sy_met2 248 (Cs := []) (cuts := [(0, hb_K214_635.2.1, sy_args 0 hb_K214_635.2.2.1, (10, [])), (2, ([(0, 8)], 0, [], []), [(0, .inr (.inl 215)), (1, .inl (0, [(0, 1)]))], (9, [(0, (-1))]))]) (m0 := (10, [])) (by intro C h; cases h) rfl rfl (by decide +kernel)
/-- X12_findCan -/
def hb_K215_636 : sy_Co := (215, ([], 0, [], []), [.inr (.inl 215)], [(159, 0, 8), (161, 0, 10), (162, 0, 10), (163, 0, 8)], 2, [(([], 0, [], []), none)])
set_option maxRecDepth 100000 in
theorem hb_K215_636_ok : sy_Met hb_cl hb_lt hb_P hb_A (0, 0) hb_K215_636 := sy_met2 560 (Cs := [hb_K209_632]) (cuts := [(0, hb_K215_636.2.1, sy_args 0 hb_K215_636.2.2.1, (120, [])), (2, ([(0, 10)], 0, [], []), [(0, .inr (.inl 215)), (1, .inl (0, [(0, 1)]))], (119, [(0, (-10))])), (44, ([(0, 9), (0, 8), (1, 10)], 0, [], [(152, (4, []), .inl (0, [(2, 1)]))]), [(0, .inr (.inl 215)), (1, .inl (0, [(0, 1)])), (2, .inl (0, [(1, 1)]))], (118, [(0, (-10)), (1, (-1))])), (158, ([(0, 8)], 0, [], []), [(0, .inr (.inl 215)), (1, .inl (0, [(0, 1)]))], (9, [(0, (-1))]))]) (m0 := (120, [])) (by
  intro C h
  simp only [List.mem_cons, List.not_mem_nil, or_false] at h
  rcases h with rfl
  · exact hb_K209_632_ok) rfl rfl (by decide +kernel)
/-- X12_can -/
def hb_K216_637 : sy_Co := (216, ([sy_full], 0, [], []), [.inr (.inl 215), .inl (0, [(0, 1)])], [(159, 0, 8), (160, 0, 8), (161, 0, 10), (162, 0, 10), (163, 0, 8)], 3, [(([sy_full, sy_full], 0, [], []), some (.inl (0, [(1, 1)])))])
set_option maxRecDepth 100000 in
theorem hb_K216_637_ok : sy_Met hb_cl hb_lt hb_P hb_A (0, 0) hb_K216_637 := sy_met2 282 (Cs := [hb_K214_635, hb_K215_636]) (cuts := [(0, hb_K216_637.2.1, sy_args 0 hb_K216_637.2.2.1, (1, []))]) (m0 := (1, [])) (by
  intro C h
  simp only [List.mem_cons, List.not_mem_nil, or_false] at h
  rcases h with rfl | rfl
  · exact hb_K214_635_ok
  · exact hb_K215_636_ok) rfl rfl (by decide +kernel)
/-- X12_mostOf -/
def hb_K217_638 : sy_Co := (217, ([], 0, [], []), [.inr (.inl 215)], [], 0, [(([((-2147483648), 1000000)], 0, [], []), some (.inl (0, [(0, 1)])))])
set_option maxRecDepth 100000 in
theorem hb_K217_638_ok : sy_Met hb_cl hb_lt hb_P hb_A (0, 0) hb_K217_638 := sy_met2 434 (Cs := []) (cuts := [(0, hb_K217_638.2.1, sy_args 0 hb_K217_638.2.2.1, (33202, [])), (5, ([((-2147483648), 1000000), (0, 1580)], 0, [], []), [(0, .inr (.inl 215)), (1, .inl (0, [(0, 1)])), (2, .inl (0, [(1, 1)]))], (33201, [(1, (-21))])), (25, ([((-2147483648), 1000000), (0, 1579), sy_full, sy_full, (0, 10)], 0, [], []), [(0, .inr (.inl 215)), (1, .inl (0, [(0, 1)])), (2, .inl (0, [(1, 1)])), (3, .inl (0, [(2, 1)])), (4, .inl (0, [(3, 1)])), (5, .inl (0, [(4, 1)]))], (33200, [(1, (-21)), (4, (-1))])), (102, ([((-2147483648), 1000000), (0, 1579), sy_full, sy_full, (0, 8)], 0, [], []), [(0, .inr (.inl 215)), (1, .inl (0, [(0, 1)])), (2, .inl (0, [(1, 1)])), (3, .inl (0, [(2, 1)])), (4, .inl (0, [(3, 1)])), (5, .inl (0, [(4, 1)]))], (33189, [(1, (-21)), (4, (-1))]))]) (m0 := (33202, [])) (by intro C h; cases h) rfl rfl (by decide +kernel)
/-- X12_most -/
def hb_K218_639 : sy_Co := (218, ([], 0, [], []), [.inr (.inl 215)], [(159, 0, 8), (160, 0, 8), (161, 0, 10), (162, 0, 10), (163, 0, 8)], 3, [(([((-2147483648), 1000000)], 0, [], []), some (.inl (0, [(0, 1)])))])
set_option maxRecDepth 100000 in
theorem hb_K218_639_ok : sy_Met hb_cl hb_lt hb_P hb_A (0, 0) hb_K218_639 := sy_met2 212 (Cs := [hb_K214_635, hb_K215_636, hb_K217_638]) (cuts := [(0, hb_K218_639.2.1, sy_args 0 hb_K218_639.2.2.1, (1, []))]) (m0 := (1, [])) (by
  intro C h
  simp only [List.mem_cons, List.not_mem_nil, or_false] at h
  rcases h with rfl | rfl | rfl
  · exact hb_K214_635_ok
  · exact hb_K215_636_ok
  · exact hb_K217_638_ok) rfl rfl (by decide +kernel)
/-- X12_row -/
def hb_K222_641 : sy_Co := (222, ([sy_full, sy_full], 0, [], []), [.inr (.inl 215), .inl (0, [(0, 1)]), .inl (0, [(1, 1)])], [], 2, [(([sy_full, sy_full, sy_full], 0, [], []), some (.inl (0, [(2, 1)])))])
set_option maxRecDepth 100000 in
theorem hb_K222_641_ok : sy_Met hb_cl hb_lt hb_P hb_A (0, 0) hb_K222_641 := sy_met2 352 (Cs := []) (cuts := [(0, hb_K222_641.2.1, sy_args 0 hb_K222_641.2.2.1, (1, []))]) (m0 := (1, [])) (by intro C h; cases h) rfl rfl (by decide +kernel)
/-- X12_alterRow -/
def hb_K223_642 : sy_Co := (223, ([sy_full, sy_full, sy_full], 0, [], []), [.inr (.inl 215), .inl (0, [(0, 1)]), .inl (0, [(1, 1)]), .inl (0, [(2, 1)])], [(164, 0, 240)], 2, [(([sy_full, sy_full, sy_full, sy_full], 0, [], []), some (.inl (0, [(3, 1)])))])
set_option maxRecDepth 100000 in
theorem hb_K223_642_ok : sy_Met hb_cl hb_lt hb_P hb_A (0, 0) hb_K223_642 := sy_met2 372 (Cs := []) (cuts := [(0, hb_K223_642.2.1, sy_args 0 hb_K223_642.2.2.1, (1, []))]) (m0 := (1, [])) (by intro C h; cases h) rfl rfl (by decide +kernel)
/-- X12_judge -/
def hb_K224_643 : sy_Co := (224, ([], 0, [], []), [.inr (.inl 215)], [(159, 0, 8), (160, 0, 8), (161, 0, 10), (162, 0, 10), (163, 0, 8)], 3, [(([sy_full], 0, [], []), some (.inl (0, [(0, 1)])))])
set_option maxRecDepth 100000 in
theorem hb_K224_643_ok : sy_Met hb_cl hb_lt hb_P hb_A (0, 0) hb_K224_643 := sy_met2 1492 (Cs := [hb_K214_635, hb_K215_636]) (cuts := [(0, hb_K224_643.2.1, sy_args 0 hb_K224_643.2.2.1, (82, [])), (12, ([sy_full, (0, 80)], 0, [], []), [(0, .inr (.inl 215)), (1, .inl (0, [(0, 1)])), (2, .inl (0, [(1, 1)]))], (81, [(1, (-1))]))]) (m0 := (82, [])) (by
  intro C h
  simp only [List.mem_cons, List.not_mem_nil, or_false] at h
  rcases h with rfl | rfl
  · exact hb_K214_635_ok
  · exact hb_K215_636_ok) rfl rfl (by decide +kernel)
/-- X12_ship -/
def hb_K227_644 : sy_Co := (227, ([sy_full, sy_full, sy_full, sy_full], 0, [], []), [.inr (.inl 215), .inl (0, [(0, 1)]), .inl (0, [(1, 1)]), .inl (0, [(2, 1)]), .inl (0, [(3, 1)])], [(152, 6, 7), (152, 248, 284)], 1, [(([sy_full, sy_full, sy_full, sy_full, ((-2), 5)], 0, [], []), some (.inl (0, [(4, 1)])))])
set_option maxRecDepth 100000 in
theorem hb_K227_644_ok : sy_Met hb_cl hb_lt hb_P hb_A (0, 0) hb_K227_644 := sy_met2 548 (Cs := []) (cuts := [(0, hb_K227_644.2.1, sy_args 0 hb_K227_644.2.2.1, (1, []))]) (m0 := (1, [])) (by intro C h; cases h) rfl rfl (by decide +kernel)
/-- X12_ready -/
def hb_K230_645 : sy_Co := (230, ([sy_full], 0, [], []), [.inr (.inl 215), .inl (0, [(0, 1)])], [(152, 12, 13)], 1, [(([sy_full, sy_full], 0, [], []), some (.inl (0, [(1, 1)])))])
set_option maxRecDepth 100000 in
theorem hb_K230_645_ok : sy_Met hb_cl hb_lt hb_P hb_A (0, 0) hb_K230_645 := sy_met2 266 (Cs := []) (cuts := [(0, hb_K230_645.2.1, sy_args 0 hb_K230_645.2.2.1, (1, []))]) (m0 := (1, [])) (by intro C h; cases h) rfl rfl (by decide +kernel)

/-! CONTRACTS, 11 -/
/-- X5_readInto -/
def hb_K53_508 : sy_Co := (53, ([], 0, [], []), [.inr (.inl 201), .inr (.inl 108)], [(46, 0, 7), (47, 0, 56), (48, 0, 56), (49, 0, 56), (50, 0, 448), (51, 0, 7), (137, 0, 1), (137, 5, 8), (139, 0, 201), (140, 0, 201), (141, 0, 201)], 22, [(([((-1), 200)], 0, [], []), some (.inl (0, [(0, 1)])))])
set_option maxRecDepth 100000 in
theorem hb_K53_508_ok : sy_Met hb_cl hb_lt hb_P hb_A (0, 0) hb_K53_508 := sy_met2 1542 (Cs := [hb_K54_491, hb_K67_506, hb_K65_507]) (cuts := [(0, hb_K53_508.2.1, sy_args 0 hb_K53_508.2.2.1, (11, [])), (25, ([(0, 9), (1, 201), (0, 200)], 0, [((-1), [(1, 1), (2, (-1))])], [(137, (5, []), .inl (0, [(1, 1)])), (137, (0, []), .inl (0, [])), (137, (6, []), .inl (0, [(2, 1)])), (139, ((-1), [(1, 1)]), .inl (300, []))]), [(0, .inr (.inl 201)), (1, .inr (.inl 108)), (2, .inl (0, [(0, 1)]))], (10, [(0, (-1))]))]) (m0 := (11, [])) (by
  intro C h
  simp only [List.mem_cons, List.not_mem_nil, or_false] at h
  rcases h with rfl | rfl | rfl
  · exact hb_K54_491_ok
  · exact hb_K67_506_ok
  · exact hb_K65_507_ok) rfl rfl (by decide +kernel)
/-- X11_read -/
def hb_K155_509 : sy_Co := (155, ([], 0, [], []), [.inr (.inl 64)], [(44, 0, 1), (45, 0, 7), (46, 0, 7), (47, 0, 56), (48, 0, 56), (49, 0, 56), (50, 0, 448), (51, 0, 7), (137, 0, 1), (137, 5, 8), (139, 0, 201), (140, 0, 201), (141, 0, 201)], 23, [(([((-300), 5)], 0, [], []), some (.inl (0, [(0, 1)])))])
set_option maxRecDepth 100000 in
theorem hb_K155_509_ok : sy_Met hb_cl hb_lt hb_P hb_A (0, 0) hb_K155_509 := sy_met2 278 (Cs := [hb_K53_508]) (cuts := [(0, hb_K155_509.2.1, sy_args 0 hb_K155_509.2.2.1, (1, []))]) (m0 := (1, [])) (by
  intro C h
  simp only [List.mem_cons, List.not_mem_nil, or_false] at h
  rcases h with rfl
  · exact hb_K53_508_ok) rfl rfl (by decide +kernel)
/-- X11_version -/
def hb_K156_510 : sy_Co := (156, ([sy_full, sy_full], 0, [], []), [.inr (.inl 64), .inl (0, [(0, 1)]), .inl (0, [(1, 1)])], [], 1, [(([sy_full, sy_full, sy_full], 0, [], []), some (.inl (0, [(2, 1)])))])
set_option maxRecDepth 100000 in
theorem hb_K156_510_ok : sy_Met hb_cl hb_lt hb_P hb_A (0, 0) hb_K156_510 := sy_met2 362 (Cs := []) (cuts := [(0, hb_K156_510.2.1, sy_args 0 hb_K156_510.2.2.1, (1, []))]) (m0 := (1, [])) (by intro C h; cases h) rfl rfl (by decide +kernel)
/-- X3_allRoom -/
def hb_K38_511 : sy_Co := (38, ([], 0, [], []), [.inr (.inl 65)], [], 0, [(([sy_full], 0, [], []), some (.inl (0, [(0, 1)])))])
set_option maxRecDepth 100000 in
theorem hb_K38_511_ok : sy_Met hb_cl hb_lt hb_P hb_A (0, 0) hb_K38_511 := sy_met2 236 (Cs := []) (cuts := [(0, hb_K38_511.2.1, sy_args 0 hb_K38_511.2.2.1, (10, [])), (4, ([sy_full, (0, 8)], 0, [], []), [(0, .inr (.inl 65)), (1, .inl (0, [(0, 1)])), (2, .inl (0, [(1, 1)]))], (9, [(1, (-1))]))]) (m0 := (10, [])) (by intro C h; cases h) rfl rfl (by decide +kernel)
/-- X6_versionAt -/
def hb_K82_512 : sy_Co := (82, ([(0, 999)], 0, [], []), [.inr (.inl 108), .inl (0, [(0, 1)])], [], 0, [(([(0, 999), ((-1), 5)], 0, [], []), some (.inl (0, [(1, 1)])))])
set_option maxRecDepth 100000 in
theorem hb_K82_512_ok : sy_Met hb_cl hb_lt hb_P hb_A (0, 0) hb_K82_512 := sy_met2 234 (Cs := []) (cuts := [(0, hb_K82_512.2.1, sy_args 0 hb_K82_512.2.2.1, (8, [])), (7, ([(0, 999), ((-1), 5)], 0, [], []), [(0, .inr (.inl 108)), (1, .inl (0, [(0, 1)])), (2, .inl (0, [(1, 1)]))], (2, [(1, 1)]))]) (m0 := (8, [])) (by intro C h; cases h) rfl rfl (by decide +kernel)
/-- X1_allSeats -/
def hb_K18_514 : sy_Co := (18, ([], 0, [], []), [.inr (.inl 79)], [], 0, [(([sy_full], 0, [], []), some (.inl (0, [(0, 1)])))])
set_option maxRecDepth 100000 in
theorem hb_K18_514_ok : sy_Met hb_cl hb_lt hb_P hb_A (0, 0) hb_K18_514 := sy_met2 238 (Cs := []) (cuts := [(0, hb_K18_514.2.1, sy_args 0 hb_K18_514.2.2.1, (10, [])), (4, ([sy_full, (0, 8)], 0, [], []), [(0, .inr (.inl 79)), (1, .inl (0, [(0, 1)])), (2, .inl (0, [(1, 1)]))], (9, [(1, (-1))]))]) (m0 := (10, [])) (by intro C h; cases h) rfl rfl (by decide +kernel)
/-- X6_latestLine -/
def hb_K83_516 : sy_Co := (83, ([(0, 1), (0, 999)], 0, [], []), [.inr (.inl 108), .inl (0, [(0, 1)]), .inl (0, [(1, 1)])], [], 1, [(([(0, 1), (0, 999), ((-1), 47)], 0, [], []), some (.inl (0, [(2, 1)])))])
set_option maxRecDepth 100000 in
theorem hb_K83_516_ok : sy_Met hb_cl hb_lt hb_P hb_A (0, 0) hb_K83_516 := sy_met2 268 (Cs := [hb_K82_512]) (cuts := [(0, hb_K83_516.2.1, sy_args 0 hb_K83_516.2.2.1, (10, [])), (22, ([(0, 1), (0, 999), (0, 5), ((-1), 7)], 0, [], []), [(0, .inr (.inl 108)), (1, .inl (0, [(0, 1)])), (2, .inl (0, [(1, 1)])), (3, .inl (0, [(2, 1)])), (4, .inl (0, [(3, 1)]))], (2, [(3, 1)]))]) (m0 := (10, [])) (by
  intro C h
  simp only [List.mem_cons, List.not_mem_nil, or_false] at h
  rcases h with rfl
  · exact hb_K82_512_ok) rfl rfl (by decide +kernel)
/-- X11_lack -/
def hb_K157_515 : sy_Co := (157, ([sy_full], 0, [], []), [.inr (.inl 64), .inl (0, [(0, 1)])], [], 3, [(([sy_full, ((-1), 2147483647)], 0, [], []), some (.inl (0, [(1, 1)])))])
set_option maxRecDepth 100000 in
theorem hb_K157_515_ok : sy_Met hb_cl hb_lt hb_P hb_A (0, 0) hb_K157_515 := sy_met2 362 (Cs := [hb_K38_511, hb_K83_516, hb_K18_514]) (cuts := [(0, hb_K157_515.2.1, sy_args 0 hb_K157_515.2.2.1, (1, []))]) (m0 := (1, [])) (by
  intro C h
  simp only [List.mem_cons, List.not_mem_nil, or_false] at h
  rcases h with rfl | rfl | rfl
  · exact hb_K38_511_ok
  · exact hb_K83_516_ok
  · exact hb_K18_514_ok) rfl rfl (by decide +kernel)
/-- X6_rankOf -/
def hb_K80_517 : sy_Co := (80, ([(0, 2), (0, 999)], 0, [], []), [.inr (.inl 108), .inl (0, [(0, 1)]), .inl (0, [(1, 1)])], [], 2, [(([(0, 2), (0, 999), sy_full], 0, [], []), some (.inl (0, [(2, 1)])))])
set_option maxRecDepth 100000 in
theorem hb_K80_517_ok : sy_Met hb_cl hb_lt hb_P hb_A (0, 0) hb_K80_517 := sy_met2 254 (Cs := [hb_K83_516]) (cuts := [(0, hb_K80_517.2.1, sy_args 0 hb_K80_517.2.2.1, (4, [])), (25, ([(0, 2), (0, 999), (0, 47), sy_full, (0, 2)], 0, [], []), [(0, .inr (.inl 108)), (1, .inl (0, [(0, 1)])), (2, .inl (0, [(1, 1)])), (3, .inl (0, [(2, 1)])), (4, .inl (0, [(3, 1)])), (5, .inl (0, [(4, 1)]))], (3, [(4, (-1))]))]) (m0 := (4, [])) (by
  intro C h
  simp only [List.mem_cons, List.not_mem_nil, or_false] at h
  rcases h with rfl
  · exact hb_K83_516_ok) rfl rfl (by decide +kernel)
/-- X11_rank -/
def hb_K158_518 : sy_Co := (158, ([sy_full, sy_full], 0, [], []), [.inr (.inl 64), .inl (0, [(0, 1)]), .inl (0, [(1, 1)])], [], 3, [(([sy_full, sy_full, sy_full], 0, [], []), some (.inl (0, [(2, 1)])))])
set_option maxRecDepth 100000 in
theorem hb_K158_518_ok : sy_Met hb_cl hb_lt hb_P hb_A (0, 0) hb_K158_518 := sy_met2 292 (Cs := [hb_K80_517]) (cuts := [(0, hb_K158_518.2.1, sy_args 0 hb_K158_518.2.2.1, (1, []))]) (m0 := (1, [])) (by
  intro C h
  simp only [List.mem_cons, List.not_mem_nil, or_false] at h
  rcases h with rfl
  · exact hb_K80_517_ok) rfl rfl (by decide +kernel)
/-- X11_leg -/
def hb_K160_519 : sy_Co := (160, ([sy_full, sy_full], 0, [], []), [.inr (.inl 64), .inl (0, [(0, 1)]), .inl (0, [(1, 1)])], [(52, 0, 1), (54, 0, 7), (55, 0, 7)], 1, [(([sy_full, sy_full, ((-2), 7)], 0, [], []), some (.inl (0, [(2, 1)])))])
set_option maxRecDepth 100000 in
theorem hb_K160_519_ok : sy_Met hb_cl hb_lt hb_P hb_A (0, 0) hb_K160_519 := sy_met2 354 (Cs := []) (cuts := [(0, hb_K160_519.2.1, sy_args 0 hb_K160_519.2.2.1, (1, []))]) (m0 := (1, [])) (by intro C h; cases h) rfl rfl (by decide +kernel)
/-- X4_sail -/
def hb_K50_520 : sy_Co := (50, ([sy_full, sy_full], 0, [], []), [.inr (.inl 116), .inl (7, []), .inl (0, [(0, 1)]), .inl (0, [(1, 1)])], [(52, 1, 3), (52, 9, 10), (53, 0, 7)], 2, [(([sy_full, sy_full], 0, [], []), none)])
set_option maxRecDepth 100000 in
theorem hb_K50_520_ok : sy_Met hb_cl hb_lt hb_P hb_A (0, 0) hb_K50_520 := sy_met2 444 (Cs := []) (cuts := [(0, hb_K50_520.2.1, sy_args 0 hb_K50_520.2.2.1, (1, []))]) (m0 := (1, [])) (by intro C h; cases h) rfl rfl (by decide +kernel)
/-- X4_sail -/
def hb_K50_521 : sy_Co := (50, ([sy_full, sy_full], 0, [], []), [.inr (.inl 116), .inl (6, []), .inl (0, [(0, 1)]), .inl (0, [(1, 1)])], [(52, 1, 3), (52, 9, 10), (53, 0, 7), (56, 0, 7)], 3, [(([sy_full, sy_full], 0, [], []), none)])
set_option maxRecDepth 100000 in
theorem hb_K50_521_ok : sy_Met hb_cl hb_lt hb_P hb_A (0, 0) hb_K50_521 := sy_met2 578 (Cs := [hb_K50_520]) (cuts := [(0, hb_K50_521.2.1, sy_args 0 hb_K50_521.2.2.1, (6, [])), (103, ([sy_full, sy_full, sy_full, sy_full, (1, 5)], 0, [], [(52, (0, []), .inl (7, []))]), [(0, .inr (.inl 116)), (1, .inl (6, [])), (2, .inl (0, [(0, 1)])), (3, .inl (0, [(1, 1)])), (4, .inl (0, [(2, 1)])), (5, .inl (0, [(3, 1)])), (6, .inl (0, [(4, 1)]))], (6, [(4, (-1))]))]) (m0 := (6, [])) (by
  intro C h
  simp only [List.mem_cons, List.not_mem_nil, or_false] at h
  rcases h with rfl
  · exact hb_K50_520_ok) rfl rfl (by decide +kernel)
/-- X4_sail -/
def hb_K50_522 : sy_Co := (50, ([sy_full, sy_full], 0, [], []), [.inr (.inl 116), .inl (5, []), .inl (0, [(0, 1)]), .inl (0, [(1, 1)])], [(52, 1, 3), (52, 9, 10), (53, 0, 7), (56, 0, 7)], 4, [(([sy_full, sy_full], 0, [], []), none)])
set_option maxRecDepth 100000 in
theorem hb_K50_522_ok : sy_Met hb_cl hb_lt hb_P hb_A (0, 0) hb_K50_522 := sy_met2 578 (Cs := [hb_K50_521]) (cuts := [(0, hb_K50_522.2.1, sy_args 0 hb_K50_522.2.2.1, (6, [])), (103, ([sy_full, sy_full, sy_full, sy_full, (1, 5), (6, 7)], 0, [], [(52, (0, []), .inl (0, [(5, 1)]))]), [(0, .inr (.inl 116)), (1, .inl (5, [])), (2, .inl (0, [(0, 1)])), (3, .inl (0, [(1, 1)])), (4, .inl (0, [(2, 1)])), (5, .inl (0, [(3, 1)])), (6, .inl (0, [(4, 1)]))], (6, [(4, (-1))]))]) (m0 := (6, [])) (by
  intro C h
  simp only [List.mem_cons, List.not_mem_nil, or_false] at h
  rcases h with rfl
  · exact hb_K50_521_ok) rfl rfl (by decide +kernel)
/-- X4_sail -/
def hb_K50_523 : sy_Co := (50, ([sy_full, sy_full], 0, [], []), [.inr (.inl 116), .inl (4, []), .inl (0, [(0, 1)]), .inl (0, [(1, 1)])], [(52, 1, 3), (52, 9, 10), (53, 0, 7), (56, 0, 7)], 5, [(([sy_full, sy_full], 0, [], []), none)])
set_option maxRecDepth 100000 in
theorem hb_K50_523_ok : sy_Met hb_cl hb_lt hb_P hb_A (0, 0) hb_K50_523 := sy_met2 578 (Cs := [hb_K50_522]) (cuts := [(0, hb_K50_523.2.1, sy_args 0 hb_K50_523.2.2.1, (6, [])), (103, ([sy_full, sy_full, sy_full, sy_full, (1, 5), (5, 7)], 0, [], [(52, (0, []), .inl (0, [(5, 1)]))]), [(0, .inr (.inl 116)), (1, .inl (4, [])), (2, .inl (0, [(0, 1)])), (3, .inl (0, [(1, 1)])), (4, .inl (0, [(2, 1)])), (5, .inl (0, [(3, 1)])), (6, .inl (0, [(4, 1)]))], (6, [(4, (-1))]))]) (m0 := (6, [])) (by
  intro C h
  simp only [List.mem_cons, List.not_mem_nil, or_false] at h
  rcases h with rfl
  · exact hb_K50_522_ok) rfl rfl (by decide +kernel)
/-- X4_sail -/
def hb_K50_524 : sy_Co := (50, ([sy_full, sy_full], 0, [], []), [.inr (.inl 116), .inl (3, []), .inl (0, [(0, 1)]), .inl (0, [(1, 1)])], [(52, 1, 3), (52, 9, 10), (53, 0, 7), (56, 0, 7)], 6, [(([sy_full, sy_full], 0, [], []), none)])
set_option maxRecDepth 100000 in
theorem hb_K50_524_ok : sy_Met hb_cl hb_lt hb_P hb_A (0, 0) hb_K50_524 := sy_met2 578 (Cs := [hb_K50_523]) (cuts := [(0, hb_K50_524.2.1, sy_args 0 hb_K50_524.2.2.1, (6, [])), (103, ([sy_full, sy_full, sy_full, sy_full, (1, 5), (4, 7)], 0, [], [(52, (0, []), .inl (0, [(5, 1)]))]), [(0, .inr (.inl 116)), (1, .inl (3, [])), (2, .inl (0, [(0, 1)])), (3, .inl (0, [(1, 1)])), (4, .inl (0, [(2, 1)])), (5, .inl (0, [(3, 1)])), (6, .inl (0, [(4, 1)]))], (6, [(4, (-1))]))]) (m0 := (6, [])) (by
  intro C h
  simp only [List.mem_cons, List.not_mem_nil, or_false] at h
  rcases h with rfl
  · exact hb_K50_523_ok) rfl rfl (by decide +kernel)
/-- X4_sail -/
def hb_K50_525 : sy_Co := (50, ([sy_full, sy_full], 0, [], []), [.inr (.inl 116), .inl (2, []), .inl (0, [(0, 1)]), .inl (0, [(1, 1)])], [(52, 1, 3), (52, 9, 10), (53, 0, 7), (56, 0, 7)], 7, [(([sy_full, sy_full], 0, [], []), none)])
set_option maxRecDepth 100000 in
theorem hb_K50_525_ok : sy_Met hb_cl hb_lt hb_P hb_A (0, 0) hb_K50_525 := sy_met2 578 (Cs := [hb_K50_524]) (cuts := [(0, hb_K50_525.2.1, sy_args 0 hb_K50_525.2.2.1, (6, [])), (103, ([sy_full, sy_full, sy_full, sy_full, (1, 5), (3, 7)], 0, [], [(52, (0, []), .inl (0, [(5, 1)]))]), [(0, .inr (.inl 116)), (1, .inl (2, [])), (2, .inl (0, [(0, 1)])), (3, .inl (0, [(1, 1)])), (4, .inl (0, [(2, 1)])), (5, .inl (0, [(3, 1)])), (6, .inl (0, [(4, 1)]))], (6, [(4, (-1))]))]) (m0 := (6, [])) (by
  intro C h
  simp only [List.mem_cons, List.not_mem_nil, or_false] at h
  rcases h with rfl
  · exact hb_K50_524_ok) rfl rfl (by decide +kernel)
/-- X4_sail -/
def hb_K50_526 : sy_Co := (50, ([sy_full, sy_full], 0, [], []), [.inr (.inl 116), .inl (1, []), .inl (0, [(0, 1)]), .inl (0, [(1, 1)])], [(52, 1, 3), (52, 9, 10), (53, 0, 7), (56, 0, 7)], 8, [(([sy_full, sy_full], 0, [], []), none)])
set_option maxRecDepth 100000 in
theorem hb_K50_526_ok : sy_Met hb_cl hb_lt hb_P hb_A (0, 0) hb_K50_526 := sy_met2 578 (Cs := [hb_K50_525]) (cuts := [(0, hb_K50_526.2.1, sy_args 0 hb_K50_526.2.2.1, (6, [])), (103, ([sy_full, sy_full, sy_full, sy_full, (1, 5), (2, 7)], 0, [], [(52, (0, []), .inl (0, [(5, 1)]))]), [(0, .inr (.inl 116)), (1, .inl (1, [])), (2, .inl (0, [(0, 1)])), (3, .inl (0, [(1, 1)])), (4, .inl (0, [(2, 1)])), (5, .inl (0, [(3, 1)])), (6, .inl (0, [(4, 1)]))], (6, [(4, (-1))]))]) (m0 := (6, [])) (by
  intro C h
  simp only [List.mem_cons, List.not_mem_nil, or_false] at h
  rcases h with rfl
  · exact hb_K50_525_ok) rfl rfl (by decide +kernel)

noncomputable section
/-! CONTRACTS, 37, 10 -/
/-- X5_readOne -/
def hb_K69_512 : sy_Co := (69, ([(1, 201), (0, 200)], 0, [((-1), [(0, 1), (1, (-1))])], [(137, (5, []), .inl (0, [(0, 1)])), (137, (6, []), .inl (0, [(1, 1)])), (139, ((-1), [(0, 1)]), .inl (300, []))]), [.inr (.inl 201), .inr (.inl 108), .inl (0, [])], [(50, 0, 448), (51, 0, 7), (137, 6, 8)], 18, [(([(1, 201), (0, 200), (0, 1), (0, 200)], 0, [((-1), [(0, 1), (3, (-1))])], [(137, (5, []), .inl (0, [(0, 1)])), (137, (6, []), .inl (0, [(3, 1)]))]), some (.inl (0, [(2, 1)])))])
set_option maxRecDepth 100000 in
theorem hb_K69_512_ok : sy_Met hb_cl hb_lt hb_P hb_A (0, 0) hb_K69_512 := ty_met2 2948 hb_Gok hb_Hok hb_An_ok hb_hcl (Cs := [hb_K67_511]) (cuts := [(0, hb_K69_512.2.1, sy_args 0 hb_K69_512.2.2.1, (202, [])), (5, ([(1, 201), (0, 200), (0, 1), (0, 200), (0, 200)], 0, [((-1), [(0, 1), (1, (-1))]), ((-1), [(0, 1), (4, (-1))])], [(137, (6, []), .inl (0, [(4, 1)])), (137, (5, []), .inl (0, [(0, 1)])), (139, ((-1), [(0, 1)]), .inl (300, []))]), [(0, .inr (.inl 201)), (1, .inr (.inl 108)), (2, .inl (0, [])), (3, .inl (0, [(2, 1)])), (4, .inl (0, [(3, 1)]))], (201, [(3, (-1))]))]) (m0 := (202, [])) (by
  intro C h
  simp only [List.mem_cons, List.not_mem_nil, or_false] at h
  rcases h with rfl
  · exact hb_K67_511_ok) rfl rfl (by decide +kernel)
/-- X5_readAll -/
def hb_K68_513 : sy_Co := (68, ([(1, 201), (0, 200)], 0, [((-1), [(0, 1), (1, (-1))])], [(137, (5, []), .inl (0, [(0, 1)])), (137, (6, []), .inl (0, [(1, 1)])), (139, ((-1), [(0, 1)]), .inl (300, []))]), [.inr (.inl 201), .inr (.inl 108), .inl (0, [])], [(50, 0, 448), (51, 0, 7), (137, 6, 8)], 19, [(([(1, 201), (0, 200), (0, 1), (0, 200)], 0, [((-1), [(0, 1), (3, (-1))])], [(137, (5, []), .inl (0, [(0, 1)])), (137, (6, []), .inl (0, [(3, 1)]))]), some (.inl (0, [(2, 1)])))])
set_option maxRecDepth 100000 in
theorem hb_K68_513_ok : sy_Met hb_cl hb_lt hb_P hb_A (0, 0) hb_K68_513 := ty_met2 352 hb_Gok hb_Hok hb_An_ok hb_hcl (Cs := [hb_K69_512]) (cuts := [(0, hb_K68_513.2.1, sy_args 0 hb_K68_513.2.2.1, (202, [])), (13, ([(1, 201), (0, 200), (0, 200), (0, 200)], 0, [((-1), [(0, 1), (1, (-1))]), ((-1), [(0, 1), (3, (-1))])], [(137, (5, []), .inl (0, [(0, 1)])), (137, (6, []), .inl (0, [(3, 1)])), (139, ((-1), [(0, 1)]), .inl (300, []))]), [(0, .inr (.inl 201)), (1, .inr (.inl 108)), (2, .inl (0, [])), (3, .inl (0, [(2, 1)]))], (201, [(2, (-1))]))]) (m0 := (202, [])) (by
  intro C h
  simp only [List.mem_cons, List.not_mem_nil, or_false] at h
  rcases h with rfl
  · exact hb_K69_512_ok) rfl rfl (by decide +kernel)
/-- X5_readCondition -/
def hb_K67_514 : sy_Co := (67, ([(1, 201), (0, 200)], 0, [((-1), [(0, 1), (1, (-1))])], [(137, (5, []), .inl (0, [(0, 1)])), (137, (6, []), .inl (0, [(1, 1)])), (139, ((-1), [(0, 1)]), .inl (300, []))]), [.inr (.inl 201), .inr (.inl 108), .inl (0, [])], [(50, 0, 448), (51, 0, 7), (137, 6, 8)], 20, [(([(1, 201), (0, 200), (0, 1), (0, 200)], 0, [((-1), [(0, 1), (3, (-1))])], [(137, (5, []), .inl (0, [(0, 1)])), (137, (6, []), .inl (0, [(3, 1)]))]), some (.inl (0, [(2, 1)])))])
set_option maxRecDepth 100000 in
theorem hb_K67_514_ok : sy_Met hb_cl hb_lt hb_P hb_A (0, 0) hb_K67_514 := ty_met2 352 hb_Gok hb_Hok hb_An_ok hb_hcl (Cs := [hb_K68_513]) (cuts := [(0, hb_K67_514.2.1, sy_args 0 hb_K67_514.2.2.1, (202, [])), (13, ([(1, 201), (0, 200), (0, 200), (0, 200)], 0, [((-1), [(0, 1), (1, (-1))]), ((-1), [(0, 1), (3, (-1))])], [(137, (5, []), .inl (0, [(0, 1)])), (137, (6, []), .inl (0, [(3, 1)])), (139, ((-1), [(0, 1)]), .inl (300, []))]), [(0, .inr (.inl 201)), (1, .inr (.inl 108)), (2, .inl (0, [])), (3, .inl (0, [(2, 1)]))], (201, [(2, (-1))]))]) (m0 := (202, [])) (by
  intro C h
  simp only [List.mem_cons, List.not_mem_nil, or_false] at h
  rcases h with rfl
  · exact hb_K68_513_ok) rfl rfl (by decide +kernel)
/-- X11_version -/
def hb_K156_518 : sy_Co := (156, ([sy_full, sy_full], 0, [], []), [.inr (.inl 64), .inl (0, [(0, 1)]), .inl (0, [(1, 1)])], [], 1, [(([sy_full, sy_full, sy_full], 0, [], []), some (.inl (0, [(2, 1)])))])
set_option maxRecDepth 100000 in
theorem hb_K156_518_ok : sy_Met hb_cl hb_lt hb_P hb_A (0, 0) hb_K156_518 := ty_met2 362 hb_Gok hb_Hok hb_An_ok hb_hcl (Cs := []) (cuts := [(0, hb_K156_518.2.1, sy_args 0 hb_K156_518.2.2.1, (1, []))]) (m0 := (1, [])) (by intro C h; cases h) rfl rfl (by decide +kernel)
/-- X3_allRoom -/
def hb_K38_519 : sy_Co := (38, ([], 0, [], []), [.inr (.inl 65)], [], 0, [(([sy_full], 0, [], []), some (.inl (0, [(0, 1)])))])
set_option maxRecDepth 100000 in
theorem hb_K38_519_ok : sy_Met hb_cl hb_lt hb_P hb_A (0, 0) hb_K38_519 := ty_met2 236 hb_Gok hb_Hok hb_An_ok hb_hcl (Cs := []) (cuts := [(0, hb_K38_519.2.1, sy_args 0 hb_K38_519.2.2.1, (10, [])), (4, ([sy_full, (0, 8)], 0, [], []), [(0, .inr (.inl 65)), (1, .inl (0, [(0, 1)])), (2, .inl (0, [(1, 1)]))], (9, [(1, (-1))]))]) (m0 := (10, [])) (by intro C h; cases h) rfl rfl (by decide +kernel)
/-- X6_versionAt -/
def hb_K82_520 : sy_Co := (82, ([(0, 999)], 0, [], []), [.inr (.inl 108), .inl (0, [(0, 1)])], [], 0, [(([(0, 999), ((-1), 5)], 0, [], []), some (.inl (0, [(1, 1)])))])
set_option maxRecDepth 100000 in
theorem hb_K82_520_ok : sy_Met hb_cl hb_lt hb_P hb_A (0, 0) hb_K82_520 := ty_met2 234 hb_Gok hb_Hok hb_An_ok hb_hcl (Cs := []) (cuts := [(0, hb_K82_520.2.1, sy_args 0 hb_K82_520.2.2.1, (8, [])), (7, ([(0, 999), ((-1), 5)], 0, [], []), [(0, .inr (.inl 108)), (1, .inl (0, [(0, 1)])), (2, .inl (0, [(1, 1)]))], (2, [(1, 1)]))]) (m0 := (8, [])) (by intro C h; cases h) rfl rfl (by decide +kernel)
/-- X1_allSeats -/
def hb_K18_522 : sy_Co := (18, ([], 0, [], []), [.inr (.inl 79)], [], 0, [(([sy_full], 0, [], []), some (.inl (0, [(0, 1)])))])
set_option maxRecDepth 100000 in
theorem hb_K18_522_ok : sy_Met hb_cl hb_lt hb_P hb_A (0, 0) hb_K18_522 := ty_met2 238 hb_Gok hb_Hok hb_An_ok hb_hcl (Cs := []) (cuts := [(0, hb_K18_522.2.1, sy_args 0 hb_K18_522.2.2.1, (10, [])), (4, ([sy_full, (0, 8)], 0, [], []), [(0, .inr (.inl 79)), (1, .inl (0, [(0, 1)])), (2, .inl (0, [(1, 1)]))], (9, [(1, (-1))]))]) (m0 := (10, [])) (by intro C h; cases h) rfl rfl (by decide +kernel)
/-- X6_latestLine -/
def hb_K83_524 : sy_Co := (83, ([(0, 1), (0, 999)], 0, [], []), [.inr (.inl 108), .inl (0, [(0, 1)]), .inl (0, [(1, 1)])], [], 1, [(([(0, 1), (0, 999), ((-1), 47)], 0, [], []), some (.inl (0, [(2, 1)])))])
set_option maxRecDepth 100000 in
theorem hb_K83_524_ok : sy_Met hb_cl hb_lt hb_P hb_A (0, 0) hb_K83_524 := ty_met2 268 hb_Gok hb_Hok hb_An_ok hb_hcl (Cs := [hb_K82_520]) (cuts := [(0, hb_K83_524.2.1, sy_args 0 hb_K83_524.2.2.1, (10, [])), (22, ([(0, 1), (0, 999), (0, 5), ((-1), 7)], 0, [], []), [(0, .inr (.inl 108)), (1, .inl (0, [(0, 1)])), (2, .inl (0, [(1, 1)])), (3, .inl (0, [(2, 1)])), (4, .inl (0, [(3, 1)]))], (2, [(3, 1)]))]) (m0 := (10, [])) (by
  intro C h
  simp only [List.mem_cons, List.not_mem_nil, or_false] at h
  rcases h with rfl
  · exact hb_K82_520_ok) rfl rfl (by decide +kernel)
/-- X11_lack -/
def hb_K157_523 : sy_Co := (157, ([sy_full], 0, [], []), [.inr (.inl 64), .inl (0, [(0, 1)])], [], 3, [(([sy_full, ((-1), 2147483647)], 0, [], []), some (.inl (0, [(1, 1)])))])
set_option maxRecDepth 100000 in
theorem hb_K157_523_ok : sy_Met hb_cl hb_lt hb_P hb_A (0, 0) hb_K157_523 := ty_met2 362 hb_Gok hb_Hok hb_An_ok hb_hcl (Cs := [hb_K38_519, hb_K18_522, hb_K83_524]) (cuts := [(0, hb_K157_523.2.1, sy_args 0 hb_K157_523.2.2.1, (1, []))]) (m0 := (1, [])) (by
  intro C h
  simp only [List.mem_cons, List.not_mem_nil, or_false] at h
  rcases h with rfl | rfl | rfl
  · exact hb_K38_519_ok
  · exact hb_K18_522_ok
  · exact hb_K83_524_ok) rfl rfl (by decide +kernel)
/-- X6_rankOf -/
def hb_K80_525 : sy_Co := (80, ([(0, 2), (0, 999)], 0, [], []), [.inr (.inl 108), .inl (0, [(0, 1)]), .inl (0, [(1, 1)])], [], 2, [(([(0, 2), (0, 999), sy_full], 0, [], []), some (.inl (0, [(2, 1)])))])
set_option maxRecDepth 100000 in
theorem hb_K80_525_ok : sy_Met hb_cl hb_lt hb_P hb_A (0, 0) hb_K80_525 := ty_met2 254 hb_Gok hb_Hok hb_An_ok hb_hcl (Cs := [hb_K83_524]) (cuts := [(0, hb_K80_525.2.1, sy_args 0 hb_K80_525.2.2.1, (4, [])), (25, ([(0, 2), (0, 999), (0, 47), sy_full, (0, 2)], 0, [], []), [(0, .inr (.inl 108)), (1, .inl (0, [(0, 1)])), (2, .inl (0, [(1, 1)])), (3, .inl (0, [(2, 1)])), (4, .inl (0, [(3, 1)])), (5, .inl (0, [(4, 1)]))], (3, [(4, (-1))]))]) (m0 := (4, [])) (by
  intro C h
  simp only [List.mem_cons, List.not_mem_nil, or_false] at h
  rcases h with rfl
  · exact hb_K83_524_ok) rfl rfl (by decide +kernel)
/-- X11_rank -/
def hb_K158_526 : sy_Co := (158, ([sy_full, sy_full], 0, [], []), [.inr (.inl 64), .inl (0, [(0, 1)]), .inl (0, [(1, 1)])], [], 3, [(([sy_full, sy_full, sy_full], 0, [], []), some (.inl (0, [(2, 1)])))])
set_option maxRecDepth 100000 in
theorem hb_K158_526_ok : sy_Met hb_cl hb_lt hb_P hb_A (0, 0) hb_K158_526 := ty_met2 292 hb_Gok hb_Hok hb_An_ok hb_hcl (Cs := [hb_K80_525]) (cuts := [(0, hb_K158_526.2.1, sy_args 0 hb_K158_526.2.2.1, (1, []))]) (m0 := (1, [])) (by
  intro C h
  simp only [List.mem_cons, List.not_mem_nil, or_false] at h
  rcases h with rfl
  · exact hb_K80_525_ok) rfl rfl (by decide +kernel)
/-- X6_holds -/
def hb_K84_527 : sy_Co := (84, ([(0, 5), (0, 7), (0, 5), (0, 999)], 0, [], [(47, (0, [(0, 8), (1, 1)]), .inl (2, []))]), [.inr (.inl 108), .inl (0, [(0, 1)]), .inl (0, [(1, 1)]), .inr (.inl 93), .inl (0, [(2, 1)]), .inl (0, [(3, 1)])], [(1099511627776, 0, 0)], 4, [(([(0, 5), (0, 7), (0, 5), (0, 999), (0, 1)], 0, [], []), some (.inl (0, [(4, 1)])))])
set_option maxRecDepth 100000 in
theorem hb_K84_527_ok : sy_Met hb_cl hb_lt hb_P hb_A (0, 0) hb_K84_527 := ty_met2 1006 hb_Gok hb_Hok hb_An_ok hb_hcl (Cs := [hb_K93_128]) (cuts := [(0, hb_K84_527.2.1, sy_args 0 hb_K84_527.2.2.1, (66, [])), (29, ([(0, 5), (0, 7), (0, 5), (0, 999), sy_full, (0, 64), (0, 64)], 0, [], []), [(0, .inr (.inl 108)), (1, .inl (0, [(0, 1)])), (2, .inl (0, [(1, 1)])), (3, .inr (.inl 93)), (4, .inl (0, [(2, 1)])), (5, .inl (0, [(3, 1)])), (6, .inl (0, [(4, 1)])), (7, .inl (0, [(5, 1)])), (8, .inl (0, [(6, 1)]))], (65, [(6, (-1))]))]) (m0 := (66, [])) (by
  intro C h
  simp only [List.mem_cons, List.not_mem_nil, or_false] at h
  rcases h with rfl
  · exact hb_K93_128_ok) rfl rfl (by decide +kernel)
/-- X6_bids -/
def hb_K81_528 : sy_Co := (81, ([(0, 5), (0, 999)], 0, [], []), [.inr (.inl 108), .inr (.inl 93), .inl (0, [(0, 1)]), .inl (0, [(1, 1)])], [(1099511627776, 0, 0)], 5, [(([(0, 5), (0, 999), (0, 1)], 0, [], []), some (.inl (0, [(2, 1)])))])
set_option maxRecDepth 100000 in
theorem hb_K81_528_ok : sy_Met hb_cl hb_lt hb_P hb_A (0, 0) hb_K81_528 := ty_met2 278 hb_Gok hb_Hok hb_An_ok hb_hcl (Cs := [hb_K82_520, hb_K84_527]) (cuts := [(0, hb_K81_528.2.1, sy_args 0 hb_K81_528.2.2.1, (10, [])), (17, ([(0, 5), (0, 999), (0, 5), (0, 8)], 0, [], []), [(0, .inr (.inl 108)), (1, .inr (.inl 93)), (2, .inl (0, [(0, 1)])), (3, .inl (0, [(1, 1)])), (4, .inl (0, [(2, 1)])), (5, .inl (0, [(3, 1)]))], (9, [(3, (-1))]))]) (m0 := (10, [])) (by
  intro C h
  simp only [List.mem_cons, List.not_mem_nil, or_false] at h
  rcases h with rfl | rfl
  · exact hb_K82_520_ok
  · exact hb_K84_527_ok) rfl rfl (by decide +kernel)
/-- X11_must -/
def hb_K159_529 : sy_Co := (159, ([sy_full, sy_full], 0, [], []), [.inr (.inl 64), .inl (0, [(0, 1)]), .inl (0, [(1, 1)])], [(1099511627776, 0, 0)], 6, [(([sy_full, sy_full, ((-1), 1)], 0, [], []), some (.inl (0, [(2, 1)])))])
set_option maxRecDepth 100000 in
theorem hb_K159_529_ok : sy_Met hb_cl hb_lt hb_P hb_A (0, 0) hb_K159_529 := ty_met2 312 hb_Gok hb_Hok hb_An_ok hb_hcl (Cs := [hb_K81_528]) (cuts := [(0, hb_K159_529.2.1, sy_args 0 hb_K159_529.2.2.1, (1, []))]) (m0 := (1, [])) (by
  intro C h
  simp only [List.mem_cons, List.not_mem_nil, or_false] at h
  rcases h with rfl
  · exact hb_K81_528_ok) rfl rfl (by decide +kernel)
/-- X11_leg -/
def hb_K160_530 : sy_Co := (160, ([sy_full, sy_full], 0, [], []), [.inr (.inl 64), .inl (0, [(0, 1)]), .inl (0, [(1, 1)])], [(52, 0, 1), (54, 0, 7), (55, 0, 7)], 1, [(([sy_full, sy_full, ((-2), 7)], 0, [], []), some (.inl (0, [(2, 1)])))])
set_option maxRecDepth 100000 in
theorem hb_K160_530_ok : sy_Met hb_cl hb_lt hb_P hb_A (0, 0) hb_K160_530 := ty_met2 354 hb_Gok hb_Hok hb_An_ok hb_hcl (Cs := []) (cuts := [(0, hb_K160_530.2.1, sy_args 0 hb_K160_530.2.2.1, (1, []))]) (m0 := (1, [])) (by intro C h; cases h) rfl rfl (by decide +kernel)

end

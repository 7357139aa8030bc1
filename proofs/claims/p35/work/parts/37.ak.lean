noncomputable section
/-! CONTRACTS, 37, 11 -/
/-- X4_sail -/
def hb_K50_531 : sy_Co := (50, ([sy_full, sy_full], 0, [], []), [.inr (.inl 116), .inl (7, []), .inl (0, [(0, 1)]), .inl (0, [(1, 1)])], [(52, 1, 3), (52, 9, 10), (53, 0, 7)], 2, [(([sy_full, sy_full], 0, [], []), none)])
set_option maxRecDepth 100000 in
theorem hb_K50_531_ok : sy_Met hb_cl hb_lt hb_P hb_A (0, 0) hb_K50_531 := ty_met2 444 hb_Gok hb_Hok hb_An_ok hb_hcl (Cs := []) (cuts := [(0, hb_K50_531.2.1, sy_args 0 hb_K50_531.2.2.1, (1, []))]) (m0 := (1, [])) (by intro C h; cases h) rfl rfl (by decide +kernel)
/-- X4_sail -/
def hb_K50_532 : sy_Co := (50, ([sy_full, sy_full], 0, [], []), [.inr (.inl 116), .inl (6, []), .inl (0, [(0, 1)]), .inl (0, [(1, 1)])], [(52, 1, 3), (52, 9, 10), (53, 0, 7), (56, 0, 7)], 3, [(([sy_full, sy_full], 0, [], []), none)])
set_option maxRecDepth 100000 in
theorem hb_K50_532_ok : sy_Met hb_cl hb_lt hb_P hb_A (0, 0) hb_K50_532 := ty_met2 578 hb_Gok hb_Hok hb_An_ok hb_hcl (Cs := [hb_K50_531]) (cuts := [(0, hb_K50_532.2.1, sy_args 0 hb_K50_532.2.2.1, (6, [])), (103, ([sy_full, sy_full, sy_full, sy_full, (1, 5)], 0, [], [(52, (0, []), .inl (7, []))]), [(0, .inr (.inl 116)), (1, .inl (6, [])), (2, .inl (0, [(0, 1)])), (3, .inl (0, [(1, 1)])), (4, .inl (0, [(2, 1)])), (5, .inl (0, [(3, 1)])), (6, .inl (0, [(4, 1)]))], (6, [(4, (-1))]))]) (m0 := (6, [])) (by
  intro C h
  simp only [List.mem_cons, List.not_mem_nil, or_false] at h
  rcases h with rfl
  · exact hb_K50_531_ok) rfl rfl (by decide +kernel)
/-- X4_sail -/
def hb_K50_533 : sy_Co := (50, ([sy_full, sy_full], 0, [], []), [.inr (.inl 116), .inl (5, []), .inl (0, [(0, 1)]), .inl (0, [(1, 1)])], [(52, 1, 3), (52, 9, 10), (53, 0, 7), (56, 0, 7)], 4, [(([sy_full, sy_full], 0, [], []), none)])
set_option maxRecDepth 100000 in
theorem hb_K50_533_ok : sy_Met hb_cl hb_lt hb_P hb_A (0, 0) hb_K50_533 := ty_met2 578 hb_Gok hb_Hok hb_An_ok hb_hcl (Cs := [hb_K50_532]) (cuts := [(0, hb_K50_533.2.1, sy_args 0 hb_K50_533.2.2.1, (6, [])), (103, ([sy_full, sy_full, sy_full, sy_full, (1, 5), (6, 7)], 0, [], [(52, (0, []), .inl (0, [(5, 1)]))]), [(0, .inr (.inl 116)), (1, .inl (5, [])), (2, .inl (0, [(0, 1)])), (3, .inl (0, [(1, 1)])), (4, .inl (0, [(2, 1)])), (5, .inl (0, [(3, 1)])), (6, .inl (0, [(4, 1)]))], (6, [(4, (-1))]))]) (m0 := (6, [])) (by
  intro C h
  simp only [List.mem_cons, List.not_mem_nil, or_false] at h
  rcases h with rfl
  · exact hb_K50_532_ok) rfl rfl (by decide +kernel)
/-- X4_sail -/
def hb_K50_534 : sy_Co := (50, ([sy_full, sy_full], 0, [], []), [.inr (.inl 116), .inl (4, []), .inl (0, [(0, 1)]), .inl (0, [(1, 1)])], [(52, 1, 3), (52, 9, 10), (53, 0, 7), (56, 0, 7)], 5, [(([sy_full, sy_full], 0, [], []), none)])
set_option maxRecDepth 100000 in
theorem hb_K50_534_ok : sy_Met hb_cl hb_lt hb_P hb_A (0, 0) hb_K50_534 := ty_met2 578 hb_Gok hb_Hok hb_An_ok hb_hcl (Cs := [hb_K50_533]) (cuts := [(0, hb_K50_534.2.1, sy_args 0 hb_K50_534.2.2.1, (6, [])), (103, ([sy_full, sy_full, sy_full, sy_full, (1, 5), (5, 7)], 0, [], [(52, (0, []), .inl (0, [(5, 1)]))]), [(0, .inr (.inl 116)), (1, .inl (4, [])), (2, .inl (0, [(0, 1)])), (3, .inl (0, [(1, 1)])), (4, .inl (0, [(2, 1)])), (5, .inl (0, [(3, 1)])), (6, .inl (0, [(4, 1)]))], (6, [(4, (-1))]))]) (m0 := (6, [])) (by
  intro C h
  simp only [List.mem_cons, List.not_mem_nil, or_false] at h
  rcases h with rfl
  · exact hb_K50_533_ok) rfl rfl (by decide +kernel)
/-- X4_sail -/
def hb_K50_535 : sy_Co := (50, ([sy_full, sy_full], 0, [], []), [.inr (.inl 116), .inl (3, []), .inl (0, [(0, 1)]), .inl (0, [(1, 1)])], [(52, 1, 3), (52, 9, 10), (53, 0, 7), (56, 0, 7)], 6, [(([sy_full, sy_full], 0, [], []), none)])
set_option maxRecDepth 100000 in
theorem hb_K50_535_ok : sy_Met hb_cl hb_lt hb_P hb_A (0, 0) hb_K50_535 := ty_met2 578 hb_Gok hb_Hok hb_An_ok hb_hcl (Cs := [hb_K50_534]) (cuts := [(0, hb_K50_535.2.1, sy_args 0 hb_K50_535.2.2.1, (6, [])), (103, ([sy_full, sy_full, sy_full, sy_full, (1, 5), (4, 7)], 0, [], [(52, (0, []), .inl (0, [(5, 1)]))]), [(0, .inr (.inl 116)), (1, .inl (3, [])), (2, .inl (0, [(0, 1)])), (3, .inl (0, [(1, 1)])), (4, .inl (0, [(2, 1)])), (5, .inl (0, [(3, 1)])), (6, .inl (0, [(4, 1)]))], (6, [(4, (-1))]))]) (m0 := (6, [])) (by
  intro C h
  simp only [List.mem_cons, List.not_mem_nil, or_false] at h
  rcases h with rfl
  · exact hb_K50_534_ok) rfl rfl (by decide +kernel)
/-- X4_sail -/
def hb_K50_536 : sy_Co := (50, ([sy_full, sy_full], 0, [], []), [.inr (.inl 116), .inl (2, []), .inl (0, [(0, 1)]), .inl (0, [(1, 1)])], [(52, 1, 3), (52, 9, 10), (53, 0, 7), (56, 0, 7)], 7, [(([sy_full, sy_full], 0, [], []), none)])
set_option maxRecDepth 100000 in
theorem hb_K50_536_ok : sy_Met hb_cl hb_lt hb_P hb_A (0, 0) hb_K50_536 := ty_met2 578 hb_Gok hb_Hok hb_An_ok hb_hcl (Cs := [hb_K50_535]) (cuts := [(0, hb_K50_536.2.1, sy_args 0 hb_K50_536.2.2.1, (6, [])), (103, ([sy_full, sy_full, sy_full, sy_full, (1, 5), (3, 7)], 0, [], [(52, (0, []), .inl (0, [(5, 1)]))]), [(0, .inr (.inl 116)), (1, .inl (2, [])), (2, .inl (0, [(0, 1)])), (3, .inl (0, [(1, 1)])), (4, .inl (0, [(2, 1)])), (5, .inl (0, [(3, 1)])), (6, .inl (0, [(4, 1)]))], (6, [(4, (-1))]))]) (m0 := (6, [])) (by
  intro C h
  simp only [List.mem_cons, List.not_mem_nil, or_false] at h
  rcases h with rfl
  · exact hb_K50_535_ok) rfl rfl (by decide +kernel)
/-- X4_sail -/
def hb_K50_537 : sy_Co := (50, ([sy_full, sy_full], 0, [], []), [.inr (.inl 116), .inl (1, []), .inl (0, [(0, 1)]), .inl (0, [(1, 1)])], [(52, 1, 3), (52, 9, 10), (53, 0, 7), (56, 0, 7)], 8, [(([sy_full, sy_full], 0, [], []), none)])
set_option maxRecDepth 100000 in
theorem hb_K50_537_ok : sy_Met hb_cl hb_lt hb_P hb_A (0, 0) hb_K50_537 := ty_met2 578 hb_Gok hb_Hok hb_An_ok hb_hcl (Cs := [hb_K50_536]) (cuts := [(0, hb_K50_537.2.1, sy_args 0 hb_K50_537.2.2.1, (6, [])), (103, ([sy_full, sy_full, sy_full, sy_full, (1, 5), (2, 7)], 0, [], [(52, (0, []), .inl (0, [(5, 1)]))]), [(0, .inr (.inl 116)), (1, .inl (1, [])), (2, .inl (0, [(0, 1)])), (3, .inl (0, [(1, 1)])), (4, .inl (0, [(2, 1)])), (5, .inl (0, [(3, 1)])), (6, .inl (0, [(4, 1)]))], (6, [(4, (-1))]))]) (m0 := (6, [])) (by
  intro C h
  simp only [List.mem_cons, List.not_mem_nil, or_false] at h
  rcases h with rfl
  · exact hb_K50_536_ok) rfl rfl (by decide +kernel)
/-- X4_sail -/
def hb_K50_538 : sy_Co := (50, ([(0, 0), (0, 0)], 0, [], []), [.inr (.inl 116), .inl (0, []), .inl (0, [(0, 1)]), .inl (0, [(1, 1)])], [(52, 1, 3), (52, 9, 10), (53, 0, 7), (56, 0, 7)], 9, [(([(0, 0), (0, 0)], 0, [], []), none)])
set_option maxRecDepth 100000 in
theorem hb_K50_538_ok : sy_Met hb_cl hb_lt hb_P hb_A (0, 0) hb_K50_538 := ty_met2 570 hb_Gok hb_Hok hb_An_ok hb_hcl (Cs := [hb_K50_537]) (cuts := [(0, hb_K50_538.2.1, sy_args 0 hb_K50_538.2.2.1, (6, [])), (103, ([(0, 0), (0, 0), sy_full, sy_full, (1, 5), (1, 7)], 0, [], [(52, (0, []), .inl (0, [(5, 1)]))]), [(0, .inr (.inl 116)), (1, .inl (0, [])), (2, .inl (0, [])), (3, .inl (0, [])), (4, .inl (0, [(2, 1)])), (5, .inl (0, [(3, 1)])), (6, .inl (0, [(4, 1)]))], (6, [(4, (-1))]))]) (m0 := (6, [])) (by
  intro C h
  simp only [List.mem_cons, List.not_mem_nil, or_false] at h
  rcases h with rfl
  · exact hb_K50_537_ok) rfl rfl (by decide +kernel)
/-- X4_find -/
def hb_K47_539 : sy_Co := (47, ([(0, 9999)], 0, [], []), [.inr (.inl 116), .inl (0, [(0, 1)])], [(52, 1, 3), (52, 9, 11), (53, 0, 7), (56, 0, 7), (57, 0, 8), (58, 0, 8)], 10, [(([(0, 9999), (0, 1)], 0, [], []), some (.inl (0, [(1, 1)])))])
set_option maxRecDepth 100000 in
theorem hb_K47_539_ok : sy_Met hb_cl hb_lt hb_P hb_A (0, 0) hb_K47_539 := ty_met2 396 hb_Gok hb_Hok hb_An_ok hb_hcl (Cs := [hb_K50_538]) (cuts := [(0, hb_K47_539.2.1, sy_args 0 hb_K47_539.2.2.1, (9, [])), (37, ([(0, 9999), ((-1), 6)], 0, [], [(52, (9, []), .inl (0, [])), (52, (10, []), .inl (0, [(0, 1)]))]), [(0, .inr (.inl 116)), (1, .inl (0, [(0, 1)])), (2, .inl (0, [(1, 1)]))], (2, [(1, 1)]))]) (m0 := (9, [])) (by
  intro C h
  simp only [List.mem_cons, List.not_mem_nil, or_false] at h
  rcases h with rfl
  · exact hb_K50_538_ok) rfl rfl (by decide +kernel)
/-- X11_run -/
def hb_K161_540 : sy_Co := (161, ([sy_full, sy_full], 0, [], []), [.inr (.inl 64), .inl (0, [(0, 1)]), .inl (0, [(1, 1)])], [(52, 1, 3), (52, 9, 11), (53, 0, 7), (56, 0, 7), (57, 0, 8), (58, 0, 8)], 11, [(([sy_full, sy_full, sy_full], 0, [], []), some (.inl (0, [(2, 1)])))])
set_option maxRecDepth 100000 in
theorem hb_K161_540_ok : sy_Met hb_cl hb_lt hb_P hb_A (0, 0) hb_K161_540 := ty_met2 356 hb_Gok hb_Hok hb_An_ok hb_hcl (Cs := [hb_K47_539]) (cuts := [(0, hb_K161_540.2.1, sy_args 0 hb_K161_540.2.2.1, (1, []))]) (m0 := (1, [])) (by
  intro C h
  simp only [List.mem_cons, List.not_mem_nil, or_false] at h
  rcases h with rfl
  · exact hb_K47_539_ok) rfl rfl (by decide +kernel)
/-- X2_lay -/
def hb_K24_541 : sy_Co := (24, ([(0, 3), ((-2147483648), 40)], 0, [], []), [.inr (.inl 206), .inl (0, [(0, 1)]), .inl ((-1), []), .inl (0, [(1, 1)])], [(143, 0, 4), (147, 0, 4), (148, 0, 160)], 0, [(([(0, 3), ((-2147483648), 40)], 0, [], []), none)])
set_option maxRecDepth 100000 in
theorem hb_K24_541_ok : sy_Met hb_cl hb_lt hb_P hb_A (0, 0) hb_K24_541 := ty_met2 260 hb_Gok hb_Hok hb_An_ok hb_hcl (Cs := []) (cuts := [(0, hb_K24_541.2.1, sy_args 0 hb_K24_541.2.2.1, (42, [])), (26, ([(0, 3), ((-2147483648), 40), (0, 40)], 0, [], []), [(0, .inr (.inl 206)), (1, .inl (0, [(0, 1)])), (2, .inl ((-1), [])), (3, .inl (0, [(1, 1)])), (4, .inl (0, [(2, 1)]))], (41, [(2, (-1))]))]) (m0 := (42, [])) (by intro C h; cases h) rfl rfl (by decide +kernel)
/-- X2_lay -/
def hb_K24_542 : sy_Co := (24, ([(0, 3), (0, 4), (0, 40)], 0, [], []), [.inr (.inl 206), .inl (0, [(0, 1)]), .inl (0, [(1, 1)]), .inl (0, [(2, 1)])], [(143, 0, 4), (147, 0, 4), (148, 0, 160)], 0, [(([(0, 3), (0, 4), (0, 40)], 0, [], []), none)])
set_option maxRecDepth 100000 in
theorem hb_K24_542_ok : sy_Met hb_cl hb_lt hb_P hb_A (0, 0) hb_K24_542 := ty_met2 258 hb_Gok hb_Hok hb_An_ok hb_hcl (Cs := []) (cuts := [(0, hb_K24_542.2.1, sy_args 0 hb_K24_542.2.2.1, (42, [])), (26, ([(0, 3), (0, 4), (0, 40), (0, 40)], 0, [], []), [(0, .inr (.inl 206)), (1, .inl (0, [(0, 1)])), (2, .inl (0, [(1, 1)])), (3, .inl (0, [(2, 1)])), (4, .inl (0, [(3, 1)]))], (41, [(3, (-1))]))]) (m0 := (42, [])) (by intro C h; cases h) rfl rfl (by decide +kernel)
/-- X11_sheet -/
def hb_K162_543 : sy_Co := (162, ([sy_full, sy_full, sy_full], 0, [], []), [.inr (.inl 64), .inl (0, [(0, 1)]), .inl (0, [(1, 1)]), .inl (0, [(2, 1)])], [(143, 0, 4), (147, 0, 4), (148, 0, 160)], 1, [(([sy_full, sy_full, sy_full, ((-14), 1)], 0, [], []), some (.inl (0, [(3, 1)])))])
set_option maxRecDepth 100000 in
theorem hb_K162_543_ok : sy_Met hb_cl hb_lt hb_P hb_A (0, 0) hb_K162_543 := ty_met2 328 hb_Gok hb_Hok hb_An_ok hb_hcl (Cs := [hb_K24_541, hb_K24_542]) (cuts := [(0, hb_K162_543.2.1, sy_args 0 hb_K162_543.2.2.1, (1, []))]) (m0 := (1, [])) (by
  intro C h
  simp only [List.mem_cons, List.not_mem_nil, or_false] at h
  rcases h with rfl | rfl
  · exact hb_K24_541_ok
  · exact hb_K24_542_ok) rfl rfl (by decide +kernel)
/-- X11_put -/
def hb_K163_544 : sy_Co := (163, ([sy_full, sy_full, sy_full], 0, [], []), [.inr (.inl 64), .inl (0, [(0, 1)]), .inl (0, [(1, 1)]), .inl (0, [(2, 1)])], [(148, 0, 160)], 2, [(([sy_full, sy_full, sy_full, ((-12), 1)], 0, [], []), some (.inl (0, [(3, 1)])))])
set_option maxRecDepth 100000 in
theorem hb_K163_544_ok : sy_Met hb_cl hb_lt hb_P hb_A (0, 0) hb_K163_544 := ty_met2 448 hb_Gok hb_Hok hb_An_ok hb_hcl (Cs := []) (cuts := [(0, hb_K163_544.2.1, sy_args 0 hb_K163_544.2.2.1, (1, []))]) (m0 := (1, [])) (by intro C h; cases h) rfl rfl (by decide +kernel)
/-- X11_item -/
def hb_K164_545 : sy_Co := (164, ([sy_full, sy_full, sy_full], 0, [], []), [.inr (.inl 64), .inl (0, [(0, 1)]), .inl (0, [(1, 1)]), .inl (0, [(2, 1)])], [], 1, [(([sy_full, sy_full, sy_full, sy_full], 0, [], []), some (.inl (0, [(3, 1)])))])
set_option maxRecDepth 100000 in
theorem hb_K164_545_ok : sy_Met hb_cl hb_lt hb_P hb_A (0, 0) hb_K164_545 := ty_met2 434 hb_Gok hb_Hok hb_An_ok hb_hcl (Cs := []) (cuts := [(0, hb_K164_545.2.1, sy_args 0 hb_K164_545.2.2.1, (1, []))]) (m0 := (1, [])) (by intro C h; cases h) rfl rfl (by decide +kernel)
/-- X11_sound -/
def hb_K165_546 : sy_Co := (165, ([sy_full, sy_full, sy_full, sy_full, sy_full], 0, [], []), [.inr (.inl 64), .inl (0, [(0, 1)]), .inl (0, [(1, 1)]), .inl (0, [(2, 1)]), .inl (0, [(3, 1)]), .inl (0, [(4, 1)])], [(10, 0, 1), (10, 3, 4), (11, 0, 16), (12, 0, 16), (13, 0, 16), (14, 0, 16)], 2, [(([sy_full, sy_full, sy_full, sy_full, sy_full, sy_full], 0, [], []), some (.inl (0, [(5, 1)])))])
set_option maxRecDepth 100000 in
theorem hb_K165_546_ok : sy_Met hb_cl hb_lt hb_P hb_A (0, 0) hb_K165_546 := ty_met2 748 hb_Gok hb_Hok hb_An_ok hb_hcl (Cs := [hb_K128_15]) (cuts := [(0, hb_K165_546.2.1, sy_args 0 hb_K165_546.2.2.1, (11, [])), (67, ([(0, 7), (0, 60), (0, 3), sy_full, (0, 9)], 0, [], []), [(0, .inr (.inl 64)), (1, .inl (0, [(0, 1)])), (2, .inl (0, [(1, 1)])), (3, .inl (0, [(2, 1)])), (4, .inl (0, [(3, 1)])), (5, .inl (0, [(4, 1)])), (6, .inl (0, [])), (7, .inl (0, [])), (8, .inl (0, []))], (10, [])), (67, ([(0, 7), (0, 60), (0, 3), (0, 39), (1, 9), (1, 9), sy_full, ((-1), 15), sy_full], 0, [], []), [(0, .inr (.inl 64)), (1, .inl (0, [(0, 1)])), (2, .inl (0, [(1, 1)])), (3, .inl (0, [(2, 1)])), (4, .inl (0, [(3, 1)])), (5, .inl (0, [(4, 1)])), (6, .inl (0, [])), (7, .inl (0, [(8, 1)])), (8, .inl (0, [(5, 1)])), (9, .inl (0, [(6, 1)])), (10, .inl (0, [(7, 1)]))], (10, [(5, (-1))]))]) (m0 := (11, [])) (by
  intro C h
  simp only [List.mem_cons, List.not_mem_nil, or_false] at h
  rcases h with rfl
  · exact hb_K128_15_ok) rfl rfl (by decide +kernel)

end

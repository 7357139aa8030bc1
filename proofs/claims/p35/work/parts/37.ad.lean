noncomputable section
/-! CONTRACTS, 37, 4 -/
/-- X7_firstHeard -/
def hb_K93_128 : sy_Co := (93, ([(0, 5)], 0, [], []), [.inr (.inl 93), .inl (0, [(0, 1)])], [], 2, [(([(0, 5), sy_full], 0, [], []), some (.inl (0, [(1, 1)])))])
set_option maxRecDepth 100000 in
theorem hb_K93_128_ok : sy_Met hb_cl hb_lt hb_P hb_A (0, 0) hb_K93_128 := ty_met2 390 hb_Gok hb_Hok hb_An_ok hb_hcl (Cs := []) (cuts := [(0, hb_K93_128.2.1, sy_args 0 hb_K93_128.2.2.1, (12, [])), (5, ([(0, 5), sy_full, (0, 10)], 0, [], []), [(0, .inr (.inl 93)), (1, .inl (0, [(0, 1)])), (2, .inl (0, [(1, 1)])), (3, .inl (0, [(2, 1)]))], (11, [(2, (-1))]))]) (m0 := (12, [])) (by intro C h; cases h) rfl rfl (by decide +kernel)
/-- X11_comes -/
def hb_K145_129 : sy_Co := (145, ([sy_full], 0, [], []), [.inr (.inl 64), .inl (0, [(0, 1)])], [], 4, [(([sy_full, sy_full], 0, [], []), some (.inl (0, [(1, 1)])))])
set_option maxRecDepth 100000 in
theorem hb_K145_129_ok : sy_Met hb_cl hb_lt hb_P hb_A (0, 0) hb_K145_129 := ty_met2 356 hb_Gok hb_Hok hb_An_ok hb_hcl (Cs := [hb_K93_128]) (cuts := [(0, hb_K145_129.2.1, sy_args 0 hb_K145_129.2.2.1, (1, []))]) (m0 := (1, [])) (by
  intro C h
  simp only [List.mem_cons, List.not_mem_nil, or_false] at h
  rcases h with rfl
  · exact hb_K93_128_ok) rfl rfl (by decide +kernel)
/-- X11_light -/
def hb_K146_130 : sy_Co := (146, ([sy_full, sy_full, sy_full], 0, [], []), [.inr (.inl 64), .inl (0, [(0, 1)]), .inl (0, [(1, 1)]), .inl (0, [(2, 1)])], [(29, 9, 10), (36, 0, 8), (37, 0, 8), (38, 0, 8)], 1, [(([sy_full, sy_full, sy_full, ((-2), 7)], 0, [], []), some (.inl (0, [(3, 1)])))])
set_option maxRecDepth 100000 in
theorem hb_K146_130_ok : sy_Met hb_cl hb_lt hb_P hb_A (0, 0) hb_K146_130 := ty_met2 404 hb_Gok hb_Hok hb_An_ok hb_hcl (Cs := []) (cuts := [(0, hb_K146_130.2.1, sy_args 0 hb_K146_130.2.2.1, (1, []))]) (m0 := (1, [])) (by intro C h; cases h) rfl rfl (by decide +kernel)
/-- X7_shipsOf -/
def hb_K95_131 : sy_Co := (95, ([(0, 7)], 0, [], []), [.inr (.inl 93), .inl (0, [(0, 1)])], [], 4, [(([(0, 7), (0, 63)], 0, [], []), some (.inl (0, [(1, 1)])))])
set_option maxRecDepth 100000 in
theorem hb_K95_131_ok : sy_Met hb_cl hb_lt hb_P hb_A (0, 0) hb_K95_131 := ty_met2 698 hb_Gok hb_Hok hb_An_ok hb_hcl (Cs := [hb_K93_128]) (cuts := [(0, hb_K95_131.2.1, sy_args 0 hb_K95_131.2.2.1, (8, [])), (4, ([(0, 7), (0, 63), (0, 6)], 0, [], []), [(0, .inr (.inl 93)), (1, .inl (0, [(0, 1)])), (2, .inl (0, [(1, 1)])), (3, .inl (0, [(2, 1)]))], (7, [(2, (-1))]))]) (m0 := (8, [])) (by
  intro C h
  simp only [List.mem_cons, List.not_mem_nil, or_false] at h
  rcases h with rfl
  · exact hb_K93_128_ok) rfl rfl (by decide +kernel)
/-- X11_mayBe -/
def hb_K147_132 : sy_Co := (147, ([sy_full], 0, [], []), [.inr (.inl 64), .inl (0, [(0, 1)])], [], 5, [(([sy_full, ((-1), 63)], 0, [], []), some (.inl (0, [(1, 1)])))])
set_option maxRecDepth 100000 in
theorem hb_K147_132_ok : sy_Met hb_cl hb_lt hb_P hb_A (0, 0) hb_K147_132 := ty_met2 262 hb_Gok hb_Hok hb_An_ok hb_hcl (Cs := [hb_K95_131]) (cuts := [(0, hb_K147_132.2.1, sy_args 0 hb_K147_132.2.2.1, (1, []))]) (m0 := (1, [])) (by
  intro C h
  simp only [List.mem_cons, List.not_mem_nil, or_false] at h
  rcases h with rfl
  · exact hb_K95_131_ok) rfl rfl (by decide +kernel)
/-- X11_sure -/
def hb_K148_133 : sy_Co := (148, ([sy_full], 0, [], []), [.inr (.inl 64), .inl (0, [(0, 1)])], [], 5, [(([sy_full, ((-3), 31)], 0, [], []), some (.inl (0, [(1, 1)])))])
set_option maxRecDepth 100000 in
theorem hb_K148_133_ok : sy_Met hb_cl hb_lt hb_P hb_A (0, 0) hb_K148_133 := ty_met2 368 hb_Gok hb_Hok hb_An_ok hb_hcl (Cs := [hb_K175_114, hb_K95_131]) (cuts := [(0, hb_K148_133.2.1, sy_args 0 hb_K148_133.2.2.1, (1, []))]) (m0 := (1, [])) (by
  intro C h
  simp only [List.mem_cons, List.not_mem_nil, or_false] at h
  rcases h with rfl | rfl
  · exact hb_K175_114_ok
  · exact hb_K95_131_ok) rfl rfl (by decide +kernel)
/-- X11_list -/
def hb_K149_134 : sy_Co := (149, ([sy_full, sy_full], 0, [], []), [.inr (.inl 64), .inl (0, [(0, 1)]), .inl (0, [(1, 1)])], [(40, 0, 3)], 1, [(([sy_full, sy_full, sy_full], 0, [], []), some (.inl (0, [(2, 1)])))])
set_option maxRecDepth 100000 in
theorem hb_K149_134_ok : sy_Met hb_cl hb_lt hb_P hb_A (0, 0) hb_K149_134 := ty_met2 314 hb_Gok hb_Hok hb_An_ok hb_hcl (Cs := []) (cuts := [(0, hb_K149_134.2.1, sy_args 0 hb_K149_134.2.2.1, (1, []))]) (m0 := (1, [])) (by intro C h; cases h) rfl rfl (by decide +kernel)
/-- X11_names -/
def hb_K150_135 : sy_Co := (150, ([sy_full], 0, [], []), [.inr (.inl 64), .inl (0, [(0, 1)])], [], 2, [(([sy_full, sy_full], 0, [], []), some (.inl (0, [(1, 1)])))])
set_option maxRecDepth 100000 in
theorem hb_K150_135_ok : sy_Met hb_cl hb_lt hb_P hb_A (0, 0) hb_K150_135 := ty_met2 422 hb_Gok hb_Hok hb_An_ok hb_hcl (Cs := []) (cuts := [(0, hb_K150_135.2.1, sy_args 0 hb_K150_135.2.2.1, (1, []))]) (m0 := (1, [])) (by intro C h; cases h) rfl rfl (by decide +kernel)
/-- X11_sworn -/
def hb_K151_136 : sy_Co := (151, ([sy_full], 0, [], []), [.inr (.inl 64), .inl (0, [(0, 1)])], [(39, 1, 2), (41, 0, 12), (42, 0, 12), (43, 0, 12)], 1, [(([sy_full, ((-2), 11)], 0, [], []), some (.inl (0, [(1, 1)])))])
set_option maxRecDepth 100000 in
theorem hb_K151_136_ok : sy_Met hb_cl hb_lt hb_P hb_A (0, 0) hb_K151_136 := ty_met2 336 hb_Gok hb_Hok hb_An_ok hb_hcl (Cs := []) (cuts := [(0, hb_K151_136.2.1, sy_args 0 hb_K151_136.2.2.1, (1, []))]) (m0 := (1, [])) (by intro C h; cases h) rfl rfl (by decide +kernel)
/-- X10_standAt -/
def hb_K119_137 : sy_Co := (119, ([sy_full], 0, [], []), [.inr (.inl 103), .inl (0, [(0, 1)])], [], 0, [(([sy_full, (0, 4095)], 0, [], []), some (.inl (0, [(1, 1)])))])
set_option maxRecDepth 100000 in
theorem hb_K119_137_ok : sy_Met hb_cl hb_lt hb_P hb_A (0, 0) hb_K119_137 := ty_met2 396 hb_Gok hb_Hok hb_An_ok hb_hcl (Cs := []) (cuts := [(0, hb_K119_137.2.1, sy_args 0 hb_K119_137.2.2.1, (14, [])), (4, ([sy_full, (0, 4095), (0, 12)], 0, [], []), [(0, .inr (.inl 103)), (1, .inl (0, [(0, 1)])), (2, .inl (0, [(1, 1)])), (3, .inl (0, [(2, 1)]))], (13, [(2, (-1))]))]) (m0 := (14, [])) (by intro C h; cases h) rfl rfl (by decide +kernel)
/-- X11_takeBack -/
def hb_K152_138 : sy_Co := (152, ([sy_full], 0, [], []), [.inr (.inl 64), .inl (0, [(0, 1)])], [(42, 0, 12)], 1, [(([sy_full, ((-4), 63)], 0, [], []), some (.inl (0, [(1, 1)])))])
set_option maxRecDepth 100000 in
theorem hb_K152_138_ok : sy_Met hb_cl hb_lt hb_P hb_A (0, 0) hb_K152_138 := ty_met2 388 hb_Gok hb_Hok hb_An_ok hb_hcl (Cs := [hb_K119_137]) (cuts := [(0, hb_K152_138.2.1, sy_args 0 hb_K152_138.2.2.1, (1, []))]) (m0 := (1, [])) (by
  intro C h
  simp only [List.mem_cons, List.not_mem_nil, or_false] at h
  rcases h with rfl
  · exact hb_K119_137_ok) rfl rfl (by decide +kernel)
/-- X11_standing -/
def hb_K153_139 : sy_Co := (153, ([sy_full], 0, [], []), [.inr (.inl 64), .inl (0, [(0, 1)])], [], 1, [(([sy_full, ((-1), 4095)], 0, [], []), some (.inl (0, [(1, 1)])))])
set_option maxRecDepth 100000 in
theorem hb_K153_139_ok : sy_Met hb_cl hb_lt hb_P hb_A (0, 0) hb_K153_139 := ty_met2 248 hb_Gok hb_Hok hb_An_ok hb_hcl (Cs := [hb_K119_137]) (cuts := [(0, hb_K153_139.2.1, sy_args 0 hb_K153_139.2.2.1, (1, []))]) (m0 := (1, [])) (by
  intro C h
  simp only [List.mem_cons, List.not_mem_nil, or_false] at h
  rcases h with rfl
  · exact hb_K119_137_ok) rfl rfl (by decide +kernel)
/-- X5_take -/
def hb_K52_140 : sy_Co := (52, ([(1, 8)], 1, [], []), [.inr (.inl 201), .inr (.inr 0), .inl (0, [(0, 1)])], [(137, 0, 1), (138, 0, 200)], 0, [(([(1, 8), (0, 200)], 1, [], []), some (.inl (0, [(1, 1)])))])
set_option maxRecDepth 100000 in
theorem hb_K52_140_ok : sy_Met hb_cl hb_lt hb_P hb_A (0, 0) hb_K52_140 := ty_met2 268 hb_Gok hb_Hok hb_An_ok hb_hcl (Cs := []) (cuts := [(0, hb_K52_140.2.1, sy_args 0 hb_K52_140.2.2.1, (10, [])), (3, ([(1, 8), (0, 8)], 2, [], []), [(0, .inr (.inl 201)), (1, .inr (.inr 1)), (3, .inl (0, [(0, 1)])), (4, .inl (0, [(1, 1)]))], (9, [(1, (-1))]))]) (m0 := (10, [])) (by intro C h; cases h) rfl rfl (by decide +kernel)
/-- X11_feed -/
def hb_K154_141 : sy_Co := (154, ([sy_full], 1, [], []), [.inr (.inl 64), .inr (.inr 0), .inl (0, [(0, 1)])], [(137, 0, 1), (138, 0, 200)], 1, [(([sy_full, ((-2), 200)], 1, [], []), some (.inl (0, [(1, 1)])))])
set_option maxRecDepth 100000 in
theorem hb_K154_141_ok : sy_Met hb_cl hb_lt hb_P hb_A (0, 0) hb_K154_141 := ty_met2 272 hb_Gok hb_Hok hb_An_ok hb_hcl (Cs := [hb_K52_140]) (cuts := [(0, hb_K154_141.2.1, sy_args 0 hb_K154_141.2.2.1, (1, []))]) (m0 := (1, [])) (by
  intro C h
  simp only [List.mem_cons, List.not_mem_nil, or_false] at h
  rcases h with rfl
  · exact hb_K52_140_ok) rfl rfl (by decide +kernel)
/-- X5_numberAt -/
def hb_K58_482 : sy_Co := (58, ([(0, 199), (1, 200)], 0, [], []), [.inr (.inl 201), .inl (0, [(0, 1)]), .inl (0, [(1, 1)])], [], 0, [(([(0, 199), (1, 200), sy_full], 0, [], []), some (.inl (0, [(2, 1)])))])
set_option maxRecDepth 100000 in
theorem hb_K58_482_ok : sy_Met hb_cl hb_lt hb_P hb_A (0, 0) hb_K58_482 := ty_met2 260 hb_Gok hb_Hok hb_An_ok hb_hcl (Cs := []) (cuts := [(0, hb_K58_482.2.1, sy_args 0 hb_K58_482.2.2.1, (202, [])), (14, ([(0, 199), (1, 200), sy_full, (0, 200)], 0, [], []), [(0, .inr (.inl 201)), (1, .inl (0, [(0, 1)])), (2, .inl (0, [(1, 1)])), (3, .inl (0, [(2, 1)])), (4, .inl (0, [(3, 1)]))], (201, [(3, (-1))]))]) (m0 := (202, [])) (by intro C h; cases h) rfl rfl (by decide +kernel)
/-- X5_is -/
def hb_K60_483 : sy_Co := (60, ([(0, 198)], 0, [], []), [.inr (.inl 201), .inr (.inl 1), .inl (0, [(0, 1)])], [], 4, [(([(0, 198), (0, 1)], 0, [], []), some (.inl (0, [(1, 1)])))])
set_option maxRecDepth 100000 in
theorem hb_K60_483_ok : sy_Met hb_cl hb_lt hb_P hb_A (0, 0) hb_K60_483 := ty_met2 360 hb_Gok hb_Hok hb_An_ok hb_hcl (Cs := []) (cuts := [(0, hb_K60_483.2.1, sy_args 0 hb_K60_483.2.2.1, (4, [])), (2, ([(0, 198), (0, 2)], 0, [], []), [(0, .inr (.inl 201)), (1, .inr (.inl 1)), (2, .inl (0, [(0, 1)])), (3, .inl (0, [(1, 1)]))], (3, [(1, (-1))]))]) (m0 := (4, [])) (by intro C h; cases h) rfl rfl (by decide +kernel)
/-- X5_is -/
def hb_K60_484 : sy_Co := (60, ([(0, 198)], 0, [], []), [.inr (.inl 201), .inr (.inl 2), .inl (0, [(0, 1)])], [], 4, [(([(0, 198), (0, 1)], 0, [], []), some (.inl (0, [(1, 1)])))])
set_option maxRecDepth 100000 in
theorem hb_K60_484_ok : sy_Met hb_cl hb_lt hb_P hb_A (0, 0) hb_K60_484 := ty_met2 360 hb_Gok hb_Hok hb_An_ok hb_hcl (Cs := []) (cuts := [(0, hb_K60_484.2.1, sy_args 0 hb_K60_484.2.2.1, (4, [])), (2, ([(0, 198), (0, 2)], 0, [], []), [(0, .inr (.inl 201)), (1, .inr (.inl 2)), (2, .inl (0, [(0, 1)])), (3, .inl (0, [(1, 1)]))], (3, [(1, (-1))]))]) (m0 := (4, [])) (by intro C h; cases h) rfl rfl (by decide +kernel)
/-- X5_is -/
def hb_K60_485 : sy_Co := (60, ([(0, 197)], 0, [], []), [.inr (.inl 201), .inr (.inl 3), .inl (0, [(0, 1)])], [], 4, [(([(0, 197), (0, 1)], 0, [], []), some (.inl (0, [(1, 1)])))])
set_option maxRecDepth 100000 in
theorem hb_K60_485_ok : sy_Met hb_cl hb_lt hb_P hb_A (0, 0) hb_K60_485 := ty_met2 360 hb_Gok hb_Hok hb_An_ok hb_hcl (Cs := []) (cuts := [(0, hb_K60_485.2.1, sy_args 0 hb_K60_485.2.2.1, (5, [])), (2, ([(0, 197), (0, 3)], 0, [], []), [(0, .inr (.inl 201)), (1, .inr (.inl 3)), (2, .inl (0, [(0, 1)])), (3, .inl (0, [(1, 1)]))], (4, [(1, (-1))]))]) (m0 := (5, [])) (by intro C h; cases h) rfl rfl (by decide +kernel)
/-- X5_is -/
def hb_K60_486 : sy_Co := (60, ([(0, 197)], 0, [], []), [.inr (.inl 201), .inr (.inl 4), .inl (0, [(0, 1)])], [], 4, [(([(0, 197), (0, 1)], 0, [], []), some (.inl (0, [(1, 1)])))])
set_option maxRecDepth 100000 in
theorem hb_K60_486_ok : sy_Met hb_cl hb_lt hb_P hb_A (0, 0) hb_K60_486 := ty_met2 360 hb_Gok hb_Hok hb_An_ok hb_hcl (Cs := []) (cuts := [(0, hb_K60_486.2.1, sy_args 0 hb_K60_486.2.2.1, (5, [])), (2, ([(0, 197), (0, 3)], 0, [], []), [(0, .inr (.inl 201)), (1, .inr (.inl 4)), (2, .inl (0, [(0, 1)])), (3, .inl (0, [(1, 1)]))], (4, [(1, (-1))]))]) (m0 := (5, [])) (by intro C h; cases h) rfl rfl (by decide +kernel)
/-- X5_is -/
def hb_K60_487 : sy_Co := (60, ([(0, 197)], 0, [], []), [.inr (.inl 201), .inr (.inl 5), .inl (0, [(0, 1)])], [], 4, [(([(0, 197), (0, 1)], 0, [], []), some (.inl (0, [(1, 1)])))])
set_option maxRecDepth 100000 in
theorem hb_K60_487_ok : sy_Met hb_cl hb_lt hb_P hb_A (0, 0) hb_K60_487 := ty_met2 360 hb_Gok hb_Hok hb_An_ok hb_hcl (Cs := []) (cuts := [(0, hb_K60_487.2.1, sy_args 0 hb_K60_487.2.2.1, (5, [])), (2, ([(0, 197), (0, 3)], 0, [], []), [(0, .inr (.inl 201)), (1, .inr (.inl 5)), (2, .inl (0, [(0, 1)])), (3, .inl (0, [(1, 1)]))], (4, [(1, (-1))]))]) (m0 := (5, [])) (by intro C h; cases h) rfl rfl (by decide +kernel)
/-- X5_is -/
def hb_K60_488 : sy_Co := (60, ([(0, 197)], 0, [], []), [.inr (.inl 201), .inr (.inl 6), .inl (0, [(0, 1)])], [], 4, [(([(0, 197), (0, 1)], 0, [], []), some (.inl (0, [(1, 1)])))])
set_option maxRecDepth 100000 in
theorem hb_K60_488_ok : sy_Met hb_cl hb_lt hb_P hb_A (0, 0) hb_K60_488 := ty_met2 360 hb_Gok hb_Hok hb_An_ok hb_hcl (Cs := []) (cuts := [(0, hb_K60_488.2.1, sy_args 0 hb_K60_488.2.2.1, (5, [])), (2, ([(0, 197), (0, 3)], 0, [], []), [(0, .inr (.inl 201)), (1, .inr (.inl 6)), (2, .inl (0, [(0, 1)])), (3, .inl (0, [(1, 1)]))], (4, [(1, (-1))]))]) (m0 := (5, [])) (by intro C h; cases h) rfl rfl (by decide +kernel)
/-- X5_is -/
def hb_K60_489 : sy_Co := (60, ([(0, 197)], 0, [], []), [.inr (.inl 201), .inr (.inl 7), .inl (0, [(0, 1)])], [], 4, [(([(0, 197), (0, 1)], 0, [], []), some (.inl (0, [(1, 1)])))])
set_option maxRecDepth 100000 in
theorem hb_K60_489_ok : sy_Met hb_cl hb_lt hb_P hb_A (0, 0) hb_K60_489 := ty_met2 360 hb_Gok hb_Hok hb_An_ok hb_hcl (Cs := []) (cuts := [(0, hb_K60_489.2.1, sy_args 0 hb_K60_489.2.2.1, (5, [])), (2, ([(0, 197), (0, 3)], 0, [], []), [(0, .inr (.inl 201)), (1, .inr (.inl 7)), (2, .inl (0, [(0, 1)])), (3, .inl (0, [(1, 1)]))], (4, [(1, (-1))]))]) (m0 := (5, [])) (by intro C h; cases h) rfl rfl (by decide +kernel)
/-- X5_is -/
def hb_K60_490 : sy_Co := (60, ([(0, 196)], 0, [], []), [.inr (.inl 201), .inr (.inl 8), .inl (0, [(0, 1)])], [], 4, [(([(0, 196), (0, 1)], 0, [], []), some (.inl (0, [(1, 1)])))])
set_option maxRecDepth 100000 in
theorem hb_K60_490_ok : sy_Met hb_cl hb_lt hb_P hb_A (0, 0) hb_K60_490 := ty_met2 360 hb_Gok hb_Hok hb_An_ok hb_hcl (Cs := []) (cuts := [(0, hb_K60_490.2.1, sy_args 0 hb_K60_490.2.2.1, (6, [])), (2, ([(0, 196), (0, 4)], 0, [], []), [(0, .inr (.inl 201)), (1, .inr (.inl 8)), (2, .inl (0, [(0, 1)])), (3, .inl (0, [(1, 1)]))], (5, [(1, (-1))]))]) (m0 := (6, [])) (by intro C h; cases h) rfl rfl (by decide +kernel)
/-- X5_is -/
def hb_K60_491 : sy_Co := (60, ([(0, 196)], 0, [], []), [.inr (.inl 201), .inr (.inl 9), .inl (0, [(0, 1)])], [], 4, [(([(0, 196), (0, 1)], 0, [], []), some (.inl (0, [(1, 1)])))])
set_option maxRecDepth 100000 in
theorem hb_K60_491_ok : sy_Met hb_cl hb_lt hb_P hb_A (0, 0) hb_K60_491 := ty_met2 360 hb_Gok hb_Hok hb_An_ok hb_hcl (Cs := []) (cuts := [(0, hb_K60_491.2.1, sy_args 0 hb_K60_491.2.2.1, (6, [])), (2, ([(0, 196), (0, 4)], 0, [], []), [(0, .inr (.inl 201)), (1, .inr (.inl 9)), (2, .inl (0, [(0, 1)])), (3, .inl (0, [(1, 1)]))], (5, [(1, (-1))]))]) (m0 := (6, [])) (by intro C h; cases h) rfl rfl (by decide +kernel)
/-- X5_is -/
def hb_K60_492 : sy_Co := (60, ([(0, 195)], 0, [], []), [.inr (.inl 201), .inr (.inl 10), .inl (0, [(0, 1)])], [], 4, [(([(0, 195), (0, 1)], 0, [], []), some (.inl (0, [(1, 1)])))])
set_option maxRecDepth 100000 in
theorem hb_K60_492_ok : sy_Met hb_cl hb_lt hb_P hb_A (0, 0) hb_K60_492 := ty_met2 360 hb_Gok hb_Hok hb_An_ok hb_hcl (Cs := []) (cuts := [(0, hb_K60_492.2.1, sy_args 0 hb_K60_492.2.2.1, (7, [])), (2, ([(0, 195), (0, 5)], 0, [], []), [(0, .inr (.inl 201)), (1, .inr (.inl 10)), (2, .inl (0, [(0, 1)])), (3, .inl (0, [(1, 1)]))], (6, [(1, (-1))]))]) (m0 := (7, [])) (by intro C h; cases h) rfl rfl (by decide +kernel)
/-- X5_is -/
def hb_K60_493 : sy_Co := (60, ([(0, 195)], 0, [], []), [.inr (.inl 201), .inr (.inl 11), .inl (0, [(0, 1)])], [], 4, [(([(0, 195), (0, 1)], 0, [], []), some (.inl (0, [(1, 1)])))])
set_option maxRecDepth 100000 in
theorem hb_K60_493_ok : sy_Met hb_cl hb_lt hb_P hb_A (0, 0) hb_K60_493 := ty_met2 360 hb_Gok hb_Hok hb_An_ok hb_hcl (Cs := []) (cuts := [(0, hb_K60_493.2.1, sy_args 0 hb_K60_493.2.2.1, (7, [])), (2, ([(0, 195), (0, 5)], 0, [], []), [(0, .inr (.inl 201)), (1, .inr (.inl 11)), (2, .inl (0, [(0, 1)])), (3, .inl (0, [(1, 1)]))], (6, [(1, (-1))]))]) (m0 := (7, [])) (by intro C h; cases h) rfl rfl (by decide +kernel)
/-- X5_is -/
def hb_K60_494 : sy_Co := (60, ([(0, 195)], 0, [], []), [.inr (.inl 201), .inr (.inl 12), .inl (0, [(0, 1)])], [], 4, [(([(0, 195), (0, 1)], 0, [], []), some (.inl (0, [(1, 1)])))])
set_option maxRecDepth 100000 in
theorem hb_K60_494_ok : sy_Met hb_cl hb_lt hb_P hb_A (0, 0) hb_K60_494 := ty_met2 360 hb_Gok hb_Hok hb_An_ok hb_hcl (Cs := []) (cuts := [(0, hb_K60_494.2.1, sy_args 0 hb_K60_494.2.2.1, (7, [])), (2, ([(0, 195), (0, 5)], 0, [], []), [(0, .inr (.inl 201)), (1, .inr (.inl 12)), (2, .inl (0, [(0, 1)])), (3, .inl (0, [(1, 1)]))], (6, [(1, (-1))]))]) (m0 := (7, [])) (by intro C h; cases h) rfl rfl (by decide +kernel)
/-- X5_is -/
def hb_K60_495 : sy_Co := (60, ([(0, 195)], 0, [], []), [.inr (.inl 201), .inr (.inl 13), .inl (0, [(0, 1)])], [], 4, [(([(0, 195), (0, 1)], 0, [], []), some (.inl (0, [(1, 1)])))])
set_option maxRecDepth 100000 in
theorem hb_K60_495_ok : sy_Met hb_cl hb_lt hb_P hb_A (0, 0) hb_K60_495 := ty_met2 360 hb_Gok hb_Hok hb_An_ok hb_hcl (Cs := []) (cuts := [(0, hb_K60_495.2.1, sy_args 0 hb_K60_495.2.2.1, (7, [])), (2, ([(0, 195), (0, 5)], 0, [], []), [(0, .inr (.inl 201)), (1, .inr (.inl 13)), (2, .inl (0, [(0, 1)])), (3, .inl (0, [(1, 1)]))], (6, [(1, (-1))]))]) (m0 := (7, [])) (by intro C h; cases h) rfl rfl (by decide +kernel)
/-- X5_is -/
def hb_K60_496 : sy_Co := (60, ([(0, 195)], 0, [], []), [.inr (.inl 201), .inr (.inl 14), .inl (0, [(0, 1)])], [], 4, [(([(0, 195), (0, 1)], 0, [], []), some (.inl (0, [(1, 1)])))])
set_option maxRecDepth 100000 in
theorem hb_K60_496_ok : sy_Met hb_cl hb_lt hb_P hb_A (0, 0) hb_K60_496 := ty_met2 360 hb_Gok hb_Hok hb_An_ok hb_hcl (Cs := []) (cuts := [(0, hb_K60_496.2.1, sy_args 0 hb_K60_496.2.2.1, (7, [])), (2, ([(0, 195), (0, 5)], 0, [], []), [(0, .inr (.inl 201)), (1, .inr (.inl 14)), (2, .inl (0, [(0, 1)])), (3, .inl (0, [(1, 1)]))], (6, [(1, (-1))]))]) (m0 := (7, [])) (by intro C h; cases h) rfl rfl (by decide +kernel)
/-- X5_is -/
def hb_K60_497 : sy_Co := (60, ([(0, 194)], 0, [], []), [.inr (.inl 201), .inr (.inl 15), .inl (0, [(0, 1)])], [], 4, [(([(0, 194), (0, 1)], 0, [], []), some (.inl (0, [(1, 1)])))])
set_option maxRecDepth 100000 in
theorem hb_K60_497_ok : sy_Met hb_cl hb_lt hb_P hb_A (0, 0) hb_K60_497 := ty_met2 360 hb_Gok hb_Hok hb_An_ok hb_hcl (Cs := []) (cuts := [(0, hb_K60_497.2.1, sy_args 0 hb_K60_497.2.2.1, (8, [])), (2, ([(0, 194), (0, 6)], 0, [], []), [(0, .inr (.inl 201)), (1, .inr (.inl 15)), (2, .inl (0, [(0, 1)])), (3, .inl (0, [(1, 1)]))], (7, [(1, (-1))]))]) (m0 := (8, [])) (by intro C h; cases h) rfl rfl (by decide +kernel)
/-- X5_is -/
def hb_K60_498 : sy_Co := (60, ([(0, 192)], 0, [], []), [.inr (.inl 201), .inr (.inl 16), .inl (0, [(0, 1)])], [], 4, [(([(0, 192), (0, 1)], 0, [], []), some (.inl (0, [(1, 1)])))])
set_option maxRecDepth 100000 in
theorem hb_K60_498_ok : sy_Met hb_cl hb_lt hb_P hb_A (0, 0) hb_K60_498 := ty_met2 360 hb_Gok hb_Hok hb_An_ok hb_hcl (Cs := []) (cuts := [(0, hb_K60_498.2.1, sy_args 0 hb_K60_498.2.2.1, (10, [])), (2, ([(0, 192), (0, 8)], 0, [], []), [(0, .inr (.inl 201)), (1, .inr (.inl 16)), (2, .inl (0, [(0, 1)])), (3, .inl (0, [(1, 1)]))], (9, [(1, (-1))]))]) (m0 := (10, [])) (by intro C h; cases h) rfl rfl (by decide +kernel)

end

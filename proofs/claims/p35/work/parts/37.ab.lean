noncomputable section
/-! CONTRACTS, 37, 2 -/
/-- X11_sinks -/
def hb_K127_13 : sy_Co := (127, ([sy_full, sy_full], 0, [], []), [.inr (.inl 64), .inl (0, [(0, 1)]), .inl (0, [(1, 1)])], [(117, 0, 2), (117, 8, 10), (118, 0, 8), (119, 0, 8), (120, 0, 8), (121, 0, 8), (122, 0, 7), (123, 0, 7), (124, 0, 8), (125, 0, 8)], 4, [(([sy_full, sy_full, sy_full], 0, [], []), some (.inl (0, [(2, 1)])))])
set_option maxRecDepth 100000 in
theorem hb_K127_13_ok : sy_Met hb_cl hb_lt hb_P hb_A (0, 0) hb_K127_13 := ty_met2 956 hb_Gok hb_Hok hb_An_ok hb_hcl (Cs := [hb_K40_10, hb_K41_11, hb_K43_12]) (cuts := [(0, hb_K127_13.2.1, sy_args 0 hb_K127_13.2.2.1, (4294967297, [])), (73, ([((-1), 6), (0, 100), ((-1), 6), (0, 1), sy_full], 0, [], [(1, (1, []), .inl ((-3), []))]), [(0, .inr (.inl 64)), (1, .inl (0, [(2, 1)])), (2, .inl (0, [(1, 1)])), (3, .inl (0, [(3, 1)])), (4, .inl (0, [(4, 1)]))], (2147483648, [(4, (-1))]))]) (m0 := (4294967297, [])) (by
  intro C h
  simp only [List.mem_cons, List.not_mem_nil, or_false] at h
  rcases h with rfl | rfl | rfl
  · exact hb_K40_10_ok
  · exact hb_K41_11_ok
  · exact hb_K43_12_ok) rfl rfl (by decide +kernel)
/-- X9_add -/
def hb_K111_14 : sy_Co := (111, ([(0, 7), (0, 60), (0, 999), (0, 999), (0, 15)], 0, [], [(10, (0, []), .inl (0, [(4, 1)]))]), [.inr (.inl 74), .inl (0, [(0, 1)]), .inl (0, [(1, 1)]), .inl (0, [(2, 1)]), .inl (0, [(3, 1)])], [(10, 0, 1), (10, 3, 4), (11, 0, 16), (12, 0, 16), (13, 0, 16), (14, 0, 16)], 0, [(([(0, 7), (0, 60), (0, 999), (0, 999), (0, 15)], 0, [], []), some (.inl (0, [(4, 1)])))])
set_option maxRecDepth 100000 in
theorem hb_K111_14_ok : sy_Met hb_cl hb_lt hb_P hb_A (0, 0) hb_K111_14 := ty_met2 430 hb_Gok hb_Hok hb_An_ok hb_hcl (Cs := []) (cuts := [(0, hb_K111_14.2.1, sy_args 0 hb_K111_14.2.2.1, (17, [])), (6, ([(0, 7), (0, 60), (0, 999), (0, 999), (0, 15), (0, 15)], 0, [], [(10, (0, []), .inl (0, [(4, 1)]))]), [(0, .inr (.inl 74)), (1, .inl (0, [(0, 1)])), (2, .inl (0, [(1, 1)])), (3, .inl (0, [(2, 1)])), (4, .inl (0, [(3, 1)])), (5, .inl (0, [(5, 1)]))], (1, [(5, 1)]))]) (m0 := (17, [])) (by intro C h; cases h) rfl rfl (by decide +kernel)
/-- X11_sounding -/
def hb_K128_15 : sy_Co := (128, ([sy_full, sy_full, sy_full, sy_full], 0, [], []), [.inr (.inl 64), .inl (0, [(0, 1)]), .inl (0, [(1, 1)]), .inl (0, [(2, 1)]), .inl (0, [(3, 1)])], [(10, 0, 1), (10, 3, 4), (11, 0, 16), (12, 0, 16), (13, 0, 16), (14, 0, 16)], 1, [(([sy_full, sy_full, sy_full, sy_full, ((-2), 15)], 0, [], []), some (.inl (0, [(4, 1)])))])
set_option maxRecDepth 100000 in
theorem hb_K128_15_ok : sy_Met hb_cl hb_lt hb_P hb_A (0, 0) hb_K128_15 := ty_met2 402 hb_Gok hb_Hok hb_An_ok hb_hcl (Cs := [hb_K111_14]) (cuts := [(0, hb_K128_15.2.1, sy_args 0 hb_K128_15.2.2.1, (1, []))]) (m0 := (1, [])) (by
  intro C h
  simp only [List.mem_cons, List.not_mem_nil, or_false] at h
  rcases h with rfl
  · exact hb_K111_14_ok) rfl rfl (by decide +kernel)
/-- X3_startDry -/
def hb_K35_72 : sy_Co := (35, ([(0, 255), (1, 9)], 0, [], []), [.inr (.inl 181), .inl (0, [(0, 1)]), .inl (0, [(1, 1)])], [(117, 0, 2), (117, 8, 10), (119, 0, 8), (120, 0, 8)], 1, [(([(0, 255), (1, 9)], 0, [], []), none)])
set_option maxRecDepth 100000 in
theorem hb_K35_72_ok : sy_Met hb_cl hb_lt hb_P hb_A (0, 0) hb_K35_72 := ty_met2 274 hb_Gok hb_Hok hb_An_ok hb_hcl (Cs := [hb_K40_10]) (cuts := [(0, hb_K35_72.2.1, sy_args 0 hb_K35_72.2.2.1, (10, [])), (13, ([(0, 255), (1, 9), (0, 8)], 0, [], [(117, (0, []), .inl (0, [])), (117, (1, []), .inl ((-3), []))]), [(0, .inr (.inl 181)), (1, .inl (0, [(0, 1)])), (2, .inl (0, [(1, 1)])), (3, .inl (0, [(2, 1)]))], (9, [(2, (-1))]))]) (m0 := (10, [])) (by
  intro C h
  simp only [List.mem_cons, List.not_mem_nil, or_false] at h
  rcases h with rfl
  · exact hb_K40_10_ok) rfl rfl (by decide +kernel)
/-- X9_holds -/
def hb_K113_73 : sy_Co := (113, ([(0, 255), (1, 9)], 0, [], []), [.inr (.inl 74), .inr (.inl 181), .inl (0, [(0, 1)]), .inl (0, [(1, 1)])], [(117, 0, 2), (117, 8, 10), (119, 0, 8), (120, 0, 8), (124, 0, 8), (125, 0, 8)], 4, [(([(0, 255), (1, 9), (0, 1)], 0, [], []), some (.inl (0, [(2, 1)])))])
set_option maxRecDepth 100000 in
theorem hb_K113_73_ok : sy_Met hb_cl hb_lt hb_P hb_A (0, 0) hb_K113_73 := ty_met2 676 hb_Gok hb_Hok hb_An_ok hb_hcl (Cs := [hb_K41_11, hb_K43_12, hb_K35_72]) (cuts := [(0, hb_K113_73.2.1, sy_args 0 hb_K113_73.2.2.1, (1117, [])), (15, ([(0, 255), (1, 9), (0, 1), (0, 16), (0, 61)], 0, [], []), [(0, .inr (.inl 74)), (1, .inr (.inl 181)), (2, .inl (0, [(0, 1)])), (3, .inl (0, [(1, 1)])), (4, .inl (0, [(2, 1)])), (5, .inl (0, [(3, 1)])), (6, .inl (0, [(4, 1)]))], (1116, [(4, (-18))])), (47, ([(0, 255), (1, 9), (0, 1), (0, 16), (0, 60), (1, 16)], 0, [], [(10, (0, []), .inl (0, [(5, 1)]))]), [(0, .inr (.inl 74)), (1, .inr (.inl 181)), (2, .inl (0, [(0, 1)])), (3, .inl (0, [(1, 1)])), (4, .inl (0, [(2, 1)])), (5, .inl (0, [(3, 1)])), (6, .inl (0, [(4, 1)]))], (1115, [(3, (-1)), (4, (-18))]))]) (m0 := (1117, [])) (by
  intro C h
  simp only [List.mem_cons, List.not_mem_nil, or_false] at h
  rcases h with rfl | rfl | rfl
  · exact hb_K41_11_ok
  · exact hb_K43_12_ok
  · exact hb_K35_72_ok) rfl rfl (by decide +kernel)
/-- X9_explain -/
def hb_K112_74 : sy_Co := (112, ([], 0, [], []), [.inr (.inl 74), .inr (.inl 65), .inr (.inl 181)], [(10, 1, 4), (117, 0, 2), (117, 8, 10), (118, 0, 8), (119, 0, 8), (120, 0, 8), (121, 0, 8), (122, 0, 7), (123, 0, 7), (124, 0, 8), (125, 0, 8)], 5, [(([], 0, [], []), none)])
set_option maxRecDepth 100000 in
theorem hb_K112_74_ok : sy_Met hb_cl hb_lt hb_P hb_A (0, 0) hb_K112_74 := ty_met2 612 hb_Gok hb_Hok hb_An_ok hb_hcl (Cs := [hb_K40_10, hb_K113_73]) (cuts := [(0, hb_K112_74.2.1, sy_args 0 hb_K112_74.2.2.1, (25811, [])), (20, ([(0, 9)], 0, [], [(10, (3, []), .inl (1, []))]), [(0, .inr (.inl 74)), (1, .inr (.inl 65)), (2, .inr (.inl 181)), (3, .inl (0, [(0, 1)]))], (25810, [(0, (-2581))])), (29, ([(0, 8), (1, 10)], 0, [], [(10, (3, []), .inl (1, []))]), [(0, .inr (.inl 74)), (1, .inr (.inl 65)), (2, .inr (.inl 181)), (3, .inl (0, [(0, 1)])), (4, .inl (0, [(1, 1)]))], (26067, [(0, (-2581)), (1, (-258))])), (39, ([(0, 8), (1, 9), (0, 256)], 0, [], [(10, (3, []), .inl (1, []))]), [(0, .inr (.inl 74)), (1, .inr (.inl 65)), (2, .inr (.inl 181)), (3, .inl (0, [(0, 1)])), (4, .inl (0, [(1, 1)])), (5, .inl (0, [(2, 1)]))], (26066, [(0, (-2581)), (1, (-258)), (2, (-1))]))]) (m0 := (25811, [])) (by
  intro C h
  simp only [List.mem_cons, List.not_mem_nil, or_false] at h
  rcases h with rfl | rfl
  · exact hb_K40_10_ok
  · exact hb_K113_73_ok) rfl rfl (by decide +kernel)
/-- X11_explained -/
def hb_K129_75 : sy_Co := (129, ([sy_full], 0, [], []), [.inr (.inl 64), .inl (0, [(0, 1)])], [(10, 1, 4), (117, 0, 2), (117, 8, 10), (118, 0, 8), (119, 0, 8), (120, 0, 8), (121, 0, 8), (122, 0, 7), (123, 0, 7), (124, 0, 8), (125, 0, 8)], 6, [(([sy_full, sy_full], 0, [], []), some (.inl (0, [(1, 1)])))])
set_option maxRecDepth 100000 in
theorem hb_K129_75_ok : sy_Met hb_cl hb_lt hb_P hb_A (0, 0) hb_K129_75 := ty_met2 276 hb_Gok hb_Hok hb_An_ok hb_hcl (Cs := [hb_K112_74]) (cuts := [(0, hb_K129_75.2.1, sy_args 0 hb_K129_75.2.2.1, (1, []))]) (m0 := (1, [])) (by
  intro C h
  simp only [List.mem_cons, List.not_mem_nil, or_false] at h
  rcases h with rfl
  · exact hb_K112_74_ok) rfl rfl (by decide +kernel)
/-- X11_way -/
def hb_K130_76 : sy_Co := (130, ([sy_full, sy_full, sy_full, sy_full], 0, [], []), [.inr (.inl 64), .inl (0, [(0, 1)]), .inl (0, [(1, 1)]), .inl (0, [(2, 1)]), .inl (0, [(3, 1)])], [(15, 0, 1), (16, 0, 12), (17, 0, 12), (18, 0, 12), (19, 0, 12)], 1, [(([sy_full, sy_full, sy_full, sy_full, ((-2), 11)], 0, [], []), some (.inl (0, [(4, 1)])))])
set_option maxRecDepth 100000 in
theorem hb_K130_76_ok : sy_Met hb_cl hb_lt hb_P hb_A (0, 0) hb_K130_76 := ty_met2 458 hb_Gok hb_Hok hb_An_ok hb_hcl (Cs := []) (cuts := [(0, hb_K130_76.2.1, sy_args 0 hb_K130_76.2.2.1, (1, []))]) (m0 := (1, [])) (by intro C h; cases h) rfl rfl (by decide +kernel)
/-- X11_group -/
def hb_K131_77 : sy_Co := (131, ([sy_full, sy_full, sy_full, sy_full], 0, [], []), [.inr (.inl 64), .inl (0, [(0, 1)]), .inl (0, [(1, 1)]), .inl (0, [(2, 1)]), .inl (0, [(3, 1)])], [(15, 5, 6), (20, 0, 10), (21, 0, 10), (22, 0, 10), (23, 0, 10)], 1, [(([sy_full, sy_full, sy_full, sy_full, ((-2), 9)], 0, [], []), some (.inl (0, [(4, 1)])))])
set_option maxRecDepth 100000 in
theorem hb_K131_77_ok : sy_Met hb_cl hb_lt hb_P hb_A (0, 0) hb_K131_77 := ty_met2 456 hb_Gok hb_Hok hb_An_ok hb_hcl (Cs := []) (cuts := [(0, hb_K131_77.2.1, sy_args 0 hb_K131_77.2.2.1, (1, []))]) (m0 := (1, [])) (by intro C h; cases h) rfl rfl (by decide +kernel)
/-- X1_spread -/
def hb_K20_78 : sy_Co := (20, ([(0, 9)], 0, [], []), [.inr (.inl 79), .inl (0, [(0, 1)])], [(28, 0, 8)], 2, [(([(0, 9)], 0, [], []), none)])
set_option maxRecDepth 100000 in
theorem hb_K20_78_ok : sy_Met hb_cl hb_lt hb_P hb_A (0, 0) hb_K20_78 := ty_met2 1950 hb_Gok hb_Hok hb_An_ok hb_hcl (Cs := []) (cuts := [(0, hb_K20_78.2.1, sy_args 0 hb_K20_78.2.2.1, (136, [])), (2, ([(0, 9), (0, 8)], 0, [], []), [(0, .inr (.inl 79)), (1, .inl (0, [(0, 1)])), (2, .inl (0, [(1, 1)]))], (135, [(1, (-1))])), (43, ([(0, 9), (0, 1), (0, 8)], 0, [], []), [(0, .inr (.inl 79)), (1, .inl (0, [(0, 1)])), (2, .inl (0, [(1, 1)])), (3, .inl (0, [(2, 1)]))], (126, [(2, (-14))])), (58, ([(0, 9), (0, 7), (0, 1), (0, 12)], 0, [], []), [(0, .inr (.inl 79)), (1, .inl (0, [(0, 1)])), (2, .inl (0, [(2, 1)])), (3, .inl (0, [(1, 1)])), (4, .inl (0, [(3, 1)]))], (125, [(1, (-14)), (3, (-1))]))]) (m0 := (136, [])) (by intro C h; cases h) rfl rfl (by decide +kernel)
/-- X11_reach -/
def hb_K132_79 : sy_Co := (132, ([sy_full, sy_full], 0, [], []), [.inr (.inl 64), .inl (0, [(0, 1)]), .inl (0, [(1, 1)])], [(28, 0, 8)], 3, [(([sy_full, sy_full, sy_full], 0, [], []), some (.inl (0, [(2, 1)])))])
set_option maxRecDepth 100000 in
theorem hb_K132_79_ok : sy_Met hb_cl hb_lt hb_P hb_A (0, 0) hb_K132_79 := ty_met2 326 hb_Gok hb_Hok hb_An_ok hb_hcl (Cs := [hb_K20_78]) (cuts := [(0, hb_K132_79.2.1, sy_args 0 hb_K132_79.2.2.1, (1, []))]) (m0 := (1, [])) (by
  intro C h
  simp only [List.mem_cons, List.not_mem_nil, or_false] at h
  rcases h with rfl
  · exact hb_K20_78_ok) rfl rfl (by decide +kernel)
/-- X11_boat -/
def hb_K133_80 : sy_Co := (133, ([sy_full, sy_full, sy_full, sy_full], 0, [], []), [.inr (.inl 64), .inl (0, [(0, 1)]), .inl (0, [(1, 1)]), .inl (0, [(2, 1)]), .inl (0, [(3, 1)])], [(15, 10, 11), (24, 0, 8), (25, 0, 8), (26, 0, 8), (27, 0, 8)], 1, [(([sy_full, sy_full, sy_full, sy_full, ((-2), 7)], 0, [], []), some (.inl (0, [(4, 1)])))])
set_option maxRecDepth 100000 in
theorem hb_K133_80_ok : sy_Met hb_cl hb_lt hb_P hb_A (0, 0) hb_K133_80 := ty_met2 456 hb_Gok hb_Hok hb_An_ok hb_hcl (Cs := []) (cuts := [(0, hb_K133_80.2.1, sy_args 0 hb_K133_80.2.2.1, (1, []))]) (m0 := (1, [])) (by intro C h; cases h) rfl rfl (by decide +kernel)
/-- X8_findBoats -/
def hb_K99_81 : sy_Co := (99, ([], 0, [], []), [.inr (.inl 190)], [(128, 0, 10)], 0, [(([], 0, [], []), none)])
set_option maxRecDepth 100000 in
theorem hb_K99_81_ok : sy_Met hb_cl hb_lt hb_P hb_A (0, 0) hb_K99_81 := ty_met2 288 hb_Gok hb_Hok hb_An_ok hb_hcl (Cs := []) (cuts := [(0, hb_K99_81.2.1, sy_args 0 hb_K99_81.2.2.1, (111, [])), (2, ([(0, 10)], 0, [], []), [(0, .inr (.inl 190)), (1, .inl (0, [(0, 1)]))], (110, [(0, (-10))])), (14, ([(0, 9), (0, 255), (0, 8), (1, 10)], 0, [], [(126, (5, []), .inl (0, [(3, 1)]))]), [(0, .inr (.inl 190)), (1, .inl (0, [(0, 1)])), (2, .inl (0, [(1, 1)])), (3, .inl (0, [(2, 1)]))], (109, [(0, (-10)), (2, (-1))]))]) (m0 := (111, [])) (by intro C h; cases h) rfl rfl (by decide +kernel)

end

noncomputable section
/-! CONTRACTS, 37, 1 -/
/-- X3_findGains -/
def hb_K41_1 : sy_Co := (41, ([], 0, [], []), [.inr (.inl 65)], [(8, 0, 8), (9, 0, 8)], 2, [(([], 0, [], []), none)])
set_option maxRecDepth 100000 in
theorem hb_K41_1_ok : sy_Met hb_cl hb_lt hb_P hb_A (0, 0) hb_K41_1 := ty_met2 1450 hb_Gok hb_Hok hb_An_ok hb_hcl (Cs := []) (cuts := [(0, hb_K41_1.2.1, sy_args 0 hb_K41_1.2.2.1, (18, [])), (2, ([(0, 8)], 0, [], []), [(0, .inr (.inl 65)), (1, .inl (0, [(0, 1)]))], (17, [(0, (-1))])), (84, ([(0, 7)], 0, [], []), [(0, .inr (.inl 65)), (1, .inl (0, [(0, 1)]))], (8, [(0, (-1))]))]) (m0 := (18, [])) (by intro C h; cases h) rfl rfl (by decide +kernel)
/-- X3_weigh -/
def hb_K40_2 : sy_Co := (40, ([], 0, [], []), [.inr (.inl 65)], [(1, 8, 10)], 0, [(([], 0, [], []), none)])
set_option maxRecDepth 100000 in
theorem hb_K40_2_ok : sy_Met hb_cl hb_lt hb_P hb_A (0, 0) hb_K40_2 := ty_met2 282 hb_Gok hb_Hok hb_An_ok hb_hcl (Cs := []) (cuts := [(0, hb_K40_2.2.1, sy_args 0 hb_K40_2.2.2.1, (10, [])), (9, ([sy_full, (0, 8)], 0, [], []), [(0, .inr (.inl 65)), (1, .inl (0, [(0, 1)])), (2, .inl (0, [(1, 1)]))], (9, [(1, (-1))]))]) (m0 := (10, [])) (by intro C h; cases h) rfl rfl (by decide +kernel)
/-- X3_takeGains -/
def hb_K43_3 : sy_Co := (43, ([], 0, [], []), [.inr (.inl 65)], [(1, 8, 10), (3, 0, 8)], 1, [(([(0, 1)], 0, [], []), some (.inl (0, [(0, 1)])))])
set_option maxRecDepth 100000 in
theorem hb_K43_3_ok : sy_Met hb_cl hb_lt hb_P hb_A (0, 0) hb_K43_3 := ty_met2 504 hb_Gok hb_Hok hb_An_ok hb_hcl (Cs := [hb_K40_2]) (cuts := [(0, hb_K43_3.2.1, sy_args 0 hb_K43_3.2.2.1, (10, [])), (4, ([(0, 1), (0, 8)], 0, [], []), [(0, .inr (.inl 65)), (1, .inl (0, [(0, 1)])), (2, .inl (0, [(1, 1)]))], (9, [(1, (-1))]))]) (m0 := (10, [])) (by
  intro C h
  simp only [List.mem_cons, List.not_mem_nil, or_false] at h
  rcases h with rfl
  · exact hb_K40_2_ok) rfl rfl (by decide +kernel)
/-- X11_minutes -/
def hb_K121_4 : sy_Co := (121, ([sy_full], 0, [], []), [.inr (.inl 64), .inl (0, [(0, 1)])], [(1, 0, 2), (1, 8, 10), (3, 0, 8), (8, 0, 8), (9, 0, 8)], 4, [(([sy_full, sy_full], 0, [], []), some (.inl (0, [(1, 1)])))])
set_option maxRecDepth 100000 in
theorem hb_K121_4_ok : sy_Met hb_cl hb_lt hb_P hb_A (0, 0) hb_K121_4 := ty_met2 642 hb_Gok hb_Hok hb_An_ok hb_hcl (Cs := [hb_K41_1, hb_K43_3]) (cuts := [(0, hb_K121_4.2.1, sy_args 0 hb_K121_4.2.2.1, (202, [])), (33, ([(1, 200), (0, 200)], 0, [], []), [(0, .inr (.inl 64)), (1, .inl (0, [(0, 1)])), (2, .inl (0, [(1, 1)]))], (201, [(1, (-1))]))]) (m0 := (202, [])) (by
  intro C h
  simp only [List.mem_cons, List.not_mem_nil, or_false] at h
  rcases h with rfl | rfl
  · exact hb_K41_1_ok
  · exact hb_K43_3_ok) rfl rfl (by decide +kernel)
/-- X11_set -/
def hb_K122_5 : sy_Co := (122, ([sy_full, sy_full, sy_full], 0, [], []), [.inr (.inl 64), .inl (0, [(0, 1)]), .inl (0, [(1, 1)]), .inl (0, [(2, 1)])], [(1, 8, 10), (2, 0, 8), (3, 0, 8), (4, 0, 8), (5, 0, 8), (10, 3, 4)], 2, [(([sy_full, sy_full, sy_full, ((-1), 999)], 0, [], []), some (.inl (0, [(3, 1)])))])
set_option maxRecDepth 100000 in
theorem hb_K122_5_ok : sy_Met hb_cl hb_lt hb_P hb_A (0, 0) hb_K122_5 := ty_met2 692 hb_Gok hb_Hok hb_An_ok hb_hcl (Cs := [hb_K40_2]) (cuts := [(0, hb_K122_5.2.1, sy_args 0 hb_K122_5.2.2.1, (1, []))]) (m0 := (1, [])) (by
  intro C h
  simp only [List.mem_cons, List.not_mem_nil, or_false] at h
  rcases h with rfl
  · exact hb_K40_2_ok) rfl rfl (by decide +kernel)
/-- X11_wall -/
def hb_K123_6 : sy_Co := (123, ([sy_full, sy_full], 0, [], []), [.inr (.inl 64), .inl (0, [(0, 1)]), .inl (0, [(1, 1)])], [(6, 0, 7), (10, 3, 4)], 1, [(([sy_full, sy_full, sy_full], 0, [], []), some (.inl (0, [(2, 1)])))])
set_option maxRecDepth 100000 in
theorem hb_K123_6_ok : sy_Met hb_cl hb_lt hb_P hb_A (0, 0) hb_K123_6 := ty_met2 328 hb_Gok hb_Hok hb_An_ok hb_hcl (Cs := []) (cuts := [(0, hb_K123_6.2.1, sy_args 0 hb_K123_6.2.2.1, (1, []))]) (m0 := (1, [])) (by intro C h; cases h) rfl rfl (by decide +kernel)
/-- X11_door -/
def hb_K124_7 : sy_Co := (124, ([sy_full, (0, 1)], 0, [], []), [.inr (.inl 64), .inl (0, [(0, 1)]), .inl (0, [(1, 1)])], [(7, 0, 7), (10, 3, 4)], 1, [(([sy_full, (0, 1), sy_full], 0, [], []), some (.inl (0, [(2, 1)])))])
set_option maxRecDepth 100000 in
theorem hb_K124_7_ok : sy_Met hb_cl hb_lt hb_P hb_A (0, 0) hb_K124_7 := ty_met2 310 hb_Gok hb_Hok hb_An_ok hb_hcl (Cs := []) (cuts := [(0, hb_K124_7.2.1, sy_args 0 hb_K124_7.2.2.1, (1, []))]) (m0 := (1, [])) (by intro C h; cases h) rfl rfl (by decide +kernel)
/-- X11_cell -/
def hb_K125_8 : sy_Co := (125, ([sy_full, sy_full], 0, [], []), [.inr (.inl 64), .inl (0, [(0, 1)]), .inl (0, [(1, 1)])], [], 2, [(([sy_full, sy_full, ((-1), 9990)], 0, [], []), some (.inl (0, [(2, 1)])))])
set_option maxRecDepth 100000 in
theorem hb_K125_8_ok : sy_Met hb_cl hb_lt hb_P hb_A (0, 0) hb_K125_8 := ty_met2 414 hb_Gok hb_Hok hb_An_ok hb_hcl (Cs := []) (cuts := [(0, hb_K125_8.2.1, sy_args 0 hb_K125_8.2.2.1, (1, []))]) (m0 := (1, [])) (by intro C h; cases h) rfl rfl (by decide +kernel)
/-- X11_sunk -/
def hb_K126_9 : sy_Co := (126, ([], 0, [], []), [.inr (.inl 64)], [], 0, [(([sy_full], 0, [], []), some (.inl (0, [(0, 1)])))])
set_option maxRecDepth 100000 in
theorem hb_K126_9_ok : sy_Met hb_cl hb_lt hb_P hb_A (0, 0) hb_K126_9 := ty_met2 206 hb_Gok hb_Hok hb_An_ok hb_hcl (Cs := []) (cuts := [(0, hb_K126_9.2.1, sy_args 0 hb_K126_9.2.2.1, (1, []))]) (m0 := (1, [])) (by intro C h; cases h) rfl rfl (by decide +kernel)
/-- X3_weigh -/
def hb_K40_10 : sy_Co := (40, ([], 0, [], []), [.inr (.inl 181)], [(117, 8, 10)], 0, [(([], 0, [], []), none)])
set_option maxRecDepth 100000 in
theorem hb_K40_10_ok : sy_Met hb_cl hb_lt hb_P hb_A (0, 0) hb_K40_10 := ty_met2 282 hb_Gok hb_Hok hb_An_ok hb_hcl (Cs := []) (cuts := [(0, hb_K40_10.2.1, sy_args 0 hb_K40_10.2.2.1, (10, [])), (9, ([sy_full, (0, 8)], 0, [], []), [(0, .inr (.inl 181)), (1, .inl (0, [(0, 1)])), (2, .inl (0, [(1, 1)]))], (9, [(1, (-1))]))]) (m0 := (10, [])) (by intro C h; cases h) rfl rfl (by decide +kernel)
/-- X3_findGains -/
def hb_K41_11 : sy_Co := (41, ([], 0, [], []), [.inr (.inl 181)], [(124, 0, 8), (125, 0, 8)], 2, [(([], 0, [], []), none)])
set_option maxRecDepth 100000 in
theorem hb_K41_11_ok : sy_Met hb_cl hb_lt hb_P hb_A (0, 0) hb_K41_11 := ty_met2 1450 hb_Gok hb_Hok hb_An_ok hb_hcl (Cs := []) (cuts := [(0, hb_K41_11.2.1, sy_args 0 hb_K41_11.2.2.1, (18, [])), (2, ([(0, 8)], 0, [], []), [(0, .inr (.inl 181)), (1, .inl (0, [(0, 1)]))], (17, [(0, (-1))])), (84, ([(0, 7)], 0, [], []), [(0, .inr (.inl 181)), (1, .inl (0, [(0, 1)]))], (8, [(0, (-1))]))]) (m0 := (18, [])) (by intro C h; cases h) rfl rfl (by decide +kernel)
/-- X3_takeGains -/
def hb_K43_12 : sy_Co := (43, ([], 0, [], []), [.inr (.inl 181)], [(117, 8, 10), (119, 0, 8)], 1, [(([(0, 1)], 0, [], []), some (.inl (0, [(0, 1)])))])
set_option maxRecDepth 100000 in
theorem hb_K43_12_ok : sy_Met hb_cl hb_lt hb_P hb_A (0, 0) hb_K43_12 := ty_met2 504 hb_Gok hb_Hok hb_An_ok hb_hcl (Cs := [hb_K40_10]) (cuts := [(0, hb_K43_12.2.1, sy_args 0 hb_K43_12.2.2.1, (10, [])), (4, ([(0, 1), (0, 8)], 0, [], []), [(0, .inr (.inl 181)), (1, .inl (0, [(0, 1)])), (2, .inl (0, [(1, 1)]))], (9, [(1, (-1))]))]) (m0 := (10, [])) (by
  intro C h
  simp only [List.mem_cons, List.not_mem_nil, or_false] at h
  rcases h with rfl
  · exact hb_K40_10_ok) rfl rfl (by decide +kernel)

end

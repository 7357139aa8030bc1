noncomputable section
/-! CONTRACTS, 37, 31 -/
/-- X12_fits -/
def hb_K286_747 : sy_Co := (286, ([sy_full], 0, [], []), [.inr (.inl 215), .inl (0, [(0, 1)])], [(151, 47, 48), (151, 51, 52), (178, 0, 30)], 3, [(([sy_full, sy_full], 0, [], []), some (.inl (0, [(1, 1)])))])
set_option maxRecDepth 100000 in
theorem hb_K286_747_ok : sy_Met hb_cl hb_lt hb_P hb_A (0, 0) hb_K286_747 := ty_met2 1392 hb_Gok hb_Hok hb_An_ok hb_hcl (Cs := [hb_K282_744]) (cuts := [(0, hb_K286_747.2.1, sy_args 0 hb_K286_747.2.2.1, (1, []))]) (m0 := (1, [])) (by
  intro C h
  simp only [List.mem_cons, List.not_mem_nil, or_false] at h
  rcases h with rfl
  · exact hb_K282_744_ok) rfl rfl (by decide +kernel)
/-- X12_act -/
def hb_K289_748 : sy_Co := (289, ([sy_full, sy_full, sy_full], 0, [], []), [.inr (.inl 215), .inl (0, [(0, 1)]), .inl (0, [(1, 1)]), .inl (0, [(2, 1)])], [(151, 47, 52), (178, 0, 30)], 7, [(([sy_full, sy_full, sy_full, sy_full], 0, [], []), some (.inl (0, [(3, 1)])))])
set_option maxRecDepth 100000 in
theorem hb_K289_748_ok : sy_Met hb_cl hb_lt hb_P hb_A (0, 0) hb_K289_748 := ty_met2 2072 hb_Gok hb_Hok hb_An_ok hb_hcl (Cs := [hb_K282_744, hb_K284_745, hb_K288_746, hb_K286_747]) (cuts := [(0, hb_K289_748.2.1, sy_args 0 hb_K289_748.2.2.1, (1, []))]) (m0 := (1, [])) (by
  intro C h
  simp only [List.mem_cons, List.not_mem_nil, or_false] at h
  rcases h with rfl | rfl | rfl | rfl
  · exact hb_K282_744_ok
  · exact hb_K284_745_ok
  · exact hb_K288_746_ok
  · exact hb_K286_747_ok) rfl rfl (by decide +kernel)
/-- X12_trace -/
def hb_K290_749 : sy_Co := (290, ([sy_full], 0, [], []), [.inr (.inl 215), .inl (0, [(0, 1)])], [], 1, [(([sy_full, sy_full], 0, [], []), some (.inl (0, [(1, 1)])))])
set_option maxRecDepth 100000 in
theorem hb_K290_749_ok : sy_Met hb_cl hb_lt hb_P hb_A (0, 0) hb_K290_749 := ty_met2 260 hb_Gok hb_Hok hb_An_ok hb_hcl (Cs := []) (cuts := [(0, hb_K290_749.2.1, sy_args 0 hb_K290_749.2.2.1, (1, []))]) (m0 := (1, [])) (by intro C h; cases h) rfl rfl (by decide +kernel)
/-- X12_sumOf -/
def hb_K264_750 : sy_Co := (264, ([(8, 8)], 0, [], []), [.inr (.inl 215), .inl (24, []), .inl (0, [(0, 1)]), .inl (1, [])], [], 0, [(([(8, 8), sy_full], 0, [], []), some (.inl (0, [(1, 1)])))])
set_option maxRecDepth 100000 in
theorem hb_K264_750_ok : sy_Met hb_cl hb_lt hb_P hb_A (0, 0) hb_K264_750 := ty_met2 244 hb_Gok hb_Hok hb_An_ok hb_hcl (Cs := []) (cuts := [(0, hb_K264_750.2.1, sy_args 0 hb_K264_750.2.2.1, (10, [])), (6, ([(8, 8), sy_full, (0, 8)], 0, [], []), [(0, .inr (.inl 215)), (1, .inl (24, [])), (2, .inl (8, [])), (3, .inl (1, [])), (4, .inl (0, [(1, 1)])), (5, .inl (0, [(2, 1)]))], (9, [(2, (-1))]))]) (m0 := (10, [])) (by intro C h; cases h) rfl rfl (by decide +kernel)
/-- X12_sumOf -/
def hb_K264_751 : sy_Co := (264, ([(0, 10)], 0, [], []), [.inr (.inl 215), .inl (176, []), .inl (0, [(0, 1)]), .inl (4, [])], [], 0, [(([(0, 10), sy_full], 0, [], []), some (.inl (0, [(1, 1)])))])
set_option maxRecDepth 100000 in
theorem hb_K264_751_ok : sy_Met hb_cl hb_lt hb_P hb_A (0, 0) hb_K264_751 := ty_met2 244 hb_Gok hb_Hok hb_An_ok hb_hcl (Cs := []) (cuts := [(0, hb_K264_751.2.1, sy_args 0 hb_K264_751.2.2.1, (12, [])), (6, ([(0, 10), sy_full, (0, 10)], 0, [], []), [(0, .inr (.inl 215)), (1, .inl (176, [])), (2, .inl (0, [(0, 1)])), (3, .inl (4, [])), (4, .inl (0, [(1, 1)])), (5, .inl (0, [(2, 1)]))], (11, [(2, (-1))]))]) (m0 := (12, [])) (by intro C h; cases h) rfl rfl (by decide +kernel)
/-- X12_many -/
def hb_K291_752 : sy_Co := (291, ([sy_full], 0, [], []), [.inr (.inl 215), .inl (0, [(0, 1)])], [], 1, [(([sy_full, sy_full], 0, [], []), some (.inl (0, [(1, 1)])))])
set_option maxRecDepth 100000 in
theorem hb_K291_752_ok : sy_Met hb_cl hb_lt hb_P hb_A (0, 0) hb_K291_752 := ty_met2 414 hb_Gok hb_Hok hb_An_ok hb_hcl (Cs := [hb_K264_750, hb_K264_751]) (cuts := [(0, hb_K291_752.2.1, sy_args 0 hb_K291_752.2.2.1, (1, []))]) (m0 := (1, [])) (by
  intro C h
  simp only [List.mem_cons, List.not_mem_nil, or_false] at h
  rcases h with rfl | rfl
  · exact hb_K264_750_ok
  · exact hb_K264_751_ok) rfl rfl (by decide +kernel)

end

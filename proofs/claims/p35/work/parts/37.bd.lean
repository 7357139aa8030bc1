noncomputable section
/-! CONTRACTS, 37, 30 -/
/-- X12_taken -/
def hb_K279_743 : sy_Co := (279, ([sy_full, sy_full], 0, [], []), [.inr (.inl 215), .inl (0, [(0, 1)]), .inl (0, [(1, 1)])], [(1099511627779, 0, 0)], 3, [(([sy_full, sy_full, ((-13), 40)], 0, [], []), some (.inl (0, [(2, 1)])))])
set_option maxRecDepth 100000 in
theorem hb_K279_743_ok : sy_Met hb_cl hb_lt hb_P hb_A (0, 0) hb_K279_743 := ty_met2 2058 hb_Gok hb_Hok hb_An_ok hb_hcl (Cs := []) (cuts := [(0, hb_K279_743.2.1, sy_args 0 hb_K279_743.2.2.1, (1, []))]) (m0 := (1, [])) (by intro C h; cases h) rfl rfl (by decide +kernel)
/-- X12_fills -/
def hb_K282_744 : sy_Co := (282, ([sy_full], 0, [], []), [.inr (.inl 215), .inl (0, [(0, 1)])], [(151, 47, 48), (178, 0, 30)], 2, [(([sy_full, sy_full], 0, [], []), some (.inl (0, [(1, 1)])))])
set_option maxRecDepth 100000 in
theorem hb_K282_744_ok : sy_Met hb_cl hb_lt hb_P hb_A (0, 0) hb_K282_744 := ty_met2 620 hb_Gok hb_Hok hb_An_ok hb_hcl (Cs := []) (cuts := [(0, hb_K282_744.2.1, sy_args 0 hb_K282_744.2.2.1, (1, []))]) (m0 := (1, [])) (by intro C h; cases h) rfl rfl (by decide +kernel)
/-- X12_carries -/
def hb_K284_745 : sy_Co := (284, ([sy_full], 0, [], []), [.inr (.inl 215), .inl (0, [(0, 1)])], [(151, 47, 48), (178, 0, 30)], 4, [(([sy_full, sy_full], 0, [], []), some (.inl (0, [(1, 1)])))])
set_option maxRecDepth 100000 in
theorem hb_K284_745_ok : sy_Met hb_cl hb_lt hb_P hb_A (0, 0) hb_K284_745 := ty_met2 1300 hb_Gok hb_Hok hb_An_ok hb_hcl (Cs := [hb_K282_744]) (cuts := [(0, hb_K284_745.2.1, sy_args 0 hb_K284_745.2.2.1, (1, []))]) (m0 := (1, [])) (by
  intro C h
  simp only [List.mem_cons, List.not_mem_nil, or_false] at h
  rcases h with rfl
  · exact hb_K282_744_ok) rfl rfl (by decide +kernel)
/-- X12_tells -/
def hb_K288_746 : sy_Co := (288, ([sy_full], 0, [], []), [.inr (.inl 215), .inl (0, [(0, 1)])], [(151, 47, 48), (178, 0, 30)], 6, [(([sy_full, sy_full], 0, [], []), some (.inl (0, [(1, 1)])))])
set_option maxRecDepth 100000 in
theorem hb_K288_746_ok : sy_Met hb_cl hb_lt hb_P hb_A (0, 0) hb_K288_746 := ty_met2 852 hb_Gok hb_Hok hb_An_ok hb_hcl (Cs := [hb_K282_744, hb_K284_745]) (cuts := [(0, hb_K288_746.2.1, sy_args 0 hb_K288_746.2.2.1, (1, []))]) (m0 := (1, [])) (by
  intro C h
  simp only [List.mem_cons, List.not_mem_nil, or_false] at h
  rcases h with rfl | rfl
  · exact hb_K282_744_ok
  · exact hb_K284_745_ok) rfl rfl (by decide +kernel)

end

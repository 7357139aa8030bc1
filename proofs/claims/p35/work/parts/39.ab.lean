noncomputable section
/-! CONTRACTS, 39, 2 -/
/-- X12_sheet -/
def hb_K273_739 : sy_Co := (273, ([sy_full, sy_full, sy_full], 0, [], []), [.inr (.inl 215), .inl (0, [(0, 1)]), .inl (0, [(1, 1)]), .inl (0, [(2, 1)])], [(172, 0, 4), (173, 0, 8), (174, 0, 8), (175, 0, 320)], 2, [(([sy_full, sy_full, sy_full, ((-14), 1)], 0, [], []), some (.inl (0, [(3, 1)])))])
set_option maxRecDepth 100000 in
theorem hb_K273_739_ok : sy_Met hb_cl hb_lt hb_P hb_A (0, 0) hb_K273_739 := ty_met2 602 hb_Gok hb_Hok hb_An_ok hb_hcl (Cs := [hb_F272_0, hb_F272_1, hb_F272_2, hb_F272_3]) (cuts := [(0, hb_K273_739.2.1, sy_args 0 hb_K273_739.2.2.1, (42, [])), (85, ([(0, 3), (0, 4), (0, 40), (0, 3), (0, 7), (0, 40)], 0, [], []), [(0, .inr (.inl 215)), (1, .inl (0, [(3, 1)])), (2, .inl (0, [(1, 1)])), (3, .inl (0, [(2, 1)])), (4, .inl (0, [(4, 1)])), (5, .inl (0, [(5, 1)]))], (41, [(5, (-1))]))]) (m0 := (42, [])) (by
  intro C h
  simp only [List.mem_cons, List.not_mem_nil, or_false] at h
  rcases h with rfl | rfl | rfl | rfl
  · exact hb_F272_0_ok
  · exact hb_F272_1_ok
  · exact hb_F272_2_ok
  · exact hb_F272_3_ok) rfl rfl (by decide +kernel)

end

noncomputable section
/-! CONTRACTS, 37, 5 -/
/-- X5_scan -/
def hb_K54_499 : sy_Co := (54, ([], 0, [], []), [.inr (.inl 201)], [(137, 5, 6), (139, 0, 201), (140, 0, 201), (141, 0, 201)], 6, [(([(1, 201)], 0, [], [(137, (5, []), .inl (0, [(0, 1)])), (139, ((-1), [(0, 1)]), .inl (300, []))]), none)])
set_option maxRecDepth 100000 in
theorem hb_K54_499_ok : sy_Met hb_cl hb_lt hb_P hb_A (0, 0) hb_K54_499 := ty_met2 7344 hb_Gok hb_Hok hb_An_ok hb_hcl (Cs := [hb_K60_483, hb_K60_484, hb_K60_485, hb_K60_486, hb_K60_487, hb_K60_488, hb_K60_489, hb_K60_490, hb_K60_491, hb_K60_492, hb_K60_493, hb_K60_494, hb_K60_495, hb_K60_496, hb_K60_497, hb_K60_498, hb_K58_482]) (cuts := [(0, hb_K54_499.2.1, sy_args 0 hb_K54_499.2.2.1, (80602, [])), (7, ([(0, 200), (0, 200)], 0, [(0, [(0, 1), (1, (-1))])], [(137, (5, []), .inl (0, [(1, 1)]))]), [(0, .inr (.inl 201)), (1, .inl (0, [(0, 1)]))], (80601, [(0, (-401))])), (31, ([(0, 199), (1, 200), (0, 199), (1, 200)], 0, [(0, [(0, 1), (2, (-1))]), ((-1), [(0, (-1)), (1, 1)])], [(137, (5, []), .inl (0, [(2, 1)])), (137, (0, []), .inl (0, [(3, 1)]))]), [(0, .inr (.inl 201)), (1, .inl (0, [(0, 1)])), (2, .inl (0, [(1, 1)]))], (80601, [(0, (-401)), (1, (-1))])), (84, ([(0, 199), (1, 200), (0, 199), (1, 200)], 0, [(0, [(0, 1), (2, (-1))]), ((-1), [(0, (-1)), (1, 1)])], [(137, (5, []), .inl (0, [(2, 1)])), (137, (0, []), .inl (0, [(3, 1)]))]), [(0, .inr (.inl 201)), (1, .inl (0, [(0, 1)])), (2, .inl (0, [(1, 1)]))], (80401, [(0, (-401)), (1, (-1))]))]) (m0 := (80602, [])) (by
  intro C h
  simp only [List.mem_cons, List.not_mem_nil, or_false] at h
  rcases h with rfl | rfl | rfl | rfl | rfl | rfl | rfl | rfl | rfl | rfl | rfl | rfl | rfl | rfl | rfl | rfl | rfl
  · exact hb_K60_483_ok
  · exact hb_K60_484_ok
  · exact hb_K60_485_ok
  · exact hb_K60_486_ok
  · exact hb_K60_487_ok
  · exact hb_K60_488_ok
  · exact hb_K60_489_ok
  · exact hb_K60_490_ok
  · exact hb_K60_491_ok
  · exact hb_K60_492_ok
  · exact hb_K60_493_ok
  · exact hb_K60_494_ok
  · exact hb_K60_495_ok
  · exact hb_K60_496_ok
  · exact hb_K60_497_ok
  · exact hb_K60_498_ok
  · exact hb_K58_482_ok) rfl rfl (by decide +kernel)

end

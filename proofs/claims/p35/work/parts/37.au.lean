noncomputable section
/-! CONTRACTS, 37, 21 -/
/-- X12_hears -/
def hb_K233_670 : sy_Co := (233, ([sy_full], 0, [], []), [.inr (.inl 215), .inl (0, [(0, 1)])], [], 2, [(([sy_full, ((-1), 63)], 0, [], []), some (.inl (0, [(1, 1)])))])
set_option maxRecDepth 100000 in
theorem hb_K233_670_ok : sy_Met hb_cl hb_lt hb_P hb_A (0, 0) hb_K233_670 := ty_met2 740 hb_Gok hb_Hok hb_An_ok hb_hcl (Cs := []) (cuts := [(0, hb_K233_670.2.1, sy_args 0 hb_K233_670.2.2.1, (8, [])), (23, ([(0, 9), (0, 63), (0, 6), (1, 10)], 0, [], [(152, (7, []), .inl (0, [(3, 1)]))]), [(0, .inr (.inl 215)), (1, .inl (0, [(0, 1)])), (2, .inl (0, [(1, 1)])), (3, .inl (0, [(2, 1)]))], (7, [(2, (-1))]))]) (m0 := (8, [])) (by intro C h; cases h) rfl rfl (by decide +kernel)
/-- X12_earliest -/
def hb_K234_671 : sy_Co := (234, ([(0, 5)], 0, [], []), [.inr (.inl 215), .inl (0, [(0, 1)])], [], 2, [(([(0, 5), (0, 1000000)], 0, [], []), some (.inl (0, [(1, 1)])))])
set_option maxRecDepth 100000 in
theorem hb_K234_671_ok : sy_Met hb_cl hb_lt hb_P hb_A (0, 0) hb_K234_671 := ty_met2 708 hb_Gok hb_Hok hb_An_ok hb_hcl (Cs := []) (cuts := [(0, hb_K234_671.2.1, sy_args 0 hb_K234_671.2.2.1, (12, [])), (5, ([(0, 5), (0, 1000000), (0, 10)], 0, [], []), [(0, .inr (.inl 215)), (1, .inl (0, [(0, 1)])), (2, .inl (0, [(1, 1)])), (3, .inl (0, [(2, 1)]))], (11, [(2, (-1))]))]) (m0 := (12, [])) (by intro C h; cases h) rfl rfl (by decide +kernel)
/-- X12_comes_ -/
def hb_K235_672 : sy_Co := (235, ([sy_full], 0, [], []), [.inr (.inl 215), .inl (0, [(0, 1)])], [(1099511627778, 0, 0)], 3, [(([sy_full, sy_full], 0, [], []), some (.inl (0, [(1, 1)])))])
set_option maxRecDepth 100000 in
theorem hb_K235_672_ok : sy_Met hb_cl hb_lt hb_P hb_A (0, 0) hb_K235_672 := ty_met2 544 hb_Gok hb_Hok hb_An_ok hb_hcl (Cs := [hb_K234_671]) (cuts := [(0, hb_K235_672.2.1, sy_args 0 hb_K235_672.2.2.1, (1, []))]) (m0 := (1, [])) (by
  intro C h
  simp only [List.mem_cons, List.not_mem_nil, or_false] at h
  rcases h with rfl
  · exact hb_K234_671_ok) rfl rfl (by decide +kernel)
/-- X12_light -/
def hb_K236_673 : sy_Co := (236, ([sy_full, sy_full, sy_full], 0, [], []), [.inr (.inl 215), .inl (0, [(0, 1)]), .inl (0, [(1, 1)]), .inl (0, [(2, 1)])], [(152, 8, 9), (152, 294, 318)], 2, [(([sy_full, sy_full, sy_full, ((-2), 7)], 0, [], []), some (.inl (0, [(3, 1)])))])
set_option maxRecDepth 100000 in
theorem hb_K236_673_ok : sy_Met hb_cl hb_lt hb_P hb_A (0, 0) hb_K236_673 := ty_met2 440 hb_Gok hb_Hok hb_An_ok hb_hcl (Cs := []) (cuts := [(0, hb_K236_673.2.1, sy_args 0 hb_K236_673.2.2.1, (1, []))]) (m0 := (1, [])) (by intro C h; cases h) rfl rfl (by decide +kernel)
/-- X12_shipsOf -/
def hb_K238_674 : sy_Co := (238, ([(0, 7)], 0, [], []), [.inr (.inl 215), .inl (0, [(0, 1)])], [], 3, [(([(0, 7), (0, 63)], 0, [], []), some (.inl (0, [(1, 1)])))])
set_option maxRecDepth 100000 in
theorem hb_K238_674_ok : sy_Met hb_cl hb_lt hb_P hb_A (0, 0) hb_K238_674 := ty_met2 2504 hb_Gok hb_Hok hb_An_ok hb_hcl (Cs := [hb_K234_671]) (cuts := [(0, hb_K238_674.2.1, sy_args 0 hb_K238_674.2.2.1, (8, [])), (4, ([(0, 7), (0, 63), (0, 6)], 0, [], []), [(0, .inr (.inl 215)), (1, .inl (0, [(0, 1)])), (2, .inl (0, [(1, 1)])), (3, .inl (0, [(2, 1)]))], (7, [(2, (-1))]))]) (m0 := (8, [])) (by
  intro C h
  simp only [List.mem_cons, List.not_mem_nil, or_false] at h
  rcases h with rfl
  · exact hb_K234_671_ok) rfl rfl (by decide +kernel)
/-- X12_mayBe -/
def hb_K239_675 : sy_Co := (239, ([sy_full], 0, [], []), [.inr (.inl 215), .inl (0, [(0, 1)])], [], 4, [(([sy_full, ((-1), 63)], 0, [], []), some (.inl (0, [(1, 1)])))])
set_option maxRecDepth 100000 in
theorem hb_K239_675_ok : sy_Met hb_cl hb_lt hb_P hb_A (0, 0) hb_K239_675 := ty_met2 274 hb_Gok hb_Hok hb_An_ok hb_hcl (Cs := [hb_K238_674]) (cuts := [(0, hb_K239_675.2.1, sy_args 0 hb_K239_675.2.2.1, (1, []))]) (m0 := (1, [])) (by
  intro C h
  simp only [List.mem_cons, List.not_mem_nil, or_false] at h
  rcases h with rfl
  · exact hb_K238_674_ok) rfl rfl (by decide +kernel)

end

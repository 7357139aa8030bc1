noncomputable section
/-! CONTRACTS, 37, 29 -/
/-- X12_read -/
def hb_K261_729 : sy_Co := (261, ([], 0, [], []), [.inr (.inl 215)], [(151, 4, 5), (151, 24, 32), (151, 35, 38), (151, 39, 40), (152, 10, 11), (152, 368, 1580), (170, 0, 8), (171, 0, 3)], 21, [(([((-300), 5)], 0, [], [(151, (4, []), .inl (0, []))]), some (.inl (0, [(0, 1)])))])
set_option maxRecDepth 100000 in
theorem hb_K261_729_ok : sy_Met hb_cl hb_lt hb_P hb_A (0, 0) hb_K261_729 := ty_met2 352 hb_Gok hb_Hok hb_An_ok hb_hcl (Cs := [hb_K260_728]) (cuts := [(0, hb_K261_729.2.1, sy_args 0 hb_K261_729.2.2.1, (202, [])), (83, ([(0, 200), (0, 5), (0, 200), (1, 2147483647)], 0, [], [(151, (37, []), .inl (0, [(3, 1)])), (151, (4, []), .inl (0, [])), (151, (30, []), .inl ((-1), [])), (152, (10, []), .inl (0, [(1, 1)]))]), [(0, .inr (.inl 215)), (1, .inl (0, [(0, 1)])), (2, .inl (0, [(1, 1)])), (3, .inl (0, [(2, 1)]))], (201, [(2, (-1))]))]) (m0 := (202, [])) (by
  intro C h
  simp only [List.mem_cons, List.not_mem_nil, or_false] at h
  rcases h with rfl
  · exact hb_K260_728_ok) rfl rfl (by decide +kernel)
/-- X12_version -/
def hb_K262_730 : sy_Co := (262, ([sy_full, sy_full], 0, [], []), [.inr (.inl 215), .inl (0, [(0, 1)]), .inl (0, [(1, 1)])], [(151, 24, 32), (151, 35, 38), (151, 39, 40), (170, 0, 8), (171, 0, 3)], 21, [(([sy_full, sy_full, sy_full], 0, [], []), some (.inl (0, [(2, 1)])))])
set_option maxRecDepth 100000 in
theorem hb_K262_730_ok : sy_Met hb_cl hb_lt hb_P hb_A (0, 0) hb_K262_730 := ty_met2 380 hb_Gok hb_Hok hb_An_ok hb_hcl (Cs := [hb_K260_728]) (cuts := [(0, hb_K262_730.2.1, sy_args 0 hb_K262_730.2.2.1, (1, []))]) (m0 := (1, [])) (by
  intro C h
  simp only [List.mem_cons, List.not_mem_nil, or_false] at h
  rcases h with rfl
  · exact hb_K260_728_ok) rfl rfl (by decide +kernel)
/-- X12_readsFor -/
def hb_K263_731 : sy_Co := (263, ([(0, 999)], 0, [], []), [.inr (.inl 215), .inl (0, [(0, 1)])], [(151, 24, 32), (151, 35, 38), (151, 39, 40), (170, 0, 8), (171, 0, 3)], 21, [(([(0, 999), (1, 2147483647)], 0, [], [(151, (37, []), .inl (0, [(1, 1)]))]), none)])
set_option maxRecDepth 100000 in
theorem hb_K263_731_ok : sy_Met hb_cl hb_lt hb_P hb_A (0, 0) hb_K263_731 := ty_met2 306 hb_Gok hb_Hok hb_An_ok hb_hcl (Cs := [hb_K260_728]) (cuts := [(0, hb_K263_731.2.1, sy_args 0 hb_K263_731.2.2.1, (8, [])), (4, ([(0, 999), ((-1), 5), (0, 6)], 0, [], []), [(0, .inr (.inl 215)), (1, .inl (0, [(0, 1)])), (2, .inl (0, [(1, 1)])), (3, .inl (0, [(2, 1)]))], (7, [(2, (-1))]))]) (m0 := (8, [])) (by
  intro C h
  simp only [List.mem_cons, List.not_mem_nil, or_false] at h
  rcases h with rfl
  · exact hb_K260_728_ok) rfl rfl (by decide +kernel)
/-- X12_sumOf -/
def hb_K264_732 : sy_Co := (264, ([(8, 8)], 0, [], []), [.inr (.inl 215), .inl (16, []), .inl (0, [(0, 1)]), .inl (1, [])], [], 0, [(([(8, 8), sy_full], 0, [], []), some (.inl (0, [(1, 1)])))])
set_option maxRecDepth 100000 in
theorem hb_K264_732_ok : sy_Met hb_cl hb_lt hb_P hb_A (0, 0) hb_K264_732 := ty_met2 244 hb_Gok hb_Hok hb_An_ok hb_hcl (Cs := []) (cuts := [(0, hb_K264_732.2.1, sy_args 0 hb_K264_732.2.2.1, (10, [])), (6, ([(8, 8), sy_full, (0, 8)], 0, [], []), [(0, .inr (.inl 215)), (1, .inl (16, [])), (2, .inl (8, [])), (3, .inl (1, [])), (4, .inl (0, [(1, 1)])), (5, .inl (0, [(2, 1)]))], (9, [(2, (-1))]))]) (m0 := (10, [])) (by intro C h; cases h) rfl rfl (by decide +kernel)
/-- X12_sumOf -/
def hb_K264_733 : sy_Co := (264, ([(0, 8)], 0, [], []), [.inr (.inl 215), .inl (216, []), .inl (0, [(0, 1)]), .inl (4, [])], [], 0, [(([(0, 8), sy_full], 0, [], []), some (.inl (0, [(1, 1)])))])
set_option maxRecDepth 100000 in
theorem hb_K264_733_ok : sy_Met hb_cl hb_lt hb_P hb_A (0, 0) hb_K264_733 := ty_met2 244 hb_Gok hb_Hok hb_An_ok hb_hcl (Cs := []) (cuts := [(0, hb_K264_733.2.1, sy_args 0 hb_K264_733.2.2.1, (10, [])), (6, ([(0, 8), sy_full, (0, 8)], 0, [], []), [(0, .inr (.inl 215)), (1, .inl (216, [])), (2, .inl (0, [(0, 1)])), (3, .inl (4, [])), (4, .inl (0, [(1, 1)])), (5, .inl (0, [(2, 1)]))], (9, [(2, (-1))]))]) (m0 := (10, [])) (by intro C h; cases h) rfl rfl (by decide +kernel)
/-- X12_lack -/
def hb_K265_734 : sy_Co := (265, ([sy_full], 0, [], []), [.inr (.inl 215), .inl (0, [(0, 1)])], [(151, 24, 32), (151, 35, 38), (151, 39, 40), (170, 0, 8), (171, 0, 3)], 22, [(([sy_full, ((-1), 2147483647)], 0, [], []), some (.inl (0, [(1, 1)])))])
set_option maxRecDepth 100000 in
theorem hb_K265_734_ok : sy_Met hb_cl hb_lt hb_P hb_A (0, 0) hb_K265_734 := ty_met2 314 hb_Gok hb_Hok hb_An_ok hb_hcl (Cs := [hb_K263_731, hb_K264_732, hb_K264_733]) (cuts := [(0, hb_K265_734.2.1, sy_args 0 hb_K265_734.2.2.1, (1, []))]) (m0 := (1, [])) (by
  intro C h
  simp only [List.mem_cons, List.not_mem_nil, or_false] at h
  rcases h with rfl | rfl | rfl
  · exact hb_K263_731_ok
  · exact hb_K264_732_ok
  · exact hb_K264_733_ok) rfl rfl (by decide +kernel)
/-- X12_rank -/
def hb_K266_735 : sy_Co := (266, ([sy_full, sy_full], 0, [], []), [.inr (.inl 215), .inl (0, [(0, 1)]), .inl (0, [(1, 1)])], [(151, 24, 32), (151, 35, 38), (151, 39, 40), (170, 0, 8), (171, 0, 3)], 22, [(([sy_full, sy_full, sy_full], 0, [], []), some (.inl (0, [(2, 1)])))])
set_option maxRecDepth 100000 in
theorem hb_K266_735_ok : sy_Met hb_cl hb_lt hb_P hb_A (0, 0) hb_K266_735 := ty_met2 312 hb_Gok hb_Hok hb_An_ok hb_hcl (Cs := [hb_K263_731]) (cuts := [(0, hb_K266_735.2.1, sy_args 0 hb_K266_735.2.2.1, (1, []))]) (m0 := (1, [])) (by
  intro C h
  simp only [List.mem_cons, List.not_mem_nil, or_false] at h
  rcases h with rfl
  · exact hb_K263_731_ok) rfl rfl (by decide +kernel)
/-- X12_must -/
def hb_K267_736 : sy_Co := (267, ([sy_full, sy_full], 0, [], []), [.inr (.inl 215), .inl (0, [(0, 1)]), .inl (0, [(1, 1)])], [(151, 24, 33), (151, 35, 38), (151, 39, 40), (169, 0, 3), (170, 0, 8), (171, 0, 3)], 22, [(([sy_full, sy_full, ((-1), 1)], 0, [], []), some (.inl (0, [(2, 1)])))])
set_option maxRecDepth 100000 in
theorem hb_K267_736_ok : sy_Met hb_cl hb_lt hb_P hb_A (0, 0) hb_K267_736 := ty_met2 1066 hb_Gok hb_Hok hb_An_ok hb_hcl (Cs := [hb_K234_671, hb_K263_731]) (cuts := [(0, hb_K267_736.2.1, sy_args 0 hb_K267_736.2.2.1, (1, []))]) (m0 := (1, [])) (by
  intro C h
  simp only [List.mem_cons, List.not_mem_nil, or_false] at h
  rcases h with rfl | rfl
  · exact hb_K234_671_ok
  · exact hb_K263_731_ok) rfl rfl (by decide +kernel)
/-- X12_leg -/
def hb_K268_737 : sy_Co := (268, ([sy_full, sy_full], 0, [], []), [.inr (.inl 215), .inl (0, [(0, 1)]), .inl (0, [(1, 1)])], [(152, 11, 12), (152, 354, 368)], 1, [(([sy_full, sy_full, ((-2), 7)], 0, [], []), some (.inl (0, [(2, 1)])))])
set_option maxRecDepth 100000 in
theorem hb_K268_737_ok : sy_Met hb_cl hb_lt hb_P hb_A (0, 0) hb_K268_737 := ty_met2 378 hb_Gok hb_Hok hb_An_ok hb_hcl (Cs := []) (cuts := [(0, hb_K268_737.2.1, sy_args 0 hb_K268_737.2.2.1, (1, []))]) (m0 := (1, [])) (by intro C h; cases h) rfl rfl (by decide +kernel)
/-- X12_run -/
def hb_K269_738 : sy_Co := (269, ([sy_full, sy_full], 0, [], []), [.inr (.inl 215), .inl (0, [(0, 1)]), .inl (0, [(1, 1)])], [], 1, [(([sy_full, sy_full, sy_full], 0, [], []), some (.inl (0, [(2, 1)])))])
set_option maxRecDepth 100000 in
theorem hb_K269_738_ok : sy_Met hb_cl hb_lt hb_P hb_A (0, 0) hb_K269_738 := ty_met2 738 hb_Gok hb_Hok hb_An_ok hb_hcl (Cs := []) (cuts := [(0, hb_K269_738.2.1, sy_args 0 hb_K269_738.2.2.1, (19327352841, [])), (39, ([(0, 9999), ((-2), 6), (0, 7), sy_full, (0, 7)], 0, [], []), [(0, .inr (.inl 215)), (1, .inl (0, [(0, 1)])), (2, .inl (0, [(1, 1)])), (3, .inl (0, [(2, 1)])), (4, .inl (0, [(3, 1)])), (5, .inl (0, [(4, 1)]))], (19327352840, [(4, (-1))])), (69, ([(0, 9999), ((-2), 6), (0, 7), sy_full, ((-1), 2147483646), sy_full, ((-2147483648), 9999), (0, 2147483647)], 0, [], []), [(0, .inr (.inl 215)), (1, .inl (0, [(0, 1)])), (2, .inl (0, [(1, 1)])), (3, .inl (0, [(2, 1)])), (4, .inl (0, [(3, 1)])), (5, .inl (0, [(4, 1)])), (6, .inl (0, [(5, 1)])), (7, .inl (0, [(6, 1)])), (8, .inl (0, [(7, 1)]))], (19327352832, [(7, (-9))])), (85, ([(0, 9999), ((-2), 6), (0, 7), (1, 2147483647), ((-1), 2147483646), sy_full, ((-2147483648), 9999), (0, 2147483646), sy_full, sy_full, (0, 7)], 0, [], []), [(0, .inr (.inl 215)), (1, .inl (0, [(0, 1)])), (2, .inl (0, [(1, 1)])), (3, .inl (0, [(2, 1)])), (4, .inl (0, [(3, 1)])), (5, .inl (0, [(4, 1)])), (6, .inl (0, [(5, 1)])), (7, .inl (0, [(6, 1)])), (8, .inl (0, [(7, 1)])), (9, .inl (0, [(8, 1)])), (10, .inl (0, [(9, 1)])), (11, .inl (0, [(10, 1)]))], (19327352831, [(7, (-9)), (10, (-1))]))]) (m0 := (19327352841, [])) (by intro C h; cases h) rfl rfl (by decide +kernel)
/-- X12_put -/
def hb_K274_740 : sy_Co := (274, ([sy_full, sy_full, sy_full], 0, [], []), [.inr (.inl 215), .inl (0, [(0, 1)]), .inl (0, [(1, 1)]), .inl (0, [(2, 1)])], [(175, 0, 320)], 2, [(([sy_full, sy_full, sy_full, ((-12), 1)], 0, [], []), some (.inl (0, [(3, 1)])))])
set_option maxRecDepth 100000 in
theorem hb_K274_740_ok : sy_Met hb_cl hb_lt hb_P hb_A (0, 0) hb_K274_740 := ty_met2 418 hb_Gok hb_Hok hb_An_ok hb_hcl (Cs := []) (cuts := [(0, hb_K274_740.2.1, sy_args 0 hb_K274_740.2.2.1, (1, []))]) (m0 := (1, [])) (by intro C h; cases h) rfl rfl (by decide +kernel)
/-- X12_item -/
def hb_K275_741 : sy_Co := (275, ([sy_full, sy_full, sy_full], 0, [], []), [.inr (.inl 215), .inl (0, [(0, 1)]), .inl (0, [(1, 1)]), .inl (0, [(2, 1)])], [], 2, [(([sy_full, sy_full, sy_full, sy_full], 0, [], []), some (.inl (0, [(3, 1)])))])
set_option maxRecDepth 100000 in
theorem hb_K275_741_ok : sy_Met hb_cl hb_lt hb_P hb_A (0, 0) hb_K275_741 := ty_met2 408 hb_Gok hb_Hok hb_An_ok hb_hcl (Cs := []) (cuts := [(0, hb_K275_741.2.1, sy_args 0 hb_K275_741.2.2.1, (1, []))]) (m0 := (1, [])) (by intro C h; cases h) rfl rfl (by decide +kernel)
/-- X12_sound -/
def hb_K276_742 : sy_Co := (276, ([sy_full, sy_full, sy_full, sy_full, sy_full], 0, [], []), [.inr (.inl 215), .inl (0, [(0, 1)]), .inl (0, [(1, 1)]), .inl (0, [(2, 1)]), .inl (0, [(3, 1)]), .inl (0, [(4, 1)])], [(152, 2, 3), (152, 64, 128)], 3, [(([sy_full, sy_full, sy_full, sy_full, sy_full, sy_full], 0, [], []), some (.inl (0, [(5, 1)])))])
set_option maxRecDepth 100000 in
theorem hb_K276_742_ok : sy_Met hb_cl hb_lt hb_P hb_A (0, 0) hb_K276_742 := ty_met2 666 hb_Gok hb_Hok hb_An_ok hb_hcl (Cs := [hb_K199_570]) (cuts := [(0, hb_K276_742.2.1, sy_args 0 hb_K276_742.2.2.1, (11, [])), (77, ([(0, 7), (0, 60), (0, 3), sy_full, (0, 9), (0, 7)], 0, [], []), [(0, .inr (.inl 215)), (1, .inl (0, [(0, 1)])), (2, .inl (0, [(1, 1)])), (3, .inl (0, [(2, 1)])), (4, .inl (0, [(3, 1)])), (5, .inl (0, [(4, 1)])), (6, .inl (0, [(5, 1)])), (7, .inl (0, [])), (8, .inl (0, []))], (10, [])), (77, ([(0, 7), (0, 60), (0, 3), (0, 39), (1, 9), (0, 7), (1, 9), sy_full, ((-1), 15), sy_full], 0, [], []), [(0, .inr (.inl 215)), (1, .inl (0, [(0, 1)])), (2, .inl (0, [(1, 1)])), (3, .inl (0, [(2, 1)])), (4, .inl (0, [(3, 1)])), (5, .inl (0, [(4, 1)])), (6, .inl (0, [(5, 1)])), (7, .inl (0, [(9, 1)])), (8, .inl (0, [(6, 1)])), (9, .inl (0, [(7, 1)])), (10, .inl (0, [(8, 1)]))], (10, [(6, (-1))]))]) (m0 := (11, [])) (by
  intro C h
  simp only [List.mem_cons, List.not_mem_nil, or_false] at h
  rcases h with rfl
  · exact hb_K199_570_ok) rfl rfl (by decide +kernel)

end

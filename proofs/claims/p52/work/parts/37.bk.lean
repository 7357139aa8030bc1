/-! CONTRACTS, 37, 37 -/
/-- X12_reads -/
def hb_K260_725 : sy_Co := (260, ([((-1), 1380), (0, 200)], 0, [], []), [.inr (.inl 215), .inl (0, [(0, 1)]), .inl (0, [(1, 1)])], [(151, 24, 32), (151, 35, 38), (151, 39, 40), (170, 0, 8), (171, 0, 3)], 20, [(([((-1), 1380), (0, 200), (1, 2147483647)], 0, [], [(151, (37, []), .inl (0, [(2, 1)]))]), none)])
def hb_K260_725_cuts : List sy_Cut := [(0, hb_K260_725.2.1, sy_args 0 hb_K260_725.2.2.1, (207, [])), (47, ([((-1), 1380), (0, 200), (0, 3)], 0, [], [(151, (24, []), .inl (0, [(0, 1)])), (151, (25, []), .inl (0, [(1, 1)])), (151, (26, []), .inl (0, [])), (151, (30, []), .inl ((-1), [])), (151, (31, []), .inl (0, [])), (151, (35, []), .inl (0, [])), (151, (36, []), .inl (0, [])), (151, (37, []), .inl (1, [])), (151, (39, []), .inl (0, []))]), [(0, .inr (.inl 215)), (1, .inl (0, [(0, 1)])), (2, .inl (0, [(1, 1)])), (3, .inl (0, [(2, 1)]))], (206, [(2, (-1))])), (70, ([((-1), 1380), (0, 200), (1, 2147483647), (0, 2147483647), (1, 62), (1, 200)], 0, [], [(151, (37, []), .inl (0, [(2, 1)])), (151, (36, []), .inl (0, [(3, 1)])), (151, (31, []), .inl (0, [])), (151, (30, []), .inl ((-1), [])), (151, (25, []), .inl (0, [(1, 1)])), (151, (24, []), .inl (0, [(0, 1)])), (151, (28, []), .inl (0, [(4, 1)])), (151, (26, []), .inl (0, [(5, 1)]))]), [(0, .inr (.inl 215)), (1, .inl (0, [(0, 1)])), (2, .inl (0, [(1, 1)])), (3, .inl (3, []))], (203, [(5, (-1))])), (70, ([((-1), 1380), (0, 200), (1, 200), (0, 2147483647), (1, 2147483647), (0, 200)], 0, [], [(151, (26, []), .inl (0, [(2, 1)])), (151, (24, []), .inl (0, [(0, 1)])), (151, (25, []), .inl (0, [(1, 1)])), (151, (31, []), .inl (0, [])), (151, (36, []), .inl (0, [(3, 1)])), (151, (37, []), .inl (0, [(4, 1)])), (151, (30, []), .inl (0, [(5, 1)]))]), [(0, .inr (.inl 215)), (1, .inl (0, [(0, 1)])), (2, .inl (0, [(1, 1)])), (3, .inl (3, []))], (2, [])), (70, ([((-1), 1380), (0, 200), (1, 2147483647), (0, 2147483647), (0, 200)], 0, [], [(151, (37, []), .inl (0, [(2, 1)])), (151, (36, []), .inl (0, [(3, 1)])), (151, (31, []), .inl (0, [])), (151, (30, []), .inl ((-1), [])), (151, (25, []), .inl (0, [(1, 1)])), (151, (24, []), .inl (0, [(0, 1)])), (151, (28, []), .inl (0, [])), (151, (26, []), .inl (0, [(4, 1)]))]), [(0, .inr (.inl 215)), (1, .inl (0, [(0, 1)])), (2, .inl (0, [(1, 1)])), (3, .inl (3, []))], (1, []))]
set_option maxRecDepth 100000 in
theorem hb_K260_725_c0 : sy_ckC hb_cl hb_lt hb_P hb_A [hb_K249_686, hb_K257_689, hb_K258_690, hb_K257_721, hb_K257_722, hb_K257_723, hb_K258_724] hb_K260_725 hb_K260_725_cuts 4266 (0, hb_K260_725.2.1, sy_args 0 hb_K260_725.2.2.1, (207, [])) = true := by decide +kernel
set_option maxRecDepth 100000 in
theorem hb_K260_725_c1 : sy_ckC hb_cl hb_lt hb_P hb_A [hb_K249_686, hb_K257_689, hb_K258_690, hb_K257_721, hb_K257_722, hb_K257_723, hb_K258_724] hb_K260_725 hb_K260_725_cuts 4266 (47, ([((-1), 1380), (0, 200), (0, 3)], 0, [], [(151, (24, []), .inl (0, [(0, 1)])), (151, (25, []), .inl (0, [(1, 1)])), (151, (26, []), .inl (0, [])), (151, (30, []), .inl ((-1), [])), (151, (31, []), .inl (0, [])), (151, (35, []), .inl (0, [])), (151, (36, []), .inl (0, [])), (151, (37, []), .inl (1, [])), (151, (39, []), .inl (0, []))]), [(0, .inr (.inl 215)), (1, .inl (0, [(0, 1)])), (2, .inl (0, [(1, 1)])), (3, .inl (0, [(2, 1)]))], (206, [(2, (-1))])) = true := by decide +kernel
set_option maxRecDepth 100000 in
theorem hb_K260_725_c2 : sy_ckC hb_cl hb_lt hb_P hb_A [hb_K249_686, hb_K257_689, hb_K258_690, hb_K257_721, hb_K257_722, hb_K257_723, hb_K258_724] hb_K260_725 hb_K260_725_cuts 4266 (70, ([((-1), 1380), (0, 200), (1, 2147483647), (0, 2147483647), (1, 62), (1, 200)], 0, [], [(151, (37, []), .inl (0, [(2, 1)])), (151, (36, []), .inl (0, [(3, 1)])), (151, (31, []), .inl (0, [])), (151, (30, []), .inl ((-1), [])), (151, (25, []), .inl (0, [(1, 1)])), (151, (24, []), .inl (0, [(0, 1)])), (151, (28, []), .inl (0, [(4, 1)])), (151, (26, []), .inl (0, [(5, 1)]))]), [(0, .inr (.inl 215)), (1, .inl (0, [(0, 1)])), (2, .inl (0, [(1, 1)])), (3, .inl (3, []))], (203, [(5, (-1))])) = true := by decide +kernel
set_option maxRecDepth 100000 in
theorem hb_K260_725_c3 : sy_ckC hb_cl hb_lt hb_P hb_A [hb_K249_686, hb_K257_689, hb_K258_690, hb_K257_721, hb_K257_722, hb_K257_723, hb_K258_724] hb_K260_725 hb_K260_725_cuts 4266 (70, ([((-1), 1380), (0, 200), (1, 200), (0, 2147483647), (1, 2147483647), (0, 200)], 0, [], [(151, (26, []), .inl (0, [(2, 1)])), (151, (24, []), .inl (0, [(0, 1)])), (151, (25, []), .inl (0, [(1, 1)])), (151, (31, []), .inl (0, [])), (151, (36, []), .inl (0, [(3, 1)])), (151, (37, []), .inl (0, [(4, 1)])), (151, (30, []), .inl (0, [(5, 1)]))]), [(0, .inr (.inl 215)), (1, .inl (0, [(0, 1)])), (2, .inl (0, [(1, 1)])), (3, .inl (3, []))], (2, [])) = true := by decide +kernel
set_option maxRecDepth 100000 in
theorem hb_K260_725_c4 : sy_ckC hb_cl hb_lt hb_P hb_A [hb_K249_686, hb_K257_689, hb_K258_690, hb_K257_721, hb_K257_722, hb_K257_723, hb_K258_724] hb_K260_725 hb_K260_725_cuts 4266 (70, ([((-1), 1380), (0, 200), (1, 2147483647), (0, 2147483647), (0, 200)], 0, [], [(151, (37, []), .inl (0, [(2, 1)])), (151, (36, []), .inl (0, [(3, 1)])), (151, (31, []), .inl (0, [])), (151, (30, []), .inl ((-1), [])), (151, (25, []), .inl (0, [(1, 1)])), (151, (24, []), .inl (0, [(0, 1)])), (151, (28, []), .inl (0, [])), (151, (26, []), .inl (0, [(4, 1)]))]), [(0, .inr (.inl 215)), (1, .inl (0, [(0, 1)])), (2, .inl (0, [(1, 1)])), (3, .inl (3, []))], (1, [])) = true := by decide +kernel
set_option maxRecDepth 100000 in
theorem hb_K260_725_ok : sy_Met hb_cl hb_lt hb_P hb_A (0, 0) hb_K260_725 := sy_met2 4266 (Cs := [hb_K249_686, hb_K257_689, hb_K258_690, hb_K257_721, hb_K257_722, hb_K257_723, hb_K258_724]) (cuts := hb_K260_725_cuts) (m0 := (207, [])) (by
  intro C h
  simp only [List.mem_cons, List.not_mem_nil, or_false] at h
  rcases h with rfl | rfl | rfl | rfl | rfl | rfl | rfl
  · exact hb_K249_686_ok
  · exact hb_K257_689_ok
  · exact hb_K258_690_ok
  · exact hb_K257_721_ok
  · exact hb_K257_722_ok
  · exact hb_K257_723_ok
  · exact hb_K258_724_ok) rfl rfl (List.all_eq_true.mpr (by
  intro c hc
  simp only [hb_K260_725_cuts, List.mem_cons, List.not_mem_nil, or_false] at hc
  rcases hc with rfl | rfl | rfl | rfl | rfl
  · exact hb_K260_725_c0
  · exact hb_K260_725_c1
  · exact hb_K260_725_c2
  · exact hb_K260_725_c3
  · exact hb_K260_725_c4))
/-- X12_read -/
def hb_K261_726 : sy_Co := (261, ([], 0, [], []), [.inr (.inl 215)], [(151, 4, 5), (151, 24, 32), (151, 35, 38), (151, 39, 40), (152, 10, 11), (152, 368, 1580), (170, 0, 8), (171, 0, 3)], 21, [(([((-300), 5)], 0, [], []), some (.inl (0, [(0, 1)])))])
set_option maxRecDepth 100000 in
theorem hb_K261_726_ok : sy_Met hb_cl hb_lt hb_P hb_A (0, 0) hb_K261_726 := sy_met2 352 (Cs := [hb_K260_725]) (cuts := [(0, hb_K261_726.2.1, sy_args 0 hb_K261_726.2.2.1, (202, [])), (83, ([(0, 200), (0, 5), (0, 200), (1, 2147483647)], 0, [], [(151, (37, []), .inl (0, [(3, 1)])), (151, (4, []), .inl (0, [])), (151, (30, []), .inl ((-1), [])), (152, (10, []), .inl (0, [(1, 1)]))]), [(0, .inr (.inl 215)), (1, .inl (0, [(0, 1)])), (2, .inl (0, [(1, 1)])), (3, .inl (0, [(2, 1)]))], (201, [(2, (-1))]))]) (m0 := (202, [])) (by
  intro C h
  simp only [List.mem_cons, List.not_mem_nil, or_false] at h
  rcases h with rfl
  · exact hb_K260_725_ok) rfl rfl (by decide +kernel)
/-- X12_version -/
def hb_K262_727 : sy_Co := (262, ([sy_full, sy_full], 0, [], []), [.inr (.inl 215), .inl (0, [(0, 1)]), .inl (0, [(1, 1)])], [(151, 24, 32), (151, 35, 38), (151, 39, 40), (170, 0, 8), (171, 0, 3)], 21, [(([sy_full, sy_full, sy_full], 0, [], []), some (.inl (0, [(2, 1)])))])
set_option maxRecDepth 100000 in
theorem hb_K262_727_ok : sy_Met hb_cl hb_lt hb_P hb_A (0, 0) hb_K262_727 := sy_met2 380 (Cs := [hb_K260_725]) (cuts := [(0, hb_K262_727.2.1, sy_args 0 hb_K262_727.2.2.1, (1, []))]) (m0 := (1, [])) (by
  intro C h
  simp only [List.mem_cons, List.not_mem_nil, or_false] at h
  rcases h with rfl
  · exact hb_K260_725_ok) rfl rfl (by decide +kernel)
/-- X12_readsFor -/
def hb_K263_728 : sy_Co := (263, ([(0, 999)], 0, [], []), [.inr (.inl 215), .inl (0, [(0, 1)])], [(151, 24, 32), (151, 35, 38), (151, 39, 40), (170, 0, 8), (171, 0, 3)], 21, [(([(0, 999), (1, 2147483647)], 0, [], [(151, (37, []), .inl (0, [(1, 1)]))]), none)])
set_option maxRecDepth 100000 in
theorem hb_K263_728_ok : sy_Met hb_cl hb_lt hb_P hb_A (0, 0) hb_K263_728 := sy_met2 306 (Cs := [hb_K260_725]) (cuts := [(0, hb_K263_728.2.1, sy_args 0 hb_K263_728.2.2.1, (8, [])), (4, ([(0, 999), ((-1), 5), (0, 6)], 0, [], []), [(0, .inr (.inl 215)), (1, .inl (0, [(0, 1)])), (2, .inl (0, [(1, 1)])), (3, .inl (0, [(2, 1)]))], (7, [(2, (-1))]))]) (m0 := (8, [])) (by
  intro C h
  simp only [List.mem_cons, List.not_mem_nil, or_false] at h
  rcases h with rfl
  · exact hb_K260_725_ok) rfl rfl (by decide +kernel)
/-- X12_sumOf -/
def hb_K264_729 : sy_Co := (264, ([(8, 8)], 0, [], []), [.inr (.inl 215), .inl (16, []), .inl (0, [(0, 1)]), .inl (1, [])], [], 0, [(([(8, 8), sy_full], 0, [], []), some (.inl (0, [(1, 1)])))])
set_option maxRecDepth 100000 in
theorem hb_K264_729_ok : sy_Met hb_cl hb_lt hb_P hb_A (0, 0) hb_K264_729 := sy_met2 244 (Cs := []) (cuts := [(0, hb_K264_729.2.1, sy_args 0 hb_K264_729.2.2.1, (10, [])), (6, ([(8, 8), sy_full, (0, 8)], 0, [], []), [(0, .inr (.inl 215)), (1, .inl (16, [])), (2, .inl (8, [])), (3, .inl (1, [])), (4, .inl (0, [(1, 1)])), (5, .inl (0, [(2, 1)]))], (9, [(2, (-1))]))]) (m0 := (10, [])) (by intro C h; cases h) rfl rfl (by decide +kernel)
/-- X12_sumOf -/
def hb_K264_730 : sy_Co := (264, ([(0, 8)], 0, [], []), [.inr (.inl 215), .inl (216, []), .inl (0, [(0, 1)]), .inl (4, [])], [], 0, [(([(0, 8), sy_full], 0, [], []), some (.inl (0, [(1, 1)])))])
set_option maxRecDepth 100000 in
theorem hb_K264_730_ok : sy_Met hb_cl hb_lt hb_P hb_A (0, 0) hb_K264_730 := sy_met2 244 (Cs := []) (cuts := [(0, hb_K264_730.2.1, sy_args 0 hb_K264_730.2.2.1, (10, [])), (6, ([(0, 8), sy_full, (0, 8)], 0, [], []), [(0, .inr (.inl 215)), (1, .inl (216, [])), (2, .inl (0, [(0, 1)])), (3, .inl (4, [])), (4, .inl (0, [(1, 1)])), (5, .inl (0, [(2, 1)]))], (9, [(2, (-1))]))]) (m0 := (10, [])) (by intro C h; cases h) rfl rfl (by decide +kernel)
/-- X12_lack -/
def hb_K265_731 : sy_Co := (265, ([sy_full], 0, [], []), [.inr (.inl 215), .inl (0, [(0, 1)])], [(151, 24, 32), (151, 35, 38), (151, 39, 40), (170, 0, 8), (171, 0, 3)], 22, [(([sy_full, ((-1), 2147483647)], 0, [], []), some (.inl (0, [(1, 1)])))])
set_option maxRecDepth 100000 in
theorem hb_K265_731_ok : sy_Met hb_cl hb_lt hb_P hb_A (0, 0) hb_K265_731 := sy_met2 314 (Cs := [hb_K263_728, hb_K264_729, hb_K264_730]) (cuts := [(0, hb_K265_731.2.1, sy_args 0 hb_K265_731.2.2.1, (1, []))]) (m0 := (1, [])) (by
  intro C h
  simp only [List.mem_cons, List.not_mem_nil, or_false] at h
  rcases h with rfl | rfl | rfl
  · exact hb_K263_728_ok
  · exact hb_K264_729_ok
  · exact hb_K264_730_ok) rfl rfl (by decide +kernel)
/-- X12_rank -/
def hb_K266_732 : sy_Co := (266, ([sy_full, sy_full], 0, [], []), [.inr (.inl 215), .inl (0, [(0, 1)]), .inl (0, [(1, 1)])], [(151, 24, 32), (151, 35, 38), (151, 39, 40), (170, 0, 8), (171, 0, 3)], 22, [(([sy_full, sy_full, sy_full], 0, [], []), some (.inl (0, [(2, 1)])))])
set_option maxRecDepth 100000 in
theorem hb_K266_732_ok : sy_Met hb_cl hb_lt hb_P hb_A (0, 0) hb_K266_732 := sy_met2 312 (Cs := [hb_K263_728]) (cuts := [(0, hb_K266_732.2.1, sy_args 0 hb_K266_732.2.2.1, (1, []))]) (m0 := (1, [])) (by
  intro C h
  simp only [List.mem_cons, List.not_mem_nil, or_false] at h
  rcases h with rfl
  · exact hb_K263_728_ok) rfl rfl (by decide +kernel)

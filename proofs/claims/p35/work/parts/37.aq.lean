noncomputable section
/-! CONTRACTS, 37, 17 -/
/-- X12_findOrder -/
def hb_K225_664 : sy_Co := (225, ([(0, 23)], 0, [], []), [.inr (.inl 215), .inl (0, [(0, 1)]), .inl (4, [])], [(166, 0, 6)], 0, [(([(0, 23)], 0, [], []), none)])
def hb_K225_664_cuts : List sy_Cut := [(0, hb_K225_664.2.1, sy_args 0 hb_K225_664.2.2.1, (17, [])), (31, ([(0, 23)], 0, [], []), [(0, .inr (.inl 215)), (1, .inl (0, [(0, 1)])), (2, .inl (4, [])), (3, .inl (24, [])), (4, .inl (0, [(0, 1)])), (5, .inl (0, [])), (6, .inl (0, []))], (16, [])), (31, ([(0, 23), (0, 5)], 0, [], []), [(0, .inr (.inl 215)), (1, .inl (0, [(0, 1)])), (2, .inl (4, [])), (3, .inl (6, [])), (4, .inl (0, [(1, 1)])), (5, .inl (1, [])), (6, .inl (1, [])), (7, .inl (0, [])), (8, .inl (0, []))], (15, [])), (31, ([(0, 23), (0, 5)], 0, [], []), [(0, .inr (.inl 215)), (1, .inl (0, [(0, 1)])), (2, .inl (4, [])), (3, .inl (6, [])), (4, .inl (0, [(1, 1)])), (5, .inl (2, [])), (6, .inl (1, [])), (7, .inl (0, [])), (8, .inl (1, []))], (14, [])), (31, ([(0, 23), (0, 5)], 0, [], []), [(0, .inr (.inl 215)), (1, .inl (0, [(0, 1)])), (2, .inl (4, [])), (3, .inl (6, [])), (4, .inl (0, [(1, 1)])), (5, .inl (4, [])), (6, .inl (1, [])), (7, .inl (0, [])), (8, .inl (2, []))], (13, [])), (31, ([(0, 23), (0, 5)], 0, [], []), [(0, .inr (.inl 215)), (1, .inl (0, [(0, 1)])), (2, .inl (4, [])), (3, .inl (6, [])), (4, .inl (0, [(1, 1)])), (5, .inl (8, [])), (6, .inl (1, [])), (7, .inl (0, [])), (8, .inl (3, []))], (12, [])), (31, ([(0, 23), (0, 1), (0, 1)], 0, [], []), [(0, .inr (.inl 215)), (1, .inl (0, [(0, 1)])), (2, .inl (4, [])), (3, .inl (2, [])), (4, .inl (0, [(1, 1)])), (5, .inl (3, [])), (6, .inl (2, [])), (7, .inl (0, [])), (8, .inl (0, [(2, 1)]))], (11, [])), (31, ([(0, 23), (0, 1), (0, 2)], 0, [], []), [(0, .inr (.inl 215)), (1, .inl (0, [(0, 1)])), (2, .inl (4, [])), (3, .inl (2, [])), (4, .inl (0, [(1, 1)])), (5, .inl (5, [])), (6, .inl (2, [])), (7, .inl (0, [])), (8, .inl (0, [(2, 1)]))], (10, [])), (31, ([(0, 23), (0, 1), (1, 2)], 0, [], []), [(0, .inr (.inl 215)), (1, .inl (0, [(0, 1)])), (2, .inl (4, [])), (3, .inl (2, [])), (4, .inl (0, [(1, 1)])), (5, .inl (6, [])), (6, .inl (2, [])), (7, .inl (0, [])), (8, .inl (0, [(2, 1)]))], (9, [])), (31, ([(0, 23), (0, 1), (0, 3)], 0, [], []), [(0, .inr (.inl 215)), (1, .inl (0, [(0, 1)])), (2, .inl (4, [])), (3, .inl (2, [])), (4, .inl (0, [(1, 1)])), (5, .inl (9, [])), (6, .inl (2, [])), (7, .inl (0, [])), (8, .inl (0, [(2, 1)]))], (8, [])), (31, ([(0, 23), (0, 1), (1, 3)], 0, [], []), [(0, .inr (.inl 215)), (1, .inl (0, [(0, 1)])), (2, .inl (4, [])), (3, .inl (2, [])), (4, .inl (0, [(1, 1)])), (5, .inl (10, [])), (6, .inl (2, [])), (7, .inl (0, [])), (8, .inl (0, [(2, 1)]))], (7, [])), (31, ([(0, 23), (0, 1), (2, 3)], 0, [], []), [(0, .inr (.inl 215)), (1, .inl (0, [(0, 1)])), (2, .inl (4, [])), (3, .inl (2, [])), (4, .inl (0, [(1, 1)])), (5, .inl (12, [])), (6, .inl (2, [])), (7, .inl (0, [])), (8, .inl (0, [(2, 1)]))], (6, [])), (31, ([(0, 23), (0, 2)], 0, [], []), [(0, .inr (.inl 215)), (1, .inl (0, [(0, 1)])), (2, .inl (4, [])), (3, .inl (1, [])), (4, .inl (0, [])), (5, .inl (7, [])), (6, .inl (3, [])), (7, .inl (0, [])), (8, .inl (0, [(1, 1)]))], (5, [])), (31, ([(0, 23), (0, 3)], 0, [], []), [(0, .inr (.inl 215)), (1, .inl (0, [(0, 1)])), (2, .inl (4, [])), (3, .inl (1, [])), (4, .inl (0, [])), (5, .inl (11, [])), (6, .inl (3, [])), (7, .inl (0, [])), (8, .inl (0, [(1, 1)]))], (4, [])), (31, ([(0, 23), (0, 3)], 0, [], []), [(0, .inr (.inl 215)), (1, .inl (0, [(0, 1)])), (2, .inl (4, [])), (3, .inl (1, [])), (4, .inl (0, [])), (5, .inl (13, [])), (6, .inl (3, [])), (7, .inl (0, [])), (8, .inl (0, [(1, 1)]))], (3, [])), (31, ([(0, 23), (1, 3)], 0, [], []), [(0, .inr (.inl 215)), (1, .inl (0, [(0, 1)])), (2, .inl (4, [])), (3, .inl (1, [])), (4, .inl (0, [])), (5, .inl (14, [])), (6, .inl (3, [])), (7, .inl (0, [])), (8, .inl (0, [(1, 1)]))], (2, [])), (31, ([(0, 23), (0, 3)], 0, [], []), [(0, .inr (.inl 215)), (1, .inl (0, [(0, 1)])), (2, .inl (4, [])), (3, .inl (1, [])), (4, .inl (0, [])), (5, .inl (15, [])), (6, .inl (4, [])), (7, .inl (0, [])), (8, .inl (0, [(1, 1)]))], (1, []))]
set_option maxRecDepth 100000 in
theorem hb_K225_664_c0 : ty_ckC hb_cl hb_lt hb_P (px_G hb_B) (px_Hq hb_B) (px_g2 hb_AB) hb_A [] hb_K225_664 hb_K225_664_cuts 4780 (0, hb_K225_664.2.1, sy_args 0 hb_K225_664.2.2.1, (17, [])) = true := by decide +kernel
set_option maxRecDepth 100000 in
theorem hb_K225_664_c1 : ty_ckC hb_cl hb_lt hb_P (px_G hb_B) (px_Hq hb_B) (px_g2 hb_AB) hb_A [] hb_K225_664 hb_K225_664_cuts 4780 (31, ([(0, 23)], 0, [], []), [(0, .inr (.inl 215)), (1, .inl (0, [(0, 1)])), (2, .inl (4, [])), (3, .inl (24, [])), (4, .inl (0, [(0, 1)])), (5, .inl (0, [])), (6, .inl (0, []))], (16, [])) = true := by decide +kernel
set_option maxRecDepth 100000 in
theorem hb_K225_664_c2 : ty_ckC hb_cl hb_lt hb_P (px_G hb_B) (px_Hq hb_B) (px_g2 hb_AB) hb_A [] hb_K225_664 hb_K225_664_cuts 4780 (31, ([(0, 23), (0, 5)], 0, [], []), [(0, .inr (.inl 215)), (1, .inl (0, [(0, 1)])), (2, .inl (4, [])), (3, .inl (6, [])), (4, .inl (0, [(1, 1)])), (5, .inl (1, [])), (6, .inl (1, [])), (7, .inl (0, [])), (8, .inl (0, []))], (15, [])) = true := by decide +kernel
set_option maxRecDepth 100000 in
theorem hb_K225_664_c3 : ty_ckC hb_cl hb_lt hb_P (px_G hb_B) (px_Hq hb_B) (px_g2 hb_AB) hb_A [] hb_K225_664 hb_K225_664_cuts 4780 (31, ([(0, 23), (0, 5)], 0, [], []), [(0, .inr (.inl 215)), (1, .inl (0, [(0, 1)])), (2, .inl (4, [])), (3, .inl (6, [])), (4, .inl (0, [(1, 1)])), (5, .inl (2, [])), (6, .inl (1, [])), (7, .inl (0, [])), (8, .inl (1, []))], (14, [])) = true := by decide +kernel
set_option maxRecDepth 100000 in
theorem hb_K225_664_c4 : ty_ckC hb_cl hb_lt hb_P (px_G hb_B) (px_Hq hb_B) (px_g2 hb_AB) hb_A [] hb_K225_664 hb_K225_664_cuts 4780 (31, ([(0, 23), (0, 5)], 0, [], []), [(0, .inr (.inl 215)), (1, .inl (0, [(0, 1)])), (2, .inl (4, [])), (3, .inl (6, [])), (4, .inl (0, [(1, 1)])), (5, .inl (4, [])), (6, .inl (1, [])), (7, .inl (0, [])), (8, .inl (2, []))], (13, [])) = true := by decide +kernel
set_option maxRecDepth 100000 in
theorem hb_K225_664_c5 : ty_ckC hb_cl hb_lt hb_P (px_G hb_B) (px_Hq hb_B) (px_g2 hb_AB) hb_A [] hb_K225_664 hb_K225_664_cuts 4780 (31, ([(0, 23), (0, 5)], 0, [], []), [(0, .inr (.inl 215)), (1, .inl (0, [(0, 1)])), (2, .inl (4, [])), (3, .inl (6, [])), (4, .inl (0, [(1, 1)])), (5, .inl (8, [])), (6, .inl (1, [])), (7, .inl (0, [])), (8, .inl (3, []))], (12, [])) = true := by decide +kernel
set_option maxRecDepth 100000 in
theorem hb_K225_664_c6 : ty_ckC hb_cl hb_lt hb_P (px_G hb_B) (px_Hq hb_B) (px_g2 hb_AB) hb_A [] hb_K225_664 hb_K225_664_cuts 4780 (31, ([(0, 23), (0, 1), (0, 1)], 0, [], []), [(0, .inr (.inl 215)), (1, .inl (0, [(0, 1)])), (2, .inl (4, [])), (3, .inl (2, [])), (4, .inl (0, [(1, 1)])), (5, .inl (3, [])), (6, .inl (2, [])), (7, .inl (0, [])), (8, .inl (0, [(2, 1)]))], (11, [])) = true := by decide +kernel
set_option maxRecDepth 100000 in
theorem hb_K225_664_c7 : ty_ckC hb_cl hb_lt hb_P (px_G hb_B) (px_Hq hb_B) (px_g2 hb_AB) hb_A [] hb_K225_664 hb_K225_664_cuts 4780 (31, ([(0, 23), (0, 1), (0, 2)], 0, [], []), [(0, .inr (.inl 215)), (1, .inl (0, [(0, 1)])), (2, .inl (4, [])), (3, .inl (2, [])), (4, .inl (0, [(1, 1)])), (5, .inl (5, [])), (6, .inl (2, [])), (7, .inl (0, [])), (8, .inl (0, [(2, 1)]))], (10, [])) = true := by decide +kernel
set_option maxRecDepth 100000 in
theorem hb_K225_664_c8 : ty_ckC hb_cl hb_lt hb_P (px_G hb_B) (px_Hq hb_B) (px_g2 hb_AB) hb_A [] hb_K225_664 hb_K225_664_cuts 4780 (31, ([(0, 23), (0, 1), (1, 2)], 0, [], []), [(0, .inr (.inl 215)), (1, .inl (0, [(0, 1)])), (2, .inl (4, [])), (3, .inl (2, [])), (4, .inl (0, [(1, 1)])), (5, .inl (6, [])), (6, .inl (2, [])), (7, .inl (0, [])), (8, .inl (0, [(2, 1)]))], (9, [])) = true := by decide +kernel
set_option maxRecDepth 100000 in
theorem hb_K225_664_c9 : ty_ckC hb_cl hb_lt hb_P (px_G hb_B) (px_Hq hb_B) (px_g2 hb_AB) hb_A [] hb_K225_664 hb_K225_664_cuts 4780 (31, ([(0, 23), (0, 1), (0, 3)], 0, [], []), [(0, .inr (.inl 215)), (1, .inl (0, [(0, 1)])), (2, .inl (4, [])), (3, .inl (2, [])), (4, .inl (0, [(1, 1)])), (5, .inl (9, [])), (6, .inl (2, [])), (7, .inl (0, [])), (8, .inl (0, [(2, 1)]))], (8, [])) = true := by decide +kernel
set_option maxRecDepth 100000 in
theorem hb_K225_664_c10 : ty_ckC hb_cl hb_lt hb_P (px_G hb_B) (px_Hq hb_B) (px_g2 hb_AB) hb_A [] hb_K225_664 hb_K225_664_cuts 4780 (31, ([(0, 23), (0, 1), (1, 3)], 0, [], []), [(0, .inr (.inl 215)), (1, .inl (0, [(0, 1)])), (2, .inl (4, [])), (3, .inl (2, [])), (4, .inl (0, [(1, 1)])), (5, .inl (10, [])), (6, .inl (2, [])), (7, .inl (0, [])), (8, .inl (0, [(2, 1)]))], (7, [])) = true := by decide +kernel
set_option maxRecDepth 100000 in
theorem hb_K225_664_c11 : ty_ckC hb_cl hb_lt hb_P (px_G hb_B) (px_Hq hb_B) (px_g2 hb_AB) hb_A [] hb_K225_664 hb_K225_664_cuts 4780 (31, ([(0, 23), (0, 1), (2, 3)], 0, [], []), [(0, .inr (.inl 215)), (1, .inl (0, [(0, 1)])), (2, .inl (4, [])), (3, .inl (2, [])), (4, .inl (0, [(1, 1)])), (5, .inl (12, [])), (6, .inl (2, [])), (7, .inl (0, [])), (8, .inl (0, [(2, 1)]))], (6, [])) = true := by decide +kernel
set_option maxRecDepth 100000 in
theorem hb_K225_664_c12 : ty_ckC hb_cl hb_lt hb_P (px_G hb_B) (px_Hq hb_B) (px_g2 hb_AB) hb_A [] hb_K225_664 hb_K225_664_cuts 4780 (31, ([(0, 23), (0, 2)], 0, [], []), [(0, .inr (.inl 215)), (1, .inl (0, [(0, 1)])), (2, .inl (4, [])), (3, .inl (1, [])), (4, .inl (0, [])), (5, .inl (7, [])), (6, .inl (3, [])), (7, .inl (0, [])), (8, .inl (0, [(1, 1)]))], (5, [])) = true := by decide +kernel
set_option maxRecDepth 100000 in
theorem hb_K225_664_c13 : ty_ckC hb_cl hb_lt hb_P (px_G hb_B) (px_Hq hb_B) (px_g2 hb_AB) hb_A [] hb_K225_664 hb_K225_664_cuts 4780 (31, ([(0, 23), (0, 3)], 0, [], []), [(0, .inr (.inl 215)), (1, .inl (0, [(0, 1)])), (2, .inl (4, [])), (3, .inl (1, [])), (4, .inl (0, [])), (5, .inl (11, [])), (6, .inl (3, [])), (7, .inl (0, [])), (8, .inl (0, [(1, 1)]))], (4, [])) = true := by decide +kernel
set_option maxRecDepth 100000 in
theorem hb_K225_664_c14 : ty_ckC hb_cl hb_lt hb_P (px_G hb_B) (px_Hq hb_B) (px_g2 hb_AB) hb_A [] hb_K225_664 hb_K225_664_cuts 4780 (31, ([(0, 23), (0, 3)], 0, [], []), [(0, .inr (.inl 215)), (1, .inl (0, [(0, 1)])), (2, .inl (4, [])), (3, .inl (1, [])), (4, .inl (0, [])), (5, .inl (13, [])), (6, .inl (3, [])), (7, .inl (0, [])), (8, .inl (0, [(1, 1)]))], (3, [])) = true := by decide +kernel
set_option maxRecDepth 100000 in
theorem hb_K225_664_c15 : ty_ckC hb_cl hb_lt hb_P (px_G hb_B) (px_Hq hb_B) (px_g2 hb_AB) hb_A [] hb_K225_664 hb_K225_664_cuts 4780 (31, ([(0, 23), (1, 3)], 0, [], []), [(0, .inr (.inl 215)), (1, .inl (0, [(0, 1)])), (2, .inl (4, [])), (3, .inl (1, [])), (4, .inl (0, [])), (5, .inl (14, [])), (6, .inl (3, [])), (7, .inl (0, [])), (8, .inl (0, [(1, 1)]))], (2, [])) = true := by decide +kernel
set_option maxRecDepth 100000 in
theorem hb_K225_664_c16 : ty_ckC hb_cl hb_lt hb_P (px_G hb_B) (px_Hq hb_B) (px_g2 hb_AB) hb_A [] hb_K225_664 hb_K225_664_cuts 4780 (31, ([(0, 23), (0, 3)], 0, [], []), [(0, .inr (.inl 215)), (1, .inl (0, [(0, 1)])), (2, .inl (4, [])), (3, .inl (1, [])), (4, .inl (0, [])), (5, .inl (15, [])), (6, .inl (4, [])), (7, .inl (0, [])), (8, .inl (0, [(1, 1)]))], (1, [])) = true := by decide +kernel
set_option maxRecDepth 100000 in
theorem hb_K225_664_ok : sy_Met hb_cl hb_lt hb_P hb_A (0, 0) hb_K225_664 := ty_met2 4780 hb_Gok hb_Hok hb_An_ok hb_hcl (Cs := []) (cuts := hb_K225_664_cuts) (m0 := (17, [])) (by intro C h; cases h) rfl rfl (List.all_eq_true.mpr (by
  intro c hc
  simp only [hb_K225_664_cuts, List.mem_cons, List.not_mem_nil, or_false] at hc
  rcases hc with rfl | rfl | rfl | rfl | rfl | rfl | rfl | rfl | rfl | rfl | rfl | rfl | rfl | rfl | rfl | rfl | rfl
  · exact hb_K225_664_c0
  · exact hb_K225_664_c1
  · exact hb_K225_664_c2
  · exact hb_K225_664_c3
  · exact hb_K225_664_c4
  · exact hb_K225_664_c5
  · exact hb_K225_664_c6
  · exact hb_K225_664_c7
  · exact hb_K225_664_c8
  · exact hb_K225_664_c9
  · exact hb_K225_664_c10
  · exact hb_K225_664_c11
  · exact hb_K225_664_c12
  · exact hb_K225_664_c13
  · exact hb_K225_664_c14
  · exact hb_K225_664_c15
  · exact hb_K225_664_c16))

end

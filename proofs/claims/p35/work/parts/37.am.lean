noncomputable section
/-! CONTRACTS, 37, 13 -/
/-- X0_carries -/
def hb_K6_550 : sy_Co := (6, ([sy_full], 0, [], []), [.inr (.inl 213), .inl (0, [(0, 1)])], [(149, 0, 1), (150, 0, 30)], 3, [(([sy_full, sy_full], 0, [], []), some (.inl (0, [(1, 1)])))])
set_option maxRecDepth 100000 in
theorem hb_K6_550_ok : sy_Met hb_cl hb_lt hb_P hb_A (0, 0) hb_K6_550 := ty_met2 1142 hb_Gok hb_Hok hb_An_ok hb_hcl (Cs := [hb_K5_549]) (cuts := [(0, hb_K6_550.2.1, sy_args 0 hb_K6_550.2.2.1, (1, []))]) (m0 := (1, [])) (by
  intro C h
  simp only [List.mem_cons, List.not_mem_nil, or_false] at h
  rcases h with rfl
  · exact hb_K5_549_ok) rfl rfl (by decide +kernel)
/-- X0_fits -/
def hb_K7_551 : sy_Co := (7, ([sy_full], 0, [], []), [.inr (.inl 213), .inl (0, [(0, 1)])], [(149, 0, 1), (149, 2, 3), (150, 0, 30)], 2, [(([sy_full, sy_full], 0, [], []), some (.inl (0, [(1, 1)])))])
set_option maxRecDepth 100000 in
theorem hb_K7_551_ok : sy_Met hb_cl hb_lt hb_P hb_A (0, 0) hb_K7_551 := ty_met2 1080 hb_Gok hb_Hok hb_An_ok hb_hcl (Cs := [hb_K5_549]) (cuts := [(0, hb_K7_551.2.1, sy_args 0 hb_K7_551.2.2.1, (1, []))]) (m0 := (1, [])) (by
  intro C h
  simp only [List.mem_cons, List.not_mem_nil, or_false] at h
  rcases h with rfl
  · exact hb_K5_549_ok) rfl rfl (by decide +kernel)
/-- X0_tells -/
def hb_K8_552 : sy_Co := (8, ([sy_full], 0, [], []), [.inr (.inl 213), .inl (0, [(0, 1)])], [(149, 0, 1), (150, 0, 30)], 5, [(([sy_full, sy_full], 0, [], []), some (.inl (0, [(1, 1)])))])
set_option maxRecDepth 100000 in
theorem hb_K8_552_ok : sy_Met hb_cl hb_lt hb_P hb_A (0, 0) hb_K8_552 := ty_met2 852 hb_Gok hb_Hok hb_An_ok hb_hcl (Cs := [hb_K5_549, hb_K6_550]) (cuts := [(0, hb_K8_552.2.1, sy_args 0 hb_K8_552.2.2.1, (1, []))]) (m0 := (1, [])) (by
  intro C h
  simp only [List.mem_cons, List.not_mem_nil, or_false] at h
  rcases h with rfl | rfl
  · exact hb_K5_549_ok
  · exact hb_K6_550_ok) rfl rfl (by decide +kernel)
/-- X11_act -/
def hb_K168_553 : sy_Co := (168, ([sy_full, sy_full, sy_full], 0, [], []), [.inr (.inl 64), .inl (0, [(0, 1)]), .inl (0, [(1, 1)]), .inl (0, [(2, 1)])], [(149, 0, 1), (149, 2, 6), (150, 0, 30)], 7, [(([sy_full, sy_full, sy_full, sy_full], 0, [], []), some (.inl (0, [(3, 1)])))])
set_option maxRecDepth 100000 in
theorem hb_K168_553_ok : sy_Met hb_cl hb_lt hb_P hb_A (0, 0) hb_K168_553 := ty_met2 2048 hb_Gok hb_Hok hb_An_ok hb_hcl (Cs := [hb_K5_549, hb_K6_550, hb_K7_551, hb_K8_552]) (cuts := [(0, hb_K168_553.2.1, sy_args 0 hb_K168_553.2.2.1, (1, []))]) (m0 := (1, [])) (by
  intro C h
  simp only [List.mem_cons, List.not_mem_nil, or_false] at h
  rcases h with rfl | rfl | rfl | rfl
  · exact hb_K5_549_ok
  · exact hb_K6_550_ok
  · exact hb_K7_551_ok
  · exact hb_K8_552_ok) rfl rfl (by decide +kernel)
/-- X11_trace -/
def hb_K169_554 : sy_Co := (169, ([sy_full], 0, [], []), [.inr (.inl 64), .inl (0, [(0, 1)])], [], 1, [(([sy_full, sy_full], 0, [], []), some (.inl (0, [(1, 1)])))])
set_option maxRecDepth 100000 in
theorem hb_K169_554_ok : sy_Met hb_cl hb_lt hb_P hb_A (0, 0) hb_K169_554 := ty_met2 264 hb_Gok hb_Hok hb_An_ok hb_hcl (Cs := []) (cuts := [(0, hb_K169_554.2.1, sy_args 0 hb_K169_554.2.2.1, (1, []))]) (m0 := (1, [])) (by intro C h; cases h) rfl rfl (by decide +kernel)
/-- X1_allPersons -/
def hb_K19_555 : sy_Co := (19, ([], 0, [], []), [.inr (.inl 79)], [], 0, [(([sy_full], 0, [], []), some (.inl (0, [(0, 1)])))])
set_option maxRecDepth 100000 in
theorem hb_K19_555_ok : sy_Met hb_cl hb_lt hb_P hb_A (0, 0) hb_K19_555 := ty_met2 238 hb_Gok hb_Hok hb_An_ok hb_hcl (Cs := []) (cuts := [(0, hb_K19_555.2.1, sy_args 0 hb_K19_555.2.2.1, (12, [])), (4, ([sy_full, (0, 10)], 0, [], []), [(0, .inr (.inl 79)), (1, .inl (0, [(0, 1)])), (2, .inl (0, [(1, 1)]))], (11, [(1, (-1))]))]) (m0 := (12, [])) (by intro C h; cases h) rfl rfl (by decide +kernel)
/-- X11_many -/
def hb_K170_556 : sy_Co := (170, ([sy_full], 0, [], []), [.inr (.inl 64), .inl (0, [(0, 1)])], [], 1, [(([sy_full, sy_full], 0, [], []), some (.inl (0, [(1, 1)])))])
set_option maxRecDepth 100000 in
theorem hb_K170_556_ok : sy_Met hb_cl hb_lt hb_P hb_A (0, 0) hb_K170_556 := ty_met2 304 hb_Gok hb_Hok hb_An_ok hb_hcl (Cs := [hb_K19_555]) (cuts := [(0, hb_K170_556.2.1, sy_args 0 hb_K170_556.2.2.1, (1, []))]) (m0 := (1, [])) (by
  intro C h
  simp only [List.mem_cons, List.not_mem_nil, or_false] at h
  rcases h with rfl
  · exact hb_K19_555_ok) rfl rfl (by decide +kernel)
/-- X3_weigh -/
def hb_K40_557 : sy_Co := (40, ([], 0, [], []), [.inr (.inl 123)], [(59, 8, 10)], 0, [(([], 0, [], []), none)])
set_option maxRecDepth 100000 in
theorem hb_K40_557_ok : sy_Met hb_cl hb_lt hb_P hb_A (0, 0) hb_K40_557 := ty_met2 282 hb_Gok hb_Hok hb_An_ok hb_hcl (Cs := []) (cuts := [(0, hb_K40_557.2.1, sy_args 0 hb_K40_557.2.2.1, (10, [])), (9, ([sy_full, (0, 8)], 0, [], []), [(0, .inr (.inl 123)), (1, .inl (0, [(0, 1)])), (2, .inl (0, [(1, 1)]))], (9, [(1, (-1))]))]) (m0 := (10, [])) (by intro C h; cases h) rfl rfl (by decide +kernel)
/-- X12_layOut -/
def hb_K186_560 : sy_Co := (186, ([], 0, [], []), [.inr (.inl 215)], [(155, 0, 8), (156, 0, 8), (157, 0, 8)], 0, [(([], 0, [], []), none)])
set_option maxRecDepth 100000 in
theorem hb_K186_560_ok : sy_Met hb_cl hb_lt hb_P hb_A (0, 0) hb_K186_560 := ty_met2 274 hb_Gok hb_Hok hb_An_ok hb_hcl (Cs := []) (cuts := [(0, hb_K186_560.2.1, sy_args 0 hb_K186_560.2.2.1, (10, [])), (2, ([(0, 8)], 0, [], []), [(0, .inr (.inl 215)), (1, .inl (0, [(0, 1)]))], (9, [(0, (-1))]))]) (m0 := (10, [])) (by intro C h; cases h) rfl rfl (by decide +kernel)
/-- X12_findTrim -/
def hb_K187_561 : sy_Co := (187, ([], 0, [], []), [.inr (.inl 215)], [(151, 9, 11)], 0, [(([], 0, [], []), none)])
set_option maxRecDepth 100000 in
theorem hb_K187_561_ok : sy_Met hb_cl hb_lt hb_P hb_A (0, 0) hb_K187_561 := ty_met2 290 hb_Gok hb_Hok hb_An_ok hb_hcl (Cs := []) (cuts := [(0, hb_K187_561.2.1, sy_args 0 hb_K187_561.2.2.1, (10, [])), (6, ([sy_full, sy_full, (0, 8)], 0, [], []), [(0, .inr (.inl 215)), (1, .inl (0, [(0, 1)])), (2, .inl (0, [(1, 1)])), (3, .inl (0, [(2, 1)]))], (9, [(2, (-1))]))]) (m0 := (10, [])) (by intro C h; cases h) rfl rfl (by decide +kernel)

end

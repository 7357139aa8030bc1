/-! keep of the reference; keptWords.copyFrom(words), in place of more -/
def hb_C292 : sy_Co := (292, ([], 0, [], []), [.inr (.inl 215)], [(153, 0, 1580), (151, 2, 3)], 0, [(([], 0, [], []), some (.inl (sy_c 1)))])
set_option maxRecDepth 100000 in
theorem hb_C292_ok : sy_Met hb_cl hb_lt hb_P hb_A0 (0, 0) hb_C292 := sy_met2 1000 (Cs := []) (cuts := [(0, hb_C292.2.1, sy_args 0 hb_C292.2.2.1, sy_c 2000), (2, ([(0, 1580)], 0, [], []), [(0, .inr (.inl 215)), (1, .inl (sy_x 0))], (1580, [(0, -1)]))]) (m0 := sy_c 2000) (by intro C h; cases h) rfl rfl (by decide +kernel)
def hb_C115 : sy_Co := (115, ([], 0, [], []), [.inr (.inl 161), .inr (.inl 103)], [(97, 0, 5), (98, 0, 3), (99, 0, 12), (100, 0, 12), (101, 0, 12)], 2, [(([], 0, [], []), none)])
set_option maxRecDepth 100000 in
theorem hb_C115_ok : sy_Met hb_cl hb_lt hb_P hb_A0 (0, 0) hb_C115 := sy_met2 3000 (Cs := []) (cuts := [(0, hb_C115.2.1, sy_args 0 hb_C115.2.2.1, sy_c 0)]) (m0 := sy_c 0) (by intro C h; cases h) rfl rfl (by decide +kernel)

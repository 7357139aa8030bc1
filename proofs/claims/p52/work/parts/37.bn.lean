/-! CONTRACTS, 37, 40 -/
/-- X12_many -/
def hb_K291_749 : sy_Co := (291, ([sy_full], 0, [], []), [.inr (.inl 215), .inl (0, [(0, 1)])], [], 1, [(([sy_full, sy_full], 0, [], []), some (.inl (0, [(1, 1)])))])
set_option maxRecDepth 100000 in
theorem hb_K291_749_ok : sy_Met hb_cl hb_lt hb_P hb_A (0, 0) hb_K291_749 := sy_met2 414 (Cs := [hb_K264_747, hb_K264_748]) (cuts := [(0, hb_K291_749.2.1, sy_args 0 hb_K291_749.2.2.1, (1, []))]) (m0 := (1, [])) (by
  intro C h
  simp only [List.mem_cons, List.not_mem_nil, or_false] at h
  rcases h with rfl | rfl
  · exact hb_K264_747_ok
  · exact hb_K264_748_ok) rfl rfl (by decide +kernel)

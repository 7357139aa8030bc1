noncomputable section
/-! CONTRACTS, 37, 22 -/
/-- X12_sure -/
def hb_K240_676 : sy_Co := (240, ([sy_full], 0, [], []), [.inr (.inl 215), .inl (0, [(0, 1)])], [], 4, [(([sy_full, ((-3), 5)], 0, [], []), some (.inl (0, [(1, 1)])))])
set_option maxRecDepth 100000 in
theorem hb_K240_676_ok : sy_Met hb_cl hb_lt hb_P hb_A (0, 0) hb_K240_676 := ty_met2 5410 hb_Gok hb_Hok hb_An_ok hb_hcl (Cs := [hb_K200_571, hb_K238_674, hb_K200_681]) (cuts := [(0, hb_K240_676.2.1, sy_args 0 hb_K240_676.2.2.1, (1, []))]) (m0 := (1, [])) (by
  intro C h
  simp only [List.mem_cons, List.not_mem_nil, or_false] at h
  rcases h with rfl | rfl | rfl
  · exact hb_K200_571_ok
  · exact hb_K238_674_ok
  · exact hb_K200_681_ok) rfl rfl (by decide +kernel)

end

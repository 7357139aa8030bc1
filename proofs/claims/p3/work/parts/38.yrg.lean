noncomputable section
/-! WHAT keep AND again COPY OF THE HULL -/
theorem eh_copy_kept {w w' : px_W} (h : ef_kept w w') : (∀ f, f < 2 → ec_fd w' 59 f = ec_fd w 1 f) ∧ ∀ k, 1 ≤ k → k ≤ 6 → ef_a w' (59 + k) = ef_a w (1 + k) := by
  obtain ⟨_, q0, q1, q2, q3, q4, q5, q6, q7, q8, q9, q10, q11, q12, q13, q14, q15, q16, q17, q18, q19, q20, q21, q22, q23, q24, q25, q26, q27, q28, q29, q30, q31, q32, q33, q34, q35, q36, q37, q38, q39, q40, q41, q42, q43, q44, q45, q46, q47, q48, q49, q50, q51, q52, q53, q54, q55, q56⟩ := h
  refine ⟨fun f hf => ?_, fun k h1 h2 => ?_⟩
  · have hf2 : f = 0 ∨ f = 1 := by omega
    rcases hf2 with rfl | rfl
    · exact q6
    · exact q7
  · have hk : k = 1 ∨ k = 2 ∨ k = 3 ∨ k = 4 ∨ k = 5 ∨ k = 6 := by omega
    rcases hk with rfl | rfl | rfl | rfl | rfl | rfl
    · exact q0
    · exact q1
    · exact q2
    · exact q3
    · exact q4
    · exact q5
theorem eh_copy_back {w w' : px_W} (h : ef_back w w') : (∀ f, f < 2 → ec_fd w' 1 f = ec_fd w 59 f) ∧ ∀ k, 1 ≤ k → k ≤ 6 → ef_a w' (1 + k) = ef_a w (59 + k) := by
  obtain ⟨_, q0, q1, q2, q3, q4, q5, q6, q7, q8, q9, q10, q11, q12, q13, q14, q15, q16, q17, q18, q19, q20, q21, q22, q23, q24, q25, q26, q27, q28, q29, q30, q31, q32, q33, q34, q35, q36, q37, q38, q39, q40, q41, q42, q43, q44, q45, q46, q47, q48, q49, q50, q51, q52, q53, q54, q55, q56⟩ := h
  refine ⟨fun f hf => ?_, fun k h1 h2 => ?_⟩
  · have hf2 : f = 0 ∨ f = 1 := by omega
    rcases hf2 with rfl | rfl
    · exact q6
    · exact q7
  · have hk : k = 1 ∨ k = 2 ∨ k = 3 ∨ k = 4 ∨ k = 5 ∨ k = 6 := by omega
    rcases hk with rfl | rfl | rfl | rfl | rfl | rfl
    · exact q0
    · exact q1
    · exact q2
    · exact q3
    · exact q4
    · exact q5
theorem ew_cfw_1 {n : Nat} {w : px_W} {r : Option Value × px_W} (h : ec_E hb_X n 32 0 [(0, .inr (.inl 65)), (1, .inr (.inl 123))] [] w r) : ∃ w' : px_W, r = (none, w') ∧ eh_wd w' 1 := by
  obtain ⟨_, v1, y1, a1, b1⟩ := eg32_1_0_0 h
  obtain ⟨z1, e1, X1, _, _⟩ := ew_cp60_2 a1
  injection e1 with e1 i1
  subst i1
  have h1 := b1 e1 X1
  obtain ⟨_, v2, y2, a2, b2⟩ := eg32_1_27_0 h1
  obtain ⟨z2, e2, X2, _, _⟩ := ew_cp61_3 a2
  injection e2 with e2 i2
  subst i2
  have h2 := b2 e2 X2
  obtain ⟨_, v3, y3, a3, b3⟩ := eg32_1_38_0 h2
  obtain ⟨z3, e3, X3, _, _⟩ := ew_cp62_4 a3
  injection e3 with e3 i3
  subst i3
  have h3 := b3 e3 X3
  obtain ⟨_, v4, y4, a4, b4⟩ := eg32_1_49_0 h3
  obtain ⟨z4, e4, X4, _, _⟩ := ew_cp63_5 a4
  injection e4 with e4 i4
  subst i4
  have h4 := b4 e4 X4
  obtain ⟨_, v5, y5, a5, b5⟩ := eg32_1_60_0 h4
  obtain ⟨z5, e5, X5, _, _⟩ := ew_cp64_6 a5
  injection e5 with e5 i5
  subst i5
  have h5 := b5 e5 X5
  obtain ⟨_, v6, y6, a6, b6⟩ := eg32_1_71_0 h5
  obtain ⟨z6, e6, X6, _, _⟩ := ew_cp65_7 a6
  injection e6 with e6 i6
  subst i6
  have h6 := b6 e6 X6
  obtain ⟨_, v7, y7, a7, b7⟩ := eg32_1_82_0 h6
  obtain ⟨z7, e7, X7, Q, _⟩ := ew_weigh_1 a7
  obtain ⟨z, e, A8, A9⟩ := ew_wx_1 a7
  injection e7 with e7 i7
  subst i7
  injection e with e i
  subst i
  have h7 := b7 e7 X7
  obtain ⟨_, hr, hW⟩ := eg32_1_86_0 h7
  refine ⟨_, hr, ?_, ?_⟩
  · rw [A8]
    exact eh_al_cg (fun c _ => (congrFun (ef_s_a Q (by decide)) c).symm)
  · rw [A9]
    exact eh_tl_cg (fun c _ => (congrFun (ef_s_a Q (by decide)) c).symm)
theorem ew_againW {n : Nat} {w : px_W} {r : Option Value × px_W} (c : ec_fd w 0 14 ≠ 0) (h : ec_E hb_X n 172 0 [(0, .inr (.inl 64))] [] w r) : eh_wd r.2 1 := by
  have t0 : ec_tw 0 = 0 := rfl
  have u0 := ec_tw_fd w 0 14
  obtain ⟨_, v1, y1, a1, b1⟩ := eg172_0_0_0 h (by omega)
  obtain ⟨z1, e1, X1, q1, _⟩ := ew_cf32_1 a1
  obtain ⟨z, e, D1⟩ := ew_cfw_1 a1
  injection e with e i
  subst i
  injection e1 with e1 i1
  subst i1
  have h1 := b1 e1 X1
  obtain ⟨_, v2, y2, a2, b2⟩ := eg172_0_21_0 h1
  obtain ⟨z2, e2, X2, q2, _⟩ := ew_cf109_10 a2
  injection e2 with e2 i2
  subst i2
  have D2 : eh_wd y2 1 := eh_wd_st (ef_s_f q2 (by decide) 8) (ef_s_f q2 (by decide) 9) (fun p _ => congrFun (ef_s_a q2 (by decide)) p) D1
  have h2 := b2 e2 X2
  obtain ⟨_, v3, y3, a3, b3⟩ := eg172_0_32_0 h2
  obtain ⟨z3, e3, X3, q3, _⟩ := ew_cf14_15 a3
  injection e3 with e3 i3
  subst i3
  have D3 : eh_wd y3 1 := eh_wd_st (ef_s_f q3 (by decide) 8) (ef_s_f q3 (by decide) 9) (fun p _ => congrFun (ef_s_a q3 (by decide)) p) D2
  have h3 := b3 e3 X3
  obtain ⟨_, v4, y4, a4, b4⟩ := eg172_0_43_0 h3
  obtain ⟨z4, e4, X4, q4, _⟩ := ew_cf87_29 a4
  injection e4 with e4 i4
  subst i4
  have D4 : eh_wd y4 1 := eh_wd_st (ef_s_f q4 (by decide) 8) (ef_s_f q4 (by decide) 9) (fun p _ => congrFun (ef_s_a q4 (by decide)) p) D3
  have h4 := b4 e4 X4
  obtain ⟨_, v5, y5, a5, b5⟩ := eg172_0_54_0 h4
  obtain ⟨z5, e5, X5, q5, _⟩ := ew_cf115_39 a5
  injection e5 with e5 i5
  subst i5
  have D5 : eh_wd y5 1 := eh_wd_st (ef_s_f q5 (by decide) 8) (ef_s_f q5 (by decide) 9) (fun p _ => congrFun (ef_s_a q5 (by decide)) p) D4
  have h5 := b5 e5 X5
  obtain ⟨_, v6, y6, a6, b6⟩ := eg172_0_65_0 h5
  obtain ⟨z6, e6, X6, q6, _⟩ := ew_cf73_44 a6
  injection e6 with e6 i6
  subst i6
  have D6 : eh_wd y6 1 := eh_wd_st (ef_s_f q6 (by decide) 8) (ef_s_f q6 (by decide) 9) (fun p _ => congrFun (ef_s_a q6 (by decide)) p) D5
  have h6 := b6 e6 X6
  obtain ⟨_, v7, y7, a7, b7⟩ := eg172_0_76_0 h6
  obtain ⟨z7, e7, X7, q7, _⟩ := ew_cf45_52 a7
  injection e7 with e7 i7
  subst i7
  have D7 : eh_wd y7 1 := eh_wd_st (ef_s_f q7 (by decide) 8) (ef_s_f q7 (by decide) 9) (fun p _ => congrFun (ef_s_a q7 (by decide)) p) D6
  have h7 := b7 e7 X7
  obtain ⟨_, hr, hW⟩ := eg172_0_87_0 h7
  rw [hr]
  exact D7

end

noncomputable section
theorem hb_d60_0 : ∀ q ∈ hb_c60_0, decode hb_h60.2.1 q.1 = .ok q.2 := px_rwc_ok (by decide +kernel)
theorem hb_d60_1 : ∀ q ∈ hb_c60_1, decode hb_h60.2.1 q.1 = .ok q.2 := px_rwc_ok (by decide +kernel)
theorem hb_d60_2 : ∀ q ∈ hb_c60_2, decode hb_h60.2.1 q.1 = .ok q.2 := px_rwc_ok (by decide +kernel)
theorem hb_d60_3 : ∀ q ∈ hb_c60_3, decode hb_h60.2.1 q.1 = .ok q.2 := px_rwc_ok (by decide +kernel)
set_option maxRecDepth 100000 in
theorem hb_w60 : lw_tbl[1044]? = some (Cond.code hb_h60.1 hb_h60.2.1 hb_h60.2.2.1 hb_h60.2.2.2.1) := by rfl
theorem hb_g60 : px_bM hb_h60 104 = true := by decide +kernel
set_option maxRecDepth 100000 in
theorem hb_o60 : px_okM px_Ts px_Ns hb_cl hb_SL hb_P hb_m60 := ⟨px_bM_ok hb_w60 hb_g60, List.forall_mem_append.mpr ⟨hb_d60_0, List.forall_mem_append.mpr ⟨hb_d60_1, List.forall_mem_append.mpr ⟨hb_d60_2, hb_d60_3⟩⟩⟩, px_bL_ok hb_l5⟩
theorem hb_d61_0 : ∀ q ∈ hb_c61_0, decode hb_h61.2.1 q.1 = .ok q.2 := px_rwc_ok (by decide +kernel)
theorem hb_d61_1 : ∀ q ∈ hb_c61_1, decode hb_h61.2.1 q.1 = .ok q.2 := px_rwc_ok (by decide +kernel)
set_option maxRecDepth 100000 in
theorem hb_w61 : lw_tbl[1147]? = some (Cond.code hb_h61.1 hb_h61.2.1 hb_h61.2.2.1 hb_h61.2.2.2.1) := by rfl
theorem hb_g61 : px_bM hb_h61 104 = true := by decide +kernel
set_option maxRecDepth 100000 in
theorem hb_o61 : px_okM px_Ts px_Ns hb_cl hb_SL hb_P hb_m61 := ⟨px_bM_ok hb_w61 hb_g61, List.forall_mem_append.mpr ⟨hb_d61_0, hb_d61_1⟩, px_bL_ok hb_l5⟩
theorem hb_d62_0 : ∀ q ∈ hb_c62_0, decode hb_h62.2.1 q.1 = .ok q.2 := px_rwc_ok (by decide +kernel)
theorem hb_d62_1 : ∀ q ∈ hb_c62_1, decode hb_h62.2.1 q.1 = .ok q.2 := px_rwc_ok (by decide +kernel)
theorem hb_d62_2 : ∀ q ∈ hb_c62_2, decode hb_h62.2.1 q.1 = .ok q.2 := px_rwc_ok (by decide +kernel)
theorem hb_d62_3 : ∀ q ∈ hb_c62_3, decode hb_h62.2.1 q.1 = .ok q.2 := px_rwc_ok (by decide +kernel)
set_option maxRecDepth 100000 in
theorem hb_w62 : lw_tbl[1134]? = some (Cond.code hb_h62.1 hb_h62.2.1 hb_h62.2.2.1 hb_h62.2.2.2.1) := by rfl
theorem hb_g62 : px_bM hb_h62 104 = true := by decide +kernel
set_option maxRecDepth 100000 in
theorem hb_o62 : px_okM px_Ts px_Ns hb_cl hb_SL hb_P hb_m62 := ⟨px_bM_ok hb_w62 hb_g62, List.forall_mem_append.mpr ⟨hb_d62_0, List.forall_mem_append.mpr ⟨hb_d62_1, List.forall_mem_append.mpr ⟨hb_d62_2, hb_d62_3⟩⟩⟩, px_bL_ok hb_l5⟩
theorem hb_d63_0 : ∀ q ∈ hb_c63_0, decode hb_h63.2.1 q.1 = .ok q.2 := px_rwc_ok (by decide +kernel)
theorem hb_d63_1 : ∀ q ∈ hb_c63_1, decode hb_h63.2.1 q.1 = .ok q.2 := px_rwc_ok (by decide +kernel)
theorem hb_d63_2 : ∀ q ∈ hb_c63_2, decode hb_h63.2.1 q.1 = .ok q.2 := px_rwc_ok (by decide +kernel)
theorem hb_d63_3 : ∀ q ∈ hb_c63_3, decode hb_h63.2.1 q.1 = .ok q.2 := px_rwc_ok (by decide +kernel)
theorem hb_d63_4 : ∀ q ∈ hb_c63_4, decode hb_h63.2.1 q.1 = .ok q.2 := px_rwc_ok (by decide +kernel)
set_option maxRecDepth 100000 in
theorem hb_w63 : lw_tbl[1130]? = some (Cond.code hb_h63.1 hb_h63.2.1 hb_h63.2.2.1 hb_h63.2.2.2.1) := by rfl
theorem hb_g63 : px_bM hb_h63 104 = true := by decide +kernel
set_option maxRecDepth 100000 in
theorem hb_o63 : px_okM px_Ts px_Ns hb_cl hb_SL hb_P hb_m63 := ⟨px_bM_ok hb_w63 hb_g63, List.forall_mem_append.mpr ⟨hb_d63_0, List.forall_mem_append.mpr ⟨hb_d63_1, List.forall_mem_append.mpr ⟨hb_d63_2, List.forall_mem_append.mpr ⟨hb_d63_3, hb_d63_4⟩⟩⟩⟩, px_bL_ok hb_l5⟩
theorem hb_d64_0 : ∀ q ∈ hb_c64_0, decode hb_h64.2.1 q.1 = .ok q.2 := px_rwc_ok (by decide +kernel)
theorem hb_d64_1 : ∀ q ∈ hb_c64_1, decode hb_h64.2.1 q.1 = .ok q.2 := px_rwc_ok (by decide +kernel)
theorem hb_d64_2 : ∀ q ∈ hb_c64_2, decode hb_h64.2.1 q.1 = .ok q.2 := px_rwc_ok (by decide +kernel)
theorem hb_d64_3 : ∀ q ∈ hb_c64_3, decode hb_h64.2.1 q.1 = .ok q.2 := px_rwc_ok (by decide +kernel)
theorem hb_d64_4 : ∀ q ∈ hb_c64_4, decode hb_h64.2.1 q.1 = .ok q.2 := px_rwc_ok (by decide +kernel)
set_option maxRecDepth 100000 in
theorem hb_w64 : lw_tbl[1126]? = some (Cond.code hb_h64.1 hb_h64.2.1 hb_h64.2.2.1 hb_h64.2.2.2.1) := by rfl
theorem hb_g64 : px_bM hb_h64 104 = true := by decide +kernel
set_option maxRecDepth 100000 in
theorem hb_o64 : px_okM px_Ts px_Ns hb_cl hb_SL hb_P hb_m64 := ⟨px_bM_ok hb_w64 hb_g64, List.forall_mem_append.mpr ⟨hb_d64_0, List.forall_mem_append.mpr ⟨hb_d64_1, List.forall_mem_append.mpr ⟨hb_d64_2, List.forall_mem_append.mpr ⟨hb_d64_3, hb_d64_4⟩⟩⟩⟩, px_bL_ok hb_l5⟩
theorem hb_d65_0 : ∀ q ∈ hb_c65_0, decode hb_h65.2.1 q.1 = .ok q.2 := px_rwc_ok (by decide +kernel)
theorem hb_d65_1 : ∀ q ∈ hb_c65_1, decode hb_h65.2.1 q.1 = .ok q.2 := px_rwc_ok (by decide +kernel)
theorem hb_d65_2 : ∀ q ∈ hb_c65_2, decode hb_h65.2.1 q.1 = .ok q.2 := px_rwc_ok (by decide +kernel)
theorem hb_d65_3 : ∀ q ∈ hb_c65_3, decode hb_h65.2.1 q.1 = .ok q.2 := px_rwc_ok (by decide +kernel)
theorem hb_d65_4 : ∀ q ∈ hb_c65_4, decode hb_h65.2.1 q.1 = .ok q.2 := px_rwc_ok (by decide +kernel)
theorem hb_d65_5 : ∀ q ∈ hb_c65_5, decode hb_h65.2.1 q.1 = .ok q.2 := px_rwc_ok (by decide +kernel)
theorem hb_d65_6 : ∀ q ∈ hb_c65_6, decode hb_h65.2.1 q.1 = .ok q.2 := px_rwc_ok (by decide +kernel)
theorem hb_d65_7 : ∀ q ∈ hb_c65_7, decode hb_h65.2.1 q.1 = .ok q.2 := px_rwc_ok (by decide +kernel)
theorem hb_d65_8 : ∀ q ∈ hb_c65_8, decode hb_h65.2.1 q.1 = .ok q.2 := px_rwc_ok (by decide +kernel)
theorem hb_d65_9 : ∀ q ∈ hb_c65_9, decode hb_h65.2.1 q.1 = .ok q.2 := px_rwc_ok (by decide +kernel)
theorem hb_d65_10 : ∀ q ∈ hb_c65_10, decode hb_h65.2.1 q.1 = .ok q.2 := px_rwc_ok (by decide +kernel)
theorem hb_d65_11 : ∀ q ∈ hb_c65_11, decode hb_h65.2.1 q.1 = .ok q.2 := px_rwc_ok (by decide +kernel)
set_option maxRecDepth 100000 in
theorem hb_w65 : lw_tbl[1142]? = some (Cond.code hb_h65.1 hb_h65.2.1 hb_h65.2.2.1 hb_h65.2.2.2.1) := by rfl
theorem hb_g65 : px_bM hb_h65 104 = true := by decide +kernel
set_option maxRecDepth 100000 in
theorem hb_o65 : px_okM px_Ts px_Ns hb_cl hb_SL hb_P hb_m65 := ⟨px_bM_ok hb_w65 hb_g65, List.forall_mem_append.mpr ⟨hb_d65_0, List.forall_mem_append.mpr ⟨hb_d65_1, List.forall_mem_append.mpr ⟨hb_d65_2, List.forall_mem_append.mpr ⟨hb_d65_3, List.forall_mem_append.mpr ⟨hb_d65_4, List.forall_mem_append.mpr ⟨hb_d65_5, List.forall_mem_append.mpr ⟨hb_d65_6, List.forall_mem_append.mpr ⟨hb_d65_7, List.forall_mem_append.mpr ⟨hb_d65_8, List.forall_mem_append.mpr ⟨hb_d65_9, List.forall_mem_append.mpr ⟨hb_d65_10, hb_d65_11⟩⟩⟩⟩⟩⟩⟩⟩⟩⟩⟩, px_bL_ok hb_l5⟩
theorem hb_d66_0 : ∀ q ∈ hb_c66_0, decode hb_h66.2.1 q.1 = .ok q.2 := px_rwc_ok (by decide +kernel)
theorem hb_d66_1 : ∀ q ∈ hb_c66_1, decode hb_h66.2.1 q.1 = .ok q.2 := px_rwc_ok (by decide +kernel)
theorem hb_d66_2 : ∀ q ∈ hb_c66_2, decode hb_h66.2.1 q.1 = .ok q.2 := px_rwc_ok (by decide +kernel)
theorem hb_d66_3 : ∀ q ∈ hb_c66_3, decode hb_h66.2.1 q.1 = .ok q.2 := px_rwc_ok (by decide +kernel)
set_option maxRecDepth 100000 in
theorem hb_w66 : lw_tbl[1151]? = some (Cond.code hb_h66.1 hb_h66.2.1 hb_h66.2.2.1 hb_h66.2.2.2.1) := by rfl
theorem hb_g66 : px_bM hb_h66 104 = true := by decide +kernel
set_option maxRecDepth 100000 in
theorem hb_o66 : px_okM px_Ts px_Ns hb_cl hb_SL hb_P hb_m66 := ⟨px_bM_ok hb_w66 hb_g66, List.forall_mem_append.mpr ⟨hb_d66_0, List.forall_mem_append.mpr ⟨hb_d66_1, List.forall_mem_append.mpr ⟨hb_d66_2, hb_d66_3⟩⟩⟩, px_bL_ok hb_l5⟩
theorem hb_d67_0 : ∀ q ∈ hb_c67_0, decode hb_h67.2.1 q.1 = .ok q.2 := px_rwc_ok (by decide +kernel)
theorem hb_d67_1 : ∀ q ∈ hb_c67_1, decode hb_h67.2.1 q.1 = .ok q.2 := px_rwc_ok (by decide +kernel)
theorem hb_d67_2 : ∀ q ∈ hb_c67_2, decode hb_h67.2.1 q.1 = .ok q.2 := px_rwc_ok (by decide +kernel)
theorem hb_d67_3 : ∀ q ∈ hb_c67_3, decode hb_h67.2.1 q.1 = .ok q.2 := px_rwc_ok (by decide +kernel)
theorem hb_d67_4 : ∀ q ∈ hb_c67_4, decode hb_h67.2.1 q.1 = .ok q.2 := px_rwc_ok (by decide +kernel)
set_option maxRecDepth 100000 in
theorem hb_w67 : lw_tbl[1159]? = some (Cond.code hb_h67.1 hb_h67.2.1 hb_h67.2.2.1 hb_h67.2.2.2.1) := by rfl
theorem hb_g67 : px_bM hb_h67 104 = true := by decide +kernel
set_option maxRecDepth 100000 in
theorem hb_o67 : px_okM px_Ts px_Ns hb_cl hb_SL hb_P hb_m67 := ⟨px_bM_ok hb_w67 hb_g67, List.forall_mem_append.mpr ⟨hb_d67_0, List.forall_mem_append.mpr ⟨hb_d67_1, List.forall_mem_append.mpr ⟨hb_d67_2, List.forall_mem_append.mpr ⟨hb_d67_3, hb_d67_4⟩⟩⟩⟩, px_bL_ok hb_l5⟩
theorem hb_d68_0 : ∀ q ∈ hb_c68_0, decode hb_h68.2.1 q.1 = .ok q.2 := px_rwc_ok (by decide +kernel)
theorem hb_d68_1 : ∀ q ∈ hb_c68_1, decode hb_h68.2.1 q.1 = .ok q.2 := px_rwc_ok (by decide +kernel)
theorem hb_d68_2 : ∀ q ∈ hb_c68_2, decode hb_h68.2.1 q.1 = .ok q.2 := px_rwc_ok (by decide +kernel)
theorem hb_d68_3 : ∀ q ∈ hb_c68_3, decode hb_h68.2.1 q.1 = .ok q.2 := px_rwc_ok (by decide +kernel)
theorem hb_d68_4 : ∀ q ∈ hb_c68_4, decode hb_h68.2.1 q.1 = .ok q.2 := px_rwc_ok (by decide +kernel)
set_option maxRecDepth 100000 in
theorem hb_w68 : lw_tbl[1163]? = some (Cond.code hb_h68.1 hb_h68.2.1 hb_h68.2.2.1 hb_h68.2.2.2.1) := by rfl
theorem hb_g68 : px_bM hb_h68 104 = true := by decide +kernel
set_option maxRecDepth 100000 in
theorem hb_o68 : px_okM px_Ts px_Ns hb_cl hb_SL hb_P hb_m68 := ⟨px_bM_ok hb_w68 hb_g68, List.forall_mem_append.mpr ⟨hb_d68_0, List.forall_mem_append.mpr ⟨hb_d68_1, List.forall_mem_append.mpr ⟨hb_d68_2, List.forall_mem_append.mpr ⟨hb_d68_3, hb_d68_4⟩⟩⟩⟩, px_bL_ok hb_l5⟩
theorem hb_d69_0 : ∀ q ∈ hb_c69_0, decode hb_h69.2.1 q.1 = .ok q.2 := px_rwc_ok (by decide +kernel)
theorem hb_d69_1 : ∀ q ∈ hb_c69_1, decode hb_h69.2.1 q.1 = .ok q.2 := px_rwc_ok (by decide +kernel)
theorem hb_d69_2 : ∀ q ∈ hb_c69_2, decode hb_h69.2.1 q.1 = .ok q.2 := px_rwc_ok (by decide +kernel)
theorem hb_d69_3 : ∀ q ∈ hb_c69_3, decode hb_h69.2.1 q.1 = .ok q.2 := px_rwc_ok (by decide +kernel)
theorem hb_d69_4 : ∀ q ∈ hb_c69_4, decode hb_h69.2.1 q.1 = .ok q.2 := px_rwc_ok (by decide +kernel)
theorem hb_d69_5 : ∀ q ∈ hb_c69_5, decode hb_h69.2.1 q.1 = .ok q.2 := px_rwc_ok (by decide +kernel)
theorem hb_d69_6 : ∀ q ∈ hb_c69_6, decode hb_h69.2.1 q.1 = .ok q.2 := px_rwc_ok (by decide +kernel)
set_option maxRecDepth 100000 in
theorem hb_w69 : lw_tbl[1167]? = some (Cond.code hb_h69.1 hb_h69.2.1 hb_h69.2.2.1 hb_h69.2.2.2.1) := by rfl
theorem hb_g69 : px_bM hb_h69 104 = true := by decide +kernel
set_option maxRecDepth 100000 in
theorem hb_o69 : px_okM px_Ts px_Ns hb_cl hb_SL hb_P hb_m69 := ⟨px_bM_ok hb_w69 hb_g69, List.forall_mem_append.mpr ⟨hb_d69_0, List.forall_mem_append.mpr ⟨hb_d69_1, List.forall_mem_append.mpr ⟨hb_d69_2, List.forall_mem_append.mpr ⟨hb_d69_3, List.forall_mem_append.mpr ⟨hb_d69_4, List.forall_mem_append.mpr ⟨hb_d69_5, hb_d69_6⟩⟩⟩⟩⟩⟩, px_bL_ok hb_l5⟩
theorem hb_d70_0 : ∀ q ∈ hb_c70_0, decode hb_h70.2.1 q.1 = .ok q.2 := px_rwc_ok (by decide +kernel)
theorem hb_d70_1 : ∀ q ∈ hb_c70_1, decode hb_h70.2.1 q.1 = .ok q.2 := px_rwc_ok (by decide +kernel)
theorem hb_d70_2 : ∀ q ∈ hb_c70_2, decode hb_h70.2.1 q.1 = .ok q.2 := px_rwc_ok (by decide +kernel)
theorem hb_d70_3 : ∀ q ∈ hb_c70_3, decode hb_h70.2.1 q.1 = .ok q.2 := px_rwc_ok (by decide +kernel)
set_option maxRecDepth 100000 in
theorem hb_w70 : lw_tbl[1171]? = some (Cond.code hb_h70.1 hb_h70.2.1 hb_h70.2.2.1 hb_h70.2.2.2.1) := by rfl
theorem hb_g70 : px_bM hb_h70 104 = true := by decide +kernel
set_option maxRecDepth 100000 in
theorem hb_o70 : px_okM px_Ts px_Ns hb_cl hb_SL hb_P hb_m70 := ⟨px_bM_ok hb_w70 hb_g70, List.forall_mem_append.mpr ⟨hb_d70_0, List.forall_mem_append.mpr ⟨hb_d70_1, List.forall_mem_append.mpr ⟨hb_d70_2, hb_d70_3⟩⟩⟩, px_bL_ok hb_l5⟩
theorem hb_d71_0 : ∀ q ∈ hb_c71_0, decode hb_h71.2.1 q.1 = .ok q.2 := px_rwc_ok (by decide +kernel)
theorem hb_d71_1 : ∀ q ∈ hb_c71_1, decode hb_h71.2.1 q.1 = .ok q.2 := px_rwc_ok (by decide +kernel)
theorem hb_d71_2 : ∀ q ∈ hb_c71_2, decode hb_h71.2.1 q.1 = .ok q.2 := px_rwc_ok (by decide +kernel)
theorem hb_d71_3 : ∀ q ∈ hb_c71_3, decode hb_h71.2.1 q.1 = .ok q.2 := px_rwc_ok (by decide +kernel)
theorem hb_d71_4 : ∀ q ∈ hb_c71_4, decode hb_h71.2.1 q.1 = .ok q.2 := px_rwc_ok (by decide +kernel)
theorem hb_d71_5 : ∀ q ∈ hb_c71_5, decode hb_h71.2.1 q.1 = .ok q.2 := px_rwc_ok (by decide +kernel)
theorem hb_d71_6 : ∀ q ∈ hb_c71_6, decode hb_h71.2.1 q.1 = .ok q.2 := px_rwc_ok (by decide +kernel)
theorem hb_d71_7 : ∀ q ∈ hb_c71_7, decode hb_h71.2.1 q.1 = .ok q.2 := px_rwc_ok (by decide +kernel)
theorem hb_d71_8 : ∀ q ∈ hb_c71_8, decode hb_h71.2.1 q.1 = .ok q.2 := px_rwc_ok (by decide +kernel)
theorem hb_d71_9 : ∀ q ∈ hb_c71_9, decode hb_h71.2.1 q.1 = .ok q.2 := px_rwc_ok (by decide +kernel)
set_option maxRecDepth 100000 in
theorem hb_w71 : lw_tbl[1175]? = some (Cond.code hb_h71.1 hb_h71.2.1 hb_h71.2.2.1 hb_h71.2.2.2.1) := by rfl
theorem hb_g71 : px_bM hb_h71 104 = true := by decide +kernel
set_option maxRecDepth 100000 in
theorem hb_o71 : px_okM px_Ts px_Ns hb_cl hb_SL hb_P hb_m71 := ⟨px_bM_ok hb_w71 hb_g71, List.forall_mem_append.mpr ⟨hb_d71_0, List.forall_mem_append.mpr ⟨hb_d71_1, List.forall_mem_append.mpr ⟨hb_d71_2, List.forall_mem_append.mpr ⟨hb_d71_3, List.forall_mem_append.mpr ⟨hb_d71_4, List.forall_mem_append.mpr ⟨hb_d71_5, List.forall_mem_append.mpr ⟨hb_d71_6, List.forall_mem_append.mpr ⟨hb_d71_7, List.forall_mem_append.mpr ⟨hb_d71_8, hb_d71_9⟩⟩⟩⟩⟩⟩⟩⟩⟩, px_bL_ok hb_l5⟩
theorem hb_d72_0 : ∀ q ∈ hb_c72_0, decode hb_h72.2.1 q.1 = .ok q.2 := px_rwc_ok (by decide +kernel)
theorem hb_d72_1 : ∀ q ∈ hb_c72_1, decode hb_h72.2.1 q.1 = .ok q.2 := px_rwc_ok (by decide +kernel)
theorem hb_d72_2 : ∀ q ∈ hb_c72_2, decode hb_h72.2.1 q.1 = .ok q.2 := px_rwc_ok (by decide +kernel)
theorem hb_d72_3 : ∀ q ∈ hb_c72_3, decode hb_h72.2.1 q.1 = .ok q.2 := px_rwc_ok (by decide +kernel)
theorem hb_d72_4 : ∀ q ∈ hb_c72_4, decode hb_h72.2.1 q.1 = .ok q.2 := px_rwc_ok (by decide +kernel)
set_option maxRecDepth 100000 in
theorem hb_w72 : lw_tbl[363]? = some (Cond.code hb_h72.1 hb_h72.2.1 hb_h72.2.2.1 hb_h72.2.2.2.1) := by rfl
theorem hb_g72 : px_bM hb_h72 101 = true := by decide +kernel
set_option maxRecDepth 100000 in
theorem hb_o72 : px_okM px_Ts px_Ns hb_cl hb_SL hb_P hb_m72 := ⟨px_bM_ok hb_w72 hb_g72, List.forall_mem_append.mpr ⟨hb_d72_0, List.forall_mem_append.mpr ⟨hb_d72_1, List.forall_mem_append.mpr ⟨hb_d72_2, List.forall_mem_append.mpr ⟨hb_d72_3, hb_d72_4⟩⟩⟩⟩, px_bL_ok hb_l6⟩
theorem hb_d73_0 : ∀ q ∈ hb_c73_0, decode hb_h73.2.1 q.1 = .ok q.2 := px_rwc_ok (by decide +kernel)
theorem hb_d73_1 : ∀ q ∈ hb_c73_1, decode hb_h73.2.1 q.1 = .ok q.2 := px_rwc_ok (by decide +kernel)
theorem hb_d73_2 : ∀ q ∈ hb_c73_2, decode hb_h73.2.1 q.1 = .ok q.2 := px_rwc_ok (by decide +kernel)
theorem hb_d73_3 : ∀ q ∈ hb_c73_3, decode hb_h73.2.1 q.1 = .ok q.2 := px_rwc_ok (by decide +kernel)
theorem hb_d73_4 : ∀ q ∈ hb_c73_4, decode hb_h73.2.1 q.1 = .ok q.2 := px_rwc_ok (by decide +kernel)
set_option maxRecDepth 100000 in
theorem hb_w73 : lw_tbl[1426]? = some (Cond.code hb_h73.1 hb_h73.2.1 hb_h73.2.2.1 hb_h73.2.2.2.1) := by rfl
theorem hb_g73 : px_bM hb_h73 101 = true := by decide +kernel
set_option maxRecDepth 100000 in
theorem hb_o73 : px_okM px_Ts px_Ns hb_cl hb_SL hb_P hb_m73 := ⟨px_bM_ok hb_w73 hb_g73, List.forall_mem_append.mpr ⟨hb_d73_0, List.forall_mem_append.mpr ⟨hb_d73_1, List.forall_mem_append.mpr ⟨hb_d73_2, List.forall_mem_append.mpr ⟨hb_d73_3, hb_d73_4⟩⟩⟩⟩, px_bL_ok hb_l6⟩
theorem hb_d74_0 : ∀ q ∈ hb_c74_0, decode hb_h74.2.1 q.1 = .ok q.2 := px_rwc_ok (by decide +kernel)
theorem hb_d74_1 : ∀ q ∈ hb_c74_1, decode hb_h74.2.1 q.1 = .ok q.2 := px_rwc_ok (by decide +kernel)
set_option maxRecDepth 100000 in
theorem hb_w74 : lw_tbl[1122]? = some (Cond.code hb_h74.1 hb_h74.2.1 hb_h74.2.2.1 hb_h74.2.2.2.1) := by rfl
theorem hb_g74 : px_bM hb_h74 101 = true := by decide +kernel
set_option maxRecDepth 100000 in
theorem hb_o74 : px_okM px_Ts px_Ns hb_cl hb_SL hb_P hb_m74 := ⟨px_bM_ok hb_w74 hb_g74, List.forall_mem_append.mpr ⟨hb_d74_0, hb_d74_1⟩, px_bL_ok hb_l6⟩
theorem hb_d75_0 : ∀ q ∈ hb_c75_0, decode hb_h75.2.1 q.1 = .ok q.2 := px_rwc_ok (by decide +kernel)
set_option maxRecDepth 100000 in
theorem hb_w75 : lw_tbl[1155]? = some (Cond.code hb_h75.1 hb_h75.2.1 hb_h75.2.2.1 hb_h75.2.2.2.1) := by rfl
theorem hb_g75 : px_bM hb_h75 101 = true := by decide +kernel
set_option maxRecDepth 100000 in
theorem hb_o75 : px_okM px_Ts px_Ns hb_cl hb_SL hb_P hb_m75 := ⟨px_bM_ok hb_w75 hb_g75, hb_d75_0, px_bL_ok hb_l6⟩
theorem hb_d76_0 : ∀ q ∈ hb_c76_0, decode hb_h76.2.1 q.1 = .ok q.2 := px_rwc_ok (by decide +kernel)
theorem hb_d76_1 : ∀ q ∈ hb_c76_1, decode hb_h76.2.1 q.1 = .ok q.2 := px_rwc_ok (by decide +kernel)
theorem hb_d76_2 : ∀ q ∈ hb_c76_2, decode hb_h76.2.1 q.1 = .ok q.2 := px_rwc_ok (by decide +kernel)
theorem hb_d76_3 : ∀ q ∈ hb_c76_3, decode hb_h76.2.1 q.1 = .ok q.2 := px_rwc_ok (by decide +kernel)
set_option maxRecDepth 100000 in
theorem hb_w76 : lw_tbl[1179]? = some (Cond.code hb_h76.1 hb_h76.2.1 hb_h76.2.2.1 hb_h76.2.2.2.1) := by rfl
theorem hb_g76 : px_bM hb_h76 101 = true := by decide +kernel
set_option maxRecDepth 100000 in
theorem hb_o76 : px_okM px_Ts px_Ns hb_cl hb_SL hb_P hb_m76 := ⟨px_bM_ok hb_w76 hb_g76, List.forall_mem_append.mpr ⟨hb_d76_0, List.forall_mem_append.mpr ⟨hb_d76_1, List.forall_mem_append.mpr ⟨hb_d76_2, hb_d76_3⟩⟩⟩, px_bL_ok hb_l6⟩
theorem hb_d77_0 : ∀ q ∈ hb_c77_0, decode hb_h77.2.1 q.1 = .ok q.2 := px_rwc_ok (by decide +kernel)
theorem hb_d77_1 : ∀ q ∈ hb_c77_1, decode hb_h77.2.1 q.1 = .ok q.2 := px_rwc_ok (by decide +kernel)
theorem hb_d77_2 : ∀ q ∈ hb_c77_2, decode hb_h77.2.1 q.1 = .ok q.2 := px_rwc_ok (by decide +kernel)
theorem hb_d77_3 : ∀ q ∈ hb_c77_3, decode hb_h77.2.1 q.1 = .ok q.2 := px_rwc_ok (by decide +kernel)
theorem hb_d77_4 : ∀ q ∈ hb_c77_4, decode hb_h77.2.1 q.1 = .ok q.2 := px_rwc_ok (by decide +kernel)
theorem hb_d77_5 : ∀ q ∈ hb_c77_5, decode hb_h77.2.1 q.1 = .ok q.2 := px_rwc_ok (by decide +kernel)
set_option maxRecDepth 100000 in
theorem hb_w77 : lw_tbl[1138]? = some (Cond.code hb_h77.1 hb_h77.2.1 hb_h77.2.2.1 hb_h77.2.2.2.1) := by rfl
theorem hb_g77 : px_bM hb_h77 101 = true := by decide +kernel
set_option maxRecDepth 100000 in
theorem hb_o77 : px_okM px_Ts px_Ns hb_cl hb_SL hb_P hb_m77 := ⟨px_bM_ok hb_w77 hb_g77, List.forall_mem_append.mpr ⟨hb_d77_0, List.forall_mem_append.mpr ⟨hb_d77_1, List.forall_mem_append.mpr ⟨hb_d77_2, List.forall_mem_append.mpr ⟨hb_d77_3, List.forall_mem_append.mpr ⟨hb_d77_4, hb_d77_5⟩⟩⟩⟩⟩, px_bL_ok hb_l6⟩
theorem hb_d78_0 : ∀ q ∈ hb_c78_0, decode hb_h78.2.1 q.1 = .ok q.2 := px_rwc_ok (by decide +kernel)
theorem hb_d78_1 : ∀ q ∈ hb_c78_1, decode hb_h78.2.1 q.1 = .ok q.2 := px_rwc_ok (by decide +kernel)
set_option maxRecDepth 100000 in
theorem hb_w78 : lw_tbl[1183]? = some (Cond.code hb_h78.1 hb_h78.2.1 hb_h78.2.2.1 hb_h78.2.2.2.1) := by rfl
theorem hb_g78 : px_bM hb_h78 101 = true := by decide +kernel
set_option maxRecDepth 100000 in
theorem hb_o78 : px_okM px_Ts px_Ns hb_cl hb_SL hb_P hb_m78 := ⟨px_bM_ok hb_w78 hb_g78, List.forall_mem_append.mpr ⟨hb_d78_0, hb_d78_1⟩, px_bL_ok hb_l6⟩
theorem hb_d79_0 : ∀ q ∈ hb_c79_0, decode hb_h79.2.1 q.1 = .ok q.2 := px_rwc_ok (by decide +kernel)
theorem hb_d79_1 : ∀ q ∈ hb_c79_1, decode hb_h79.2.1 q.1 = .ok q.2 := px_rwc_ok (by decide +kernel)
theorem hb_d79_2 : ∀ q ∈ hb_c79_2, decode hb_h79.2.1 q.1 = .ok q.2 := px_rwc_ok (by decide +kernel)
theorem hb_d79_3 : ∀ q ∈ hb_c79_3, decode hb_h79.2.1 q.1 = .ok q.2 := px_rwc_ok (by decide +kernel)
set_option maxRecDepth 100000 in
theorem hb_w79 : lw_tbl[1200]? = some (Cond.code hb_h79.1 hb_h79.2.1 hb_h79.2.2.1 hb_h79.2.2.2.1) := by rfl
theorem hb_g79 : px_bM hb_h79 101 = true := by decide +kernel
set_option maxRecDepth 100000 in
theorem hb_o79 : px_okM px_Ts px_Ns hb_cl hb_SL hb_P hb_m79 := ⟨px_bM_ok hb_w79 hb_g79, List.forall_mem_append.mpr ⟨hb_d79_0, List.forall_mem_append.mpr ⟨hb_d79_1, List.forall_mem_append.mpr ⟨hb_d79_2, hb_d79_3⟩⟩⟩, px_bL_ok hb_l6⟩

end

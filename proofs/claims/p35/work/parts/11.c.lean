noncomputable section
theorem hb_d40_0 : ∀ q ∈ hb_c40_0, decode hb_h40.2.1 q.1 = .ok q.2 := px_rwc_ok (by decide +kernel)
theorem hb_d40_1 : ∀ q ∈ hb_c40_1, decode hb_h40.2.1 q.1 = .ok q.2 := px_rwc_ok (by decide +kernel)
theorem hb_d40_2 : ∀ q ∈ hb_c40_2, decode hb_h40.2.1 q.1 = .ok q.2 := px_rwc_ok (by decide +kernel)
theorem hb_d40_3 : ∀ q ∈ hb_c40_3, decode hb_h40.2.1 q.1 = .ok q.2 := px_rwc_ok (by decide +kernel)
theorem hb_d40_4 : ∀ q ∈ hb_c40_4, decode hb_h40.2.1 q.1 = .ok q.2 := px_rwc_ok (by decide +kernel)
set_option maxRecDepth 100000 in
theorem hb_w40 : lw_tbl[692]? = some (Cond.code hb_h40.1 hb_h40.2.1 hb_h40.2.2.1 hb_h40.2.2.2.1) := by rfl
theorem hb_g40 : px_bM hb_h40 96 = true := by decide +kernel
set_option maxRecDepth 100000 in
theorem hb_o40 : px_okM px_Ts px_Ns hb_cl hb_SL hb_P hb_m40 := ⟨px_bM_ok hb_w40 hb_g40, List.forall_mem_append.mpr ⟨hb_d40_0, List.forall_mem_append.mpr ⟨hb_d40_1, List.forall_mem_append.mpr ⟨hb_d40_2, List.forall_mem_append.mpr ⟨hb_d40_3, hb_d40_4⟩⟩⟩⟩, px_bL_ok hb_l3⟩
theorem hb_d41_0 : ∀ q ∈ hb_c41_0, decode hb_h41.2.1 q.1 = .ok q.2 := px_rwc_ok (by decide +kernel)
theorem hb_d41_1 : ∀ q ∈ hb_c41_1, decode hb_h41.2.1 q.1 = .ok q.2 := px_rwc_ok (by decide +kernel)
theorem hb_d41_2 : ∀ q ∈ hb_c41_2, decode hb_h41.2.1 q.1 = .ok q.2 := px_rwc_ok (by decide +kernel)
theorem hb_d41_3 : ∀ q ∈ hb_c41_3, decode hb_h41.2.1 q.1 = .ok q.2 := px_rwc_ok (by decide +kernel)
theorem hb_d41_4 : ∀ q ∈ hb_c41_4, decode hb_h41.2.1 q.1 = .ok q.2 := px_rwc_ok (by decide +kernel)
theorem hb_d41_5 : ∀ q ∈ hb_c41_5, decode hb_h41.2.1 q.1 = .ok q.2 := px_rwc_ok (by decide +kernel)
theorem hb_d41_6 : ∀ q ∈ hb_c41_6, decode hb_h41.2.1 q.1 = .ok q.2 := px_rwc_ok (by decide +kernel)
theorem hb_d41_7 : ∀ q ∈ hb_c41_7, decode hb_h41.2.1 q.1 = .ok q.2 := px_rwc_ok (by decide +kernel)
theorem hb_d41_8 : ∀ q ∈ hb_c41_8, decode hb_h41.2.1 q.1 = .ok q.2 := px_rwc_ok (by decide +kernel)
theorem hb_d41_9 : ∀ q ∈ hb_c41_9, decode hb_h41.2.1 q.1 = .ok q.2 := px_rwc_ok (by decide +kernel)
set_option maxRecDepth 100000 in
theorem hb_w41 : lw_tbl[666]? = some (Cond.code hb_h41.1 hb_h41.2.1 hb_h41.2.2.1 hb_h41.2.2.2.1) := by rfl
theorem hb_g41 : px_bM hb_h41 96 = true := by decide +kernel
set_option maxRecDepth 100000 in
theorem hb_o41 : px_okM px_Ts px_Ns hb_cl hb_SL hb_P hb_m41 := ⟨px_bM_ok hb_w41 hb_g41, List.forall_mem_append.mpr ⟨hb_d41_0, List.forall_mem_append.mpr ⟨hb_d41_1, List.forall_mem_append.mpr ⟨hb_d41_2, List.forall_mem_append.mpr ⟨hb_d41_3, List.forall_mem_append.mpr ⟨hb_d41_4, List.forall_mem_append.mpr ⟨hb_d41_5, List.forall_mem_append.mpr ⟨hb_d41_6, List.forall_mem_append.mpr ⟨hb_d41_7, List.forall_mem_append.mpr ⟨hb_d41_8, hb_d41_9⟩⟩⟩⟩⟩⟩⟩⟩⟩, px_bL_ok hb_l3⟩
theorem hb_d42_0 : ∀ q ∈ hb_c42_0, decode hb_h42.2.1 q.1 = .ok q.2 := px_rwc_ok (by decide +kernel)
theorem hb_d42_1 : ∀ q ∈ hb_c42_1, decode hb_h42.2.1 q.1 = .ok q.2 := px_rwc_ok (by decide +kernel)
theorem hb_d42_2 : ∀ q ∈ hb_c42_2, decode hb_h42.2.1 q.1 = .ok q.2 := px_rwc_ok (by decide +kernel)
theorem hb_d42_3 : ∀ q ∈ hb_c42_3, decode hb_h42.2.1 q.1 = .ok q.2 := px_rwc_ok (by decide +kernel)
theorem hb_d42_4 : ∀ q ∈ hb_c42_4, decode hb_h42.2.1 q.1 = .ok q.2 := px_rwc_ok (by decide +kernel)
theorem hb_d42_5 : ∀ q ∈ hb_c42_5, decode hb_h42.2.1 q.1 = .ok q.2 := px_rwc_ok (by decide +kernel)
theorem hb_d42_6 : ∀ q ∈ hb_c42_6, decode hb_h42.2.1 q.1 = .ok q.2 := px_rwc_ok (by decide +kernel)
theorem hb_d42_7 : ∀ q ∈ hb_c42_7, decode hb_h42.2.1 q.1 = .ok q.2 := px_rwc_ok (by decide +kernel)
theorem hb_d42_8 : ∀ q ∈ hb_c42_8, decode hb_h42.2.1 q.1 = .ok q.2 := px_rwc_ok (by decide +kernel)
theorem hb_d42_9 : ∀ q ∈ hb_c42_9, decode hb_h42.2.1 q.1 = .ok q.2 := px_rwc_ok (by decide +kernel)
theorem hb_d42_10 : ∀ q ∈ hb_c42_10, decode hb_h42.2.1 q.1 = .ok q.2 := px_rwc_ok (by decide +kernel)
set_option maxRecDepth 100000 in
theorem hb_w42 : lw_tbl[684]? = some (Cond.code hb_h42.1 hb_h42.2.1 hb_h42.2.2.1 hb_h42.2.2.2.1) := by rfl
theorem hb_g42 : px_bM hb_h42 96 = true := by decide +kernel
set_option maxRecDepth 100000 in
theorem hb_o42 : px_okM px_Ts px_Ns hb_cl hb_SL hb_P hb_m42 := ⟨px_bM_ok hb_w42 hb_g42, List.forall_mem_append.mpr ⟨hb_d42_0, List.forall_mem_append.mpr ⟨hb_d42_1, List.forall_mem_append.mpr ⟨hb_d42_2, List.forall_mem_append.mpr ⟨hb_d42_3, List.forall_mem_append.mpr ⟨hb_d42_4, List.forall_mem_append.mpr ⟨hb_d42_5, List.forall_mem_append.mpr ⟨hb_d42_6, List.forall_mem_append.mpr ⟨hb_d42_7, List.forall_mem_append.mpr ⟨hb_d42_8, List.forall_mem_append.mpr ⟨hb_d42_9, hb_d42_10⟩⟩⟩⟩⟩⟩⟩⟩⟩⟩, px_bL_ok hb_l3⟩
theorem hb_d43_0 : ∀ q ∈ hb_c43_0, decode hb_h43.2.1 q.1 = .ok q.2 := px_rwc_ok (by decide +kernel)
theorem hb_d43_1 : ∀ q ∈ hb_c43_1, decode hb_h43.2.1 q.1 = .ok q.2 := px_rwc_ok (by decide +kernel)
theorem hb_d43_2 : ∀ q ∈ hb_c43_2, decode hb_h43.2.1 q.1 = .ok q.2 := px_rwc_ok (by decide +kernel)
theorem hb_d43_3 : ∀ q ∈ hb_c43_3, decode hb_h43.2.1 q.1 = .ok q.2 := px_rwc_ok (by decide +kernel)
theorem hb_d43_4 : ∀ q ∈ hb_c43_4, decode hb_h43.2.1 q.1 = .ok q.2 := px_rwc_ok (by decide +kernel)
theorem hb_d43_5 : ∀ q ∈ hb_c43_5, decode hb_h43.2.1 q.1 = .ok q.2 := px_rwc_ok (by decide +kernel)
theorem hb_d43_6 : ∀ q ∈ hb_c43_6, decode hb_h43.2.1 q.1 = .ok q.2 := px_rwc_ok (by decide +kernel)
set_option maxRecDepth 100000 in
theorem hb_w43 : lw_tbl[688]? = some (Cond.code hb_h43.1 hb_h43.2.1 hb_h43.2.2.1 hb_h43.2.2.2.1) := by rfl
theorem hb_g43 : px_bM hb_h43 96 = true := by decide +kernel
set_option maxRecDepth 100000 in
theorem hb_o43 : px_okM px_Ts px_Ns hb_cl hb_SL hb_P hb_m43 := ⟨px_bM_ok hb_w43 hb_g43, List.forall_mem_append.mpr ⟨hb_d43_0, List.forall_mem_append.mpr ⟨hb_d43_1, List.forall_mem_append.mpr ⟨hb_d43_2, List.forall_mem_append.mpr ⟨hb_d43_3, List.forall_mem_append.mpr ⟨hb_d43_4, List.forall_mem_append.mpr ⟨hb_d43_5, hb_d43_6⟩⟩⟩⟩⟩⟩, px_bL_ok hb_l3⟩
theorem hb_d44_0 : ∀ q ∈ hb_c44_0, decode hb_h44.2.1 q.1 = .ok q.2 := px_rwc_ok (by decide +kernel)
theorem hb_d44_1 : ∀ q ∈ hb_c44_1, decode hb_h44.2.1 q.1 = .ok q.2 := px_rwc_ok (by decide +kernel)
theorem hb_d44_2 : ∀ q ∈ hb_c44_2, decode hb_h44.2.1 q.1 = .ok q.2 := px_rwc_ok (by decide +kernel)
theorem hb_d44_3 : ∀ q ∈ hb_c44_3, decode hb_h44.2.1 q.1 = .ok q.2 := px_rwc_ok (by decide +kernel)
theorem hb_d44_4 : ∀ q ∈ hb_c44_4, decode hb_h44.2.1 q.1 = .ok q.2 := px_rwc_ok (by decide +kernel)
theorem hb_d44_5 : ∀ q ∈ hb_c44_5, decode hb_h44.2.1 q.1 = .ok q.2 := px_rwc_ok (by decide +kernel)
set_option maxRecDepth 100000 in
theorem hb_w44 : lw_tbl[398]? = some (Cond.code hb_h44.1 hb_h44.2.1 hb_h44.2.2.1 hb_h44.2.2.2.1) := by rfl
theorem hb_g44 : px_bM hb_h44 102 = true := by decide +kernel
set_option maxRecDepth 100000 in
theorem hb_o44 : px_okM px_Ts px_Ns hb_cl hb_SL hb_P hb_m44 := ⟨px_bM_ok hb_w44 hb_g44, List.forall_mem_append.mpr ⟨hb_d44_0, List.forall_mem_append.mpr ⟨hb_d44_1, List.forall_mem_append.mpr ⟨hb_d44_2, List.forall_mem_append.mpr ⟨hb_d44_3, List.forall_mem_append.mpr ⟨hb_d44_4, hb_d44_5⟩⟩⟩⟩⟩, px_bL_ok hb_l4⟩
theorem hb_d45_0 : ∀ q ∈ hb_c45_0, decode hb_h45.2.1 q.1 = .ok q.2 := px_rwc_ok (by decide +kernel)
theorem hb_d45_1 : ∀ q ∈ hb_c45_1, decode hb_h45.2.1 q.1 = .ok q.2 := px_rwc_ok (by decide +kernel)
set_option maxRecDepth 100000 in
theorem hb_w45 : lw_tbl[1431]? = some (Cond.code hb_h45.1 hb_h45.2.1 hb_h45.2.2.1 hb_h45.2.2.2.1) := by rfl
theorem hb_g45 : px_bM hb_h45 102 = true := by decide +kernel
set_option maxRecDepth 100000 in
theorem hb_o45 : px_okM px_Ts px_Ns hb_cl hb_SL hb_P hb_m45 := ⟨px_bM_ok hb_w45 hb_g45, List.forall_mem_append.mpr ⟨hb_d45_0, hb_d45_1⟩, px_bL_ok hb_l4⟩
theorem hb_d46_0 : ∀ q ∈ hb_c46_0, decode hb_h46.2.1 q.1 = .ok q.2 := px_rwc_ok (by decide +kernel)
theorem hb_d46_1 : ∀ q ∈ hb_c46_1, decode hb_h46.2.1 q.1 = .ok q.2 := px_rwc_ok (by decide +kernel)
theorem hb_d46_2 : ∀ q ∈ hb_c46_2, decode hb_h46.2.1 q.1 = .ok q.2 := px_rwc_ok (by decide +kernel)
set_option maxRecDepth 100000 in
theorem hb_w46 : lw_tbl[1245]? = some (Cond.code hb_h46.1 hb_h46.2.1 hb_h46.2.2.1 hb_h46.2.2.2.1) := by rfl
theorem hb_g46 : px_bM hb_h46 102 = true := by decide +kernel
set_option maxRecDepth 100000 in
theorem hb_o46 : px_okM px_Ts px_Ns hb_cl hb_SL hb_P hb_m46 := ⟨px_bM_ok hb_w46 hb_g46, List.forall_mem_append.mpr ⟨hb_d46_0, List.forall_mem_append.mpr ⟨hb_d46_1, hb_d46_2⟩⟩, px_bL_ok hb_l4⟩
theorem hb_d47_0 : ∀ q ∈ hb_c47_0, decode hb_h47.2.1 q.1 = .ok q.2 := px_rwc_ok (by decide +kernel)
theorem hb_d47_1 : ∀ q ∈ hb_c47_1, decode hb_h47.2.1 q.1 = .ok q.2 := px_rwc_ok (by decide +kernel)
theorem hb_d47_2 : ∀ q ∈ hb_c47_2, decode hb_h47.2.1 q.1 = .ok q.2 := px_rwc_ok (by decide +kernel)
theorem hb_d47_3 : ∀ q ∈ hb_c47_3, decode hb_h47.2.1 q.1 = .ok q.2 := px_rwc_ok (by decide +kernel)
theorem hb_d47_4 : ∀ q ∈ hb_c47_4, decode hb_h47.2.1 q.1 = .ok q.2 := px_rwc_ok (by decide +kernel)
theorem hb_d47_5 : ∀ q ∈ hb_c47_5, decode hb_h47.2.1 q.1 = .ok q.2 := px_rwc_ok (by decide +kernel)
theorem hb_d47_6 : ∀ q ∈ hb_c47_6, decode hb_h47.2.1 q.1 = .ok q.2 := px_rwc_ok (by decide +kernel)
theorem hb_d47_7 : ∀ q ∈ hb_c47_7, decode hb_h47.2.1 q.1 = .ok q.2 := px_rwc_ok (by decide +kernel)
theorem hb_d47_8 : ∀ q ∈ hb_c47_8, decode hb_h47.2.1 q.1 = .ok q.2 := px_rwc_ok (by decide +kernel)
set_option maxRecDepth 100000 in
theorem hb_w47 : lw_tbl[1253]? = some (Cond.code hb_h47.1 hb_h47.2.1 hb_h47.2.2.1 hb_h47.2.2.2.1) := by rfl
theorem hb_g47 : px_bM hb_h47 102 = true := by decide +kernel
set_option maxRecDepth 100000 in
theorem hb_o47 : px_okM px_Ts px_Ns hb_cl hb_SL hb_P hb_m47 := ⟨px_bM_ok hb_w47 hb_g47, List.forall_mem_append.mpr ⟨hb_d47_0, List.forall_mem_append.mpr ⟨hb_d47_1, List.forall_mem_append.mpr ⟨hb_d47_2, List.forall_mem_append.mpr ⟨hb_d47_3, List.forall_mem_append.mpr ⟨hb_d47_4, List.forall_mem_append.mpr ⟨hb_d47_5, List.forall_mem_append.mpr ⟨hb_d47_6, List.forall_mem_append.mpr ⟨hb_d47_7, hb_d47_8⟩⟩⟩⟩⟩⟩⟩⟩, px_bL_ok hb_l4⟩
theorem hb_d48_0 : ∀ q ∈ hb_c48_0, decode hb_h48.2.1 q.1 = .ok q.2 := px_rwc_ok (by decide +kernel)
theorem hb_d48_1 : ∀ q ∈ hb_c48_1, decode hb_h48.2.1 q.1 = .ok q.2 := px_rwc_ok (by decide +kernel)
theorem hb_d48_2 : ∀ q ∈ hb_c48_2, decode hb_h48.2.1 q.1 = .ok q.2 := px_rwc_ok (by decide +kernel)
set_option maxRecDepth 100000 in
theorem hb_w48 : lw_tbl[1257]? = some (Cond.code hb_h48.1 hb_h48.2.1 hb_h48.2.2.1 hb_h48.2.2.2.1) := by rfl
theorem hb_g48 : px_bM hb_h48 102 = true := by decide +kernel
set_option maxRecDepth 100000 in
theorem hb_o48 : px_okM px_Ts px_Ns hb_cl hb_SL hb_P hb_m48 := ⟨px_bM_ok hb_w48 hb_g48, List.forall_mem_append.mpr ⟨hb_d48_0, List.forall_mem_append.mpr ⟨hb_d48_1, hb_d48_2⟩⟩, px_bL_ok hb_l4⟩
theorem hb_d49_0 : ∀ q ∈ hb_c49_0, decode hb_h49.2.1 q.1 = .ok q.2 := px_rwc_ok (by decide +kernel)
theorem hb_d49_1 : ∀ q ∈ hb_c49_1, decode hb_h49.2.1 q.1 = .ok q.2 := px_rwc_ok (by decide +kernel)
set_option maxRecDepth 100000 in
theorem hb_w49 : lw_tbl[1261]? = some (Cond.code hb_h49.1 hb_h49.2.1 hb_h49.2.2.1 hb_h49.2.2.2.1) := by rfl
theorem hb_g49 : px_bM hb_h49 102 = true := by decide +kernel
set_option maxRecDepth 100000 in
theorem hb_o49 : px_okM px_Ts px_Ns hb_cl hb_SL hb_P hb_m49 := ⟨px_bM_ok hb_w49 hb_g49, List.forall_mem_append.mpr ⟨hb_d49_0, hb_d49_1⟩, px_bL_ok hb_l4⟩
theorem hb_d50_0 : ∀ q ∈ hb_c50_0, decode hb_h50.2.1 q.1 = .ok q.2 := px_rwc_ok (by decide +kernel)
theorem hb_d50_1 : ∀ q ∈ hb_c50_1, decode hb_h50.2.1 q.1 = .ok q.2 := px_rwc_ok (by decide +kernel)
theorem hb_d50_2 : ∀ q ∈ hb_c50_2, decode hb_h50.2.1 q.1 = .ok q.2 := px_rwc_ok (by decide +kernel)
theorem hb_d50_3 : ∀ q ∈ hb_c50_3, decode hb_h50.2.1 q.1 = .ok q.2 := px_rwc_ok (by decide +kernel)
theorem hb_d50_4 : ∀ q ∈ hb_c50_4, decode hb_h50.2.1 q.1 = .ok q.2 := px_rwc_ok (by decide +kernel)
theorem hb_d50_5 : ∀ q ∈ hb_c50_5, decode hb_h50.2.1 q.1 = .ok q.2 := px_rwc_ok (by decide +kernel)
theorem hb_d50_6 : ∀ q ∈ hb_c50_6, decode hb_h50.2.1 q.1 = .ok q.2 := px_rwc_ok (by decide +kernel)
theorem hb_d50_7 : ∀ q ∈ hb_c50_7, decode hb_h50.2.1 q.1 = .ok q.2 := px_rwc_ok (by decide +kernel)
theorem hb_d50_8 : ∀ q ∈ hb_c50_8, decode hb_h50.2.1 q.1 = .ok q.2 := px_rwc_ok (by decide +kernel)
theorem hb_d50_9 : ∀ q ∈ hb_c50_9, decode hb_h50.2.1 q.1 = .ok q.2 := px_rwc_ok (by decide +kernel)
theorem hb_d50_10 : ∀ q ∈ hb_c50_10, decode hb_h50.2.1 q.1 = .ok q.2 := px_rwc_ok (by decide +kernel)
set_option maxRecDepth 100000 in
theorem hb_w50 : lw_tbl[1265]? = some (Cond.code hb_h50.1 hb_h50.2.1 hb_h50.2.2.1 hb_h50.2.2.2.1) := by rfl
theorem hb_g50 : px_bM hb_h50 102 = true := by decide +kernel
set_option maxRecDepth 100000 in
theorem hb_o50 : px_okM px_Ts px_Ns hb_cl hb_SL hb_P hb_m50 := ⟨px_bM_ok hb_w50 hb_g50, List.forall_mem_append.mpr ⟨hb_d50_0, List.forall_mem_append.mpr ⟨hb_d50_1, List.forall_mem_append.mpr ⟨hb_d50_2, List.forall_mem_append.mpr ⟨hb_d50_3, List.forall_mem_append.mpr ⟨hb_d50_4, List.forall_mem_append.mpr ⟨hb_d50_5, List.forall_mem_append.mpr ⟨hb_d50_6, List.forall_mem_append.mpr ⟨hb_d50_7, List.forall_mem_append.mpr ⟨hb_d50_8, List.forall_mem_append.mpr ⟨hb_d50_9, hb_d50_10⟩⟩⟩⟩⟩⟩⟩⟩⟩⟩, px_bL_ok hb_l4⟩
theorem hb_d51_0 : ∀ q ∈ hb_c51_0, decode hb_h51.2.1 q.1 = .ok q.2 := px_rwc_ok (by decide +kernel)
theorem hb_d51_1 : ∀ q ∈ hb_c51_1, decode hb_h51.2.1 q.1 = .ok q.2 := px_rwc_ok (by decide +kernel)
theorem hb_d51_2 : ∀ q ∈ hb_c51_2, decode hb_h51.2.1 q.1 = .ok q.2 := px_rwc_ok (by decide +kernel)
theorem hb_d51_3 : ∀ q ∈ hb_c51_3, decode hb_h51.2.1 q.1 = .ok q.2 := px_rwc_ok (by decide +kernel)
set_option maxRecDepth 100000 in
theorem hb_w51 : lw_tbl[505]? = some (Cond.code hb_h51.1 hb_h51.2.1 hb_h51.2.2.1 hb_h51.2.2.2.1) := by rfl
theorem hb_g51 : px_bM hb_h51 104 = true := by decide +kernel
set_option maxRecDepth 100000 in
theorem hb_o51 : px_okM px_Ts px_Ns hb_cl hb_SL hb_P hb_m51 := ⟨px_bM_ok hb_w51 hb_g51, List.forall_mem_append.mpr ⟨hb_d51_0, List.forall_mem_append.mpr ⟨hb_d51_1, List.forall_mem_append.mpr ⟨hb_d51_2, hb_d51_3⟩⟩⟩, px_bL_ok hb_l5⟩
theorem hb_d52_0 : ∀ q ∈ hb_c52_0, decode hb_h52.2.1 q.1 = .ok q.2 := px_rwc_ok (by decide +kernel)
theorem hb_d52_1 : ∀ q ∈ hb_c52_1, decode hb_h52.2.1 q.1 = .ok q.2 := px_rwc_ok (by decide +kernel)
theorem hb_d52_2 : ∀ q ∈ hb_c52_2, decode hb_h52.2.1 q.1 = .ok q.2 := px_rwc_ok (by decide +kernel)
theorem hb_d52_3 : ∀ q ∈ hb_c52_3, decode hb_h52.2.1 q.1 = .ok q.2 := px_rwc_ok (by decide +kernel)
theorem hb_d52_4 : ∀ q ∈ hb_c52_4, decode hb_h52.2.1 q.1 = .ok q.2 := px_rwc_ok (by decide +kernel)
set_option maxRecDepth 100000 in
theorem hb_w52 : lw_tbl[1019]? = some (Cond.code hb_h52.1 hb_h52.2.1 hb_h52.2.2.1 hb_h52.2.2.2.1) := by rfl
theorem hb_g52 : px_bM hb_h52 104 = true := by decide +kernel
set_option maxRecDepth 100000 in
theorem hb_o52 : px_okM px_Ts px_Ns hb_cl hb_SL hb_P hb_m52 := ⟨px_bM_ok hb_w52 hb_g52, List.forall_mem_append.mpr ⟨hb_d52_0, List.forall_mem_append.mpr ⟨hb_d52_1, List.forall_mem_append.mpr ⟨hb_d52_2, List.forall_mem_append.mpr ⟨hb_d52_3, hb_d52_4⟩⟩⟩⟩, px_bL_ok hb_l5⟩
theorem hb_d53_0 : ∀ q ∈ hb_c53_0, decode hb_h53.2.1 q.1 = .ok q.2 := px_rwc_ok (by decide +kernel)
theorem hb_d53_1 : ∀ q ∈ hb_c53_1, decode hb_h53.2.1 q.1 = .ok q.2 := px_rwc_ok (by decide +kernel)
theorem hb_d53_2 : ∀ q ∈ hb_c53_2, decode hb_h53.2.1 q.1 = .ok q.2 := px_rwc_ok (by decide +kernel)
theorem hb_d53_3 : ∀ q ∈ hb_c53_3, decode hb_h53.2.1 q.1 = .ok q.2 := px_rwc_ok (by decide +kernel)
theorem hb_d53_4 : ∀ q ∈ hb_c53_4, decode hb_h53.2.1 q.1 = .ok q.2 := px_rwc_ok (by decide +kernel)
theorem hb_d53_5 : ∀ q ∈ hb_c53_5, decode hb_h53.2.1 q.1 = .ok q.2 := px_rwc_ok (by decide +kernel)
theorem hb_d53_6 : ∀ q ∈ hb_c53_6, decode hb_h53.2.1 q.1 = .ok q.2 := px_rwc_ok (by decide +kernel)
theorem hb_d53_7 : ∀ q ∈ hb_c53_7, decode hb_h53.2.1 q.1 = .ok q.2 := px_rwc_ok (by decide +kernel)
theorem hb_d53_8 : ∀ q ∈ hb_c53_8, decode hb_h53.2.1 q.1 = .ok q.2 := px_rwc_ok (by decide +kernel)
set_option maxRecDepth 100000 in
theorem hb_w53 : lw_tbl[1028]? = some (Cond.code hb_h53.1 hb_h53.2.1 hb_h53.2.2.1 hb_h53.2.2.2.1) := by rfl
theorem hb_g53 : px_bM hb_h53 104 = true := by decide +kernel
set_option maxRecDepth 100000 in
theorem hb_o53 : px_okM px_Ts px_Ns hb_cl hb_SL hb_P hb_m53 := ⟨px_bM_ok hb_w53 hb_g53, List.forall_mem_append.mpr ⟨hb_d53_0, List.forall_mem_append.mpr ⟨hb_d53_1, List.forall_mem_append.mpr ⟨hb_d53_2, List.forall_mem_append.mpr ⟨hb_d53_3, List.forall_mem_append.mpr ⟨hb_d53_4, List.forall_mem_append.mpr ⟨hb_d53_5, List.forall_mem_append.mpr ⟨hb_d53_6, List.forall_mem_append.mpr ⟨hb_d53_7, hb_d53_8⟩⟩⟩⟩⟩⟩⟩⟩, px_bL_ok hb_l5⟩
theorem hb_d54_0 : ∀ q ∈ hb_c54_0, decode hb_h54.2.1 q.1 = .ok q.2 := px_rwc_ok (by decide +kernel)
theorem hb_d54_1 : ∀ q ∈ hb_c54_1, decode hb_h54.2.1 q.1 = .ok q.2 := px_rwc_ok (by decide +kernel)
theorem hb_d54_2 : ∀ q ∈ hb_c54_2, decode hb_h54.2.1 q.1 = .ok q.2 := px_rwc_ok (by decide +kernel)
theorem hb_d54_3 : ∀ q ∈ hb_c54_3, decode hb_h54.2.1 q.1 = .ok q.2 := px_rwc_ok (by decide +kernel)
theorem hb_d54_4 : ∀ q ∈ hb_c54_4, decode hb_h54.2.1 q.1 = .ok q.2 := px_rwc_ok (by decide +kernel)
theorem hb_d54_5 : ∀ q ∈ hb_c54_5, decode hb_h54.2.1 q.1 = .ok q.2 := px_rwc_ok (by decide +kernel)
theorem hb_d54_6 : ∀ q ∈ hb_c54_6, decode hb_h54.2.1 q.1 = .ok q.2 := px_rwc_ok (by decide +kernel)
theorem hb_d54_7 : ∀ q ∈ hb_c54_7, decode hb_h54.2.1 q.1 = .ok q.2 := px_rwc_ok (by decide +kernel)
theorem hb_d54_8 : ∀ q ∈ hb_c54_8, decode hb_h54.2.1 q.1 = .ok q.2 := px_rwc_ok (by decide +kernel)
theorem hb_d54_9 : ∀ q ∈ hb_c54_9, decode hb_h54.2.1 q.1 = .ok q.2 := px_rwc_ok (by decide +kernel)
theorem hb_d54_10 : ∀ q ∈ hb_c54_10, decode hb_h54.2.1 q.1 = .ok q.2 := px_rwc_ok (by decide +kernel)
theorem hb_d54_11 : ∀ q ∈ hb_c54_11, decode hb_h54.2.1 q.1 = .ok q.2 := px_rwc_ok (by decide +kernel)
set_option maxRecDepth 100000 in
theorem hb_w54 : lw_tbl[1032]? = some (Cond.code hb_h54.1 hb_h54.2.1 hb_h54.2.2.1 hb_h54.2.2.2.1) := by rfl
theorem hb_g54 : px_bM hb_h54 104 = true := by decide +kernel
set_option maxRecDepth 100000 in
theorem hb_o54 : px_okM px_Ts px_Ns hb_cl hb_SL hb_P hb_m54 := ⟨px_bM_ok hb_w54 hb_g54, List.forall_mem_append.mpr ⟨hb_d54_0, List.forall_mem_append.mpr ⟨hb_d54_1, List.forall_mem_append.mpr ⟨hb_d54_2, List.forall_mem_append.mpr ⟨hb_d54_3, List.forall_mem_append.mpr ⟨hb_d54_4, List.forall_mem_append.mpr ⟨hb_d54_5, List.forall_mem_append.mpr ⟨hb_d54_6, List.forall_mem_append.mpr ⟨hb_d54_7, List.forall_mem_append.mpr ⟨hb_d54_8, List.forall_mem_append.mpr ⟨hb_d54_9, List.forall_mem_append.mpr ⟨hb_d54_10, hb_d54_11⟩⟩⟩⟩⟩⟩⟩⟩⟩⟩⟩, px_bL_ok hb_l5⟩
theorem hb_d55_0 : ∀ q ∈ hb_c55_0, decode hb_h55.2.1 q.1 = .ok q.2 := px_rwc_ok (by decide +kernel)
theorem hb_d55_1 : ∀ q ∈ hb_c55_1, decode hb_h55.2.1 q.1 = .ok q.2 := px_rwc_ok (by decide +kernel)
theorem hb_d55_2 : ∀ q ∈ hb_c55_2, decode hb_h55.2.1 q.1 = .ok q.2 := px_rwc_ok (by decide +kernel)
theorem hb_d55_3 : ∀ q ∈ hb_c55_3, decode hb_h55.2.1 q.1 = .ok q.2 := px_rwc_ok (by decide +kernel)
set_option maxRecDepth 100000 in
theorem hb_w55 : lw_tbl[1111]? = some (Cond.code hb_h55.1 hb_h55.2.1 hb_h55.2.2.1 hb_h55.2.2.2.1) := by rfl
theorem hb_g55 : px_bM hb_h55 104 = true := by decide +kernel
set_option maxRecDepth 100000 in
theorem hb_o55 : px_okM px_Ts px_Ns hb_cl hb_SL hb_P hb_m55 := ⟨px_bM_ok hb_w55 hb_g55, List.forall_mem_append.mpr ⟨hb_d55_0, List.forall_mem_append.mpr ⟨hb_d55_1, List.forall_mem_append.mpr ⟨hb_d55_2, hb_d55_3⟩⟩⟩, px_bL_ok hb_l5⟩
theorem hb_d56_0 : ∀ q ∈ hb_c56_0, decode hb_h56.2.1 q.1 = .ok q.2 := px_rwc_ok (by decide +kernel)
theorem hb_d56_1 : ∀ q ∈ hb_c56_1, decode hb_h56.2.1 q.1 = .ok q.2 := px_rwc_ok (by decide +kernel)
set_option maxRecDepth 100000 in
theorem hb_w56 : lw_tbl[1035]? = some (Cond.code hb_h56.1 hb_h56.2.1 hb_h56.2.2.1 hb_h56.2.2.2.1) := by rfl
theorem hb_g56 : px_bM hb_h56 104 = true := by decide +kernel
set_option maxRecDepth 100000 in
theorem hb_o56 : px_okM px_Ts px_Ns hb_cl hb_SL hb_P hb_m56 := ⟨px_bM_ok hb_w56 hb_g56, List.forall_mem_append.mpr ⟨hb_d56_0, hb_d56_1⟩, px_bL_ok hb_l5⟩
theorem hb_d57_0 : ∀ q ∈ hb_c57_0, decode hb_h57.2.1 q.1 = .ok q.2 := px_rwc_ok (by decide +kernel)
theorem hb_d57_1 : ∀ q ∈ hb_c57_1, decode hb_h57.2.1 q.1 = .ok q.2 := px_rwc_ok (by decide +kernel)
set_option maxRecDepth 100000 in
theorem hb_w57 : lw_tbl[1114]? = some (Cond.code hb_h57.1 hb_h57.2.1 hb_h57.2.2.1 hb_h57.2.2.2.1) := by rfl
theorem hb_g57 : px_bM hb_h57 104 = true := by decide +kernel
set_option maxRecDepth 100000 in
theorem hb_o57 : px_okM px_Ts px_Ns hb_cl hb_SL hb_P hb_m57 := ⟨px_bM_ok hb_w57 hb_g57, List.forall_mem_append.mpr ⟨hb_d57_0, hb_d57_1⟩, px_bL_ok hb_l5⟩
theorem hb_d58_0 : ∀ q ∈ hb_c58_0, decode hb_h58.2.1 q.1 = .ok q.2 := px_rwc_ok (by decide +kernel)
theorem hb_d58_1 : ∀ q ∈ hb_c58_1, decode hb_h58.2.1 q.1 = .ok q.2 := px_rwc_ok (by decide +kernel)
theorem hb_d58_2 : ∀ q ∈ hb_c58_2, decode hb_h58.2.1 q.1 = .ok q.2 := px_rwc_ok (by decide +kernel)
theorem hb_d58_3 : ∀ q ∈ hb_c58_3, decode hb_h58.2.1 q.1 = .ok q.2 := px_rwc_ok (by decide +kernel)
set_option maxRecDepth 100000 in
theorem hb_w58 : lw_tbl[1118]? = some (Cond.code hb_h58.1 hb_h58.2.1 hb_h58.2.2.1 hb_h58.2.2.2.1) := by rfl
theorem hb_g58 : px_bM hb_h58 104 = true := by decide +kernel
set_option maxRecDepth 100000 in
theorem hb_o58 : px_okM px_Ts px_Ns hb_cl hb_SL hb_P hb_m58 := ⟨px_bM_ok hb_w58 hb_g58, List.forall_mem_append.mpr ⟨hb_d58_0, List.forall_mem_append.mpr ⟨hb_d58_1, List.forall_mem_append.mpr ⟨hb_d58_2, hb_d58_3⟩⟩⟩, px_bL_ok hb_l5⟩
theorem hb_d59_0 : ∀ q ∈ hb_c59_0, decode hb_h59.2.1 q.1 = .ok q.2 := px_rwc_ok (by decide +kernel)
theorem hb_d59_1 : ∀ q ∈ hb_c59_1, decode hb_h59.2.1 q.1 = .ok q.2 := px_rwc_ok (by decide +kernel)
theorem hb_d59_2 : ∀ q ∈ hb_c59_2, decode hb_h59.2.1 q.1 = .ok q.2 := px_rwc_ok (by decide +kernel)
theorem hb_d59_3 : ∀ q ∈ hb_c59_3, decode hb_h59.2.1 q.1 = .ok q.2 := px_rwc_ok (by decide +kernel)
theorem hb_d59_4 : ∀ q ∈ hb_c59_4, decode hb_h59.2.1 q.1 = .ok q.2 := px_rwc_ok (by decide +kernel)
theorem hb_d59_5 : ∀ q ∈ hb_c59_5, decode hb_h59.2.1 q.1 = .ok q.2 := px_rwc_ok (by decide +kernel)
theorem hb_d59_6 : ∀ q ∈ hb_c59_6, decode hb_h59.2.1 q.1 = .ok q.2 := px_rwc_ok (by decide +kernel)
theorem hb_d59_7 : ∀ q ∈ hb_c59_7, decode hb_h59.2.1 q.1 = .ok q.2 := px_rwc_ok (by decide +kernel)
theorem hb_d59_8 : ∀ q ∈ hb_c59_8, decode hb_h59.2.1 q.1 = .ok q.2 := px_rwc_ok (by decide +kernel)
theorem hb_d59_9 : ∀ q ∈ hb_c59_9, decode hb_h59.2.1 q.1 = .ok q.2 := px_rwc_ok (by decide +kernel)
theorem hb_d59_10 : ∀ q ∈ hb_c59_10, decode hb_h59.2.1 q.1 = .ok q.2 := px_rwc_ok (by decide +kernel)
theorem hb_d59_11 : ∀ q ∈ hb_c59_11, decode hb_h59.2.1 q.1 = .ok q.2 := px_rwc_ok (by decide +kernel)
theorem hb_d59_12 : ∀ q ∈ hb_c59_12, decode hb_h59.2.1 q.1 = .ok q.2 := px_rwc_ok (by decide +kernel)
theorem hb_d59_13 : ∀ q ∈ hb_c59_13, decode hb_h59.2.1 q.1 = .ok q.2 := px_rwc_ok (by decide +kernel)
theorem hb_d59_14 : ∀ q ∈ hb_c59_14, decode hb_h59.2.1 q.1 = .ok q.2 := px_rwc_ok (by decide +kernel)
theorem hb_d59_15 : ∀ q ∈ hb_c59_15, decode hb_h59.2.1 q.1 = .ok q.2 := px_rwc_ok (by decide +kernel)
theorem hb_d59_16 : ∀ q ∈ hb_c59_16, decode hb_h59.2.1 q.1 = .ok q.2 := px_rwc_ok (by decide +kernel)
set_option maxRecDepth 100000 in
theorem hb_w59 : lw_tbl[1039]? = some (Cond.code hb_h59.1 hb_h59.2.1 hb_h59.2.2.1 hb_h59.2.2.2.1) := by rfl
theorem hb_g59 : px_bM hb_h59 104 = true := by decide +kernel
set_option maxRecDepth 100000 in
theorem hb_o59 : px_okM px_Ts px_Ns hb_cl hb_SL hb_P hb_m59 := ⟨px_bM_ok hb_w59 hb_g59, List.forall_mem_append.mpr ⟨hb_d59_0, List.forall_mem_append.mpr ⟨hb_d59_1, List.forall_mem_append.mpr ⟨hb_d59_2, List.forall_mem_append.mpr ⟨hb_d59_3, List.forall_mem_append.mpr ⟨hb_d59_4, List.forall_mem_append.mpr ⟨hb_d59_5, List.forall_mem_append.mpr ⟨hb_d59_6, List.forall_mem_append.mpr ⟨hb_d59_7, List.forall_mem_append.mpr ⟨hb_d59_8, List.forall_mem_append.mpr ⟨hb_d59_9, List.forall_mem_append.mpr ⟨hb_d59_10, List.forall_mem_append.mpr ⟨hb_d59_11, List.forall_mem_append.mpr ⟨hb_d59_12, List.forall_mem_append.mpr ⟨hb_d59_13, List.forall_mem_append.mpr ⟨hb_d59_14, List.forall_mem_append.mpr ⟨hb_d59_15, hb_d59_16⟩⟩⟩⟩⟩⟩⟩⟩⟩⟩⟩⟩⟩⟩⟩⟩, px_bL_ok hb_l5⟩

end

noncomputable section
theorem hb_d120_0 : ∀ q ∈ hb_c120_0, decode hb_h120.2.1 q.1 = .ok q.2 := px_rwc_ok (by decide +kernel)
theorem hb_d120_1 : ∀ q ∈ hb_c120_1, decode hb_h120.2.1 q.1 = .ok q.2 := px_rwc_ok (by decide +kernel)
theorem hb_d120_2 : ∀ q ∈ hb_c120_2, decode hb_h120.2.1 q.1 = .ok q.2 := px_rwc_ok (by decide +kernel)
theorem hb_d120_3 : ∀ q ∈ hb_c120_3, decode hb_h120.2.1 q.1 = .ok q.2 := px_rwc_ok (by decide +kernel)
theorem hb_d120_4 : ∀ q ∈ hb_c120_4, decode hb_h120.2.1 q.1 = .ok q.2 := px_rwc_ok (by decide +kernel)
theorem hb_d120_5 : ∀ q ∈ hb_c120_5, decode hb_h120.2.1 q.1 = .ok q.2 := px_rwc_ok (by decide +kernel)
theorem hb_d120_6 : ∀ q ∈ hb_c120_6, decode hb_h120.2.1 q.1 = .ok q.2 := px_rwc_ok (by decide +kernel)
theorem hb_d120_7 : ∀ q ∈ hb_c120_7, decode hb_h120.2.1 q.1 = .ok q.2 := px_rwc_ok (by decide +kernel)
theorem hb_d120_8 : ∀ q ∈ hb_c120_8, decode hb_h120.2.1 q.1 = .ok q.2 := px_rwc_ok (by decide +kernel)
theorem hb_d120_9 : ∀ q ∈ hb_c120_9, decode hb_h120.2.1 q.1 = .ok q.2 := px_rwc_ok (by decide +kernel)
theorem hb_d120_10 : ∀ q ∈ hb_c120_10, decode hb_h120.2.1 q.1 = .ok q.2 := px_rwc_ok (by decide +kernel)
theorem hb_d120_11 : ∀ q ∈ hb_c120_11, decode hb_h120.2.1 q.1 = .ok q.2 := px_rwc_ok (by decide +kernel)
theorem hb_d120_12 : ∀ q ∈ hb_c120_12, decode hb_h120.2.1 q.1 = .ok q.2 := px_rwc_ok (by decide +kernel)
set_option maxRecDepth 100000 in
theorem hb_w120 : lw_tbl[119]? = some (Cond.code hb_h120.1 hb_h120.2.1 hb_h120.2.2.1 hb_h120.2.2.2.1) := by rfl
theorem hb_g120 : px_bM hb_h120 95 = true := by decide +kernel
set_option maxRecDepth 100000 in
theorem hb_o120 : px_okM px_Ts px_Ns hb_cl hb_SL hb_P hb_m120 := ⟨px_bM_ok hb_w120 hb_g120, List.forall_mem_append.mpr ⟨hb_d120_0, List.forall_mem_append.mpr ⟨hb_d120_1, List.forall_mem_append.mpr ⟨hb_d120_2, List.forall_mem_append.mpr ⟨hb_d120_3, List.forall_mem_append.mpr ⟨hb_d120_4, List.forall_mem_append.mpr ⟨hb_d120_5, List.forall_mem_append.mpr ⟨hb_d120_6, List.forall_mem_append.mpr ⟨hb_d120_7, List.forall_mem_append.mpr ⟨hb_d120_8, List.forall_mem_append.mpr ⟨hb_d120_9, List.forall_mem_append.mpr ⟨hb_d120_10, List.forall_mem_append.mpr ⟨hb_d120_11, hb_d120_12⟩⟩⟩⟩⟩⟩⟩⟩⟩⟩⟩⟩, px_bL_ok hb_l11⟩
theorem hb_d121_0 : ∀ q ∈ hb_c121_0, decode hb_h121.2.1 q.1 = .ok q.2 := px_rwc_ok (by decide +kernel)
theorem hb_d121_1 : ∀ q ∈ hb_c121_1, decode hb_h121.2.1 q.1 = .ok q.2 := px_rwc_ok (by decide +kernel)
theorem hb_d121_2 : ∀ q ∈ hb_c121_2, decode hb_h121.2.1 q.1 = .ok q.2 := px_rwc_ok (by decide +kernel)
theorem hb_d121_3 : ∀ q ∈ hb_c121_3, decode hb_h121.2.1 q.1 = .ok q.2 := px_rwc_ok (by decide +kernel)
set_option maxRecDepth 100000 in
theorem hb_w121 : lw_tbl[655]? = some (Cond.code hb_h121.1 hb_h121.2.1 hb_h121.2.2.1 hb_h121.2.2.2.1) := by rfl
theorem hb_g121 : px_bM hb_h121 95 = true := by decide +kernel
set_option maxRecDepth 100000 in
theorem hb_o121 : px_okM px_Ts px_Ns hb_cl hb_SL hb_P hb_m121 := ⟨px_bM_ok hb_w121 hb_g121, List.forall_mem_append.mpr ⟨hb_d121_0, List.forall_mem_append.mpr ⟨hb_d121_1, List.forall_mem_append.mpr ⟨hb_d121_2, hb_d121_3⟩⟩⟩, px_bL_ok hb_l11⟩
theorem hb_d122_0 : ∀ q ∈ hb_c122_0, decode hb_h122.2.1 q.1 = .ok q.2 := px_rwc_ok (by decide +kernel)
theorem hb_d122_1 : ∀ q ∈ hb_c122_1, decode hb_h122.2.1 q.1 = .ok q.2 := px_rwc_ok (by decide +kernel)
theorem hb_d122_2 : ∀ q ∈ hb_c122_2, decode hb_h122.2.1 q.1 = .ok q.2 := px_rwc_ok (by decide +kernel)
set_option maxRecDepth 100000 in
theorem hb_w122 : lw_tbl[696]? = some (Cond.code hb_h122.1 hb_h122.2.1 hb_h122.2.2.1 hb_h122.2.2.2.1) := by rfl
theorem hb_g122 : px_bM hb_h122 95 = true := by decide +kernel
set_option maxRecDepth 100000 in
theorem hb_o122 : px_okM px_Ts px_Ns hb_cl hb_SL hb_P hb_m122 := ⟨px_bM_ok hb_w122 hb_g122, List.forall_mem_append.mpr ⟨hb_d122_0, List.forall_mem_append.mpr ⟨hb_d122_1, hb_d122_2⟩⟩, px_bL_ok hb_l11⟩
theorem hb_d123_0 : ∀ q ∈ hb_c123_0, decode hb_h123.2.1 q.1 = .ok q.2 := px_rwc_ok (by decide +kernel)
theorem hb_d123_1 : ∀ q ∈ hb_c123_1, decode hb_h123.2.1 q.1 = .ok q.2 := px_rwc_ok (by decide +kernel)
theorem hb_d123_2 : ∀ q ∈ hb_c123_2, decode hb_h123.2.1 q.1 = .ok q.2 := px_rwc_ok (by decide +kernel)
theorem hb_d123_3 : ∀ q ∈ hb_c123_3, decode hb_h123.2.1 q.1 = .ok q.2 := px_rwc_ok (by decide +kernel)
set_option maxRecDepth 100000 in
theorem hb_w123 : lw_tbl[712]? = some (Cond.code hb_h123.1 hb_h123.2.1 hb_h123.2.2.1 hb_h123.2.2.2.1) := by rfl
theorem hb_g123 : px_bM hb_h123 95 = true := by decide +kernel
set_option maxRecDepth 100000 in
theorem hb_o123 : px_okM px_Ts px_Ns hb_cl hb_SL hb_P hb_m123 := ⟨px_bM_ok hb_w123 hb_g123, List.forall_mem_append.mpr ⟨hb_d123_0, List.forall_mem_append.mpr ⟨hb_d123_1, List.forall_mem_append.mpr ⟨hb_d123_2, hb_d123_3⟩⟩⟩, px_bL_ok hb_l11⟩
theorem hb_d124_0 : ∀ q ∈ hb_c124_0, decode hb_h124.2.1 q.1 = .ok q.2 := px_rwc_ok (by decide +kernel)
theorem hb_d124_1 : ∀ q ∈ hb_c124_1, decode hb_h124.2.1 q.1 = .ok q.2 := px_rwc_ok (by decide +kernel)
theorem hb_d124_2 : ∀ q ∈ hb_c124_2, decode hb_h124.2.1 q.1 = .ok q.2 := px_rwc_ok (by decide +kernel)
theorem hb_d124_3 : ∀ q ∈ hb_c124_3, decode hb_h124.2.1 q.1 = .ok q.2 := px_rwc_ok (by decide +kernel)
set_option maxRecDepth 100000 in
theorem hb_w124 : lw_tbl[716]? = some (Cond.code hb_h124.1 hb_h124.2.1 hb_h124.2.2.1 hb_h124.2.2.2.1) := by rfl
theorem hb_g124 : px_bM hb_h124 95 = true := by decide +kernel
set_option maxRecDepth 100000 in
theorem hb_o124 : px_okM px_Ts px_Ns hb_cl hb_SL hb_P hb_m124 := ⟨px_bM_ok hb_w124 hb_g124, List.forall_mem_append.mpr ⟨hb_d124_0, List.forall_mem_append.mpr ⟨hb_d124_1, List.forall_mem_append.mpr ⟨hb_d124_2, hb_d124_3⟩⟩⟩, px_bL_ok hb_l11⟩
theorem hb_d125_0 : ∀ q ∈ hb_c125_0, decode hb_h125.2.1 q.1 = .ok q.2 := px_rwc_ok (by decide +kernel)
theorem hb_d125_1 : ∀ q ∈ hb_c125_1, decode hb_h125.2.1 q.1 = .ok q.2 := px_rwc_ok (by decide +kernel)
theorem hb_d125_2 : ∀ q ∈ hb_c125_2, decode hb_h125.2.1 q.1 = .ok q.2 := px_rwc_ok (by decide +kernel)
theorem hb_d125_3 : ∀ q ∈ hb_c125_3, decode hb_h125.2.1 q.1 = .ok q.2 := px_rwc_ok (by decide +kernel)
theorem hb_d125_4 : ∀ q ∈ hb_c125_4, decode hb_h125.2.1 q.1 = .ok q.2 := px_rwc_ok (by decide +kernel)
set_option maxRecDepth 100000 in
theorem hb_w125 : lw_tbl[720]? = some (Cond.code hb_h125.1 hb_h125.2.1 hb_h125.2.2.1 hb_h125.2.2.2.1) := by rfl
theorem hb_g125 : px_bM hb_h125 95 = true := by decide +kernel
set_option maxRecDepth 100000 in
theorem hb_o125 : px_okM px_Ts px_Ns hb_cl hb_SL hb_P hb_m125 := ⟨px_bM_ok hb_w125 hb_g125, List.forall_mem_append.mpr ⟨hb_d125_0, List.forall_mem_append.mpr ⟨hb_d125_1, List.forall_mem_append.mpr ⟨hb_d125_2, List.forall_mem_append.mpr ⟨hb_d125_3, hb_d125_4⟩⟩⟩⟩, px_bL_ok hb_l11⟩
theorem hb_d126_0 : ∀ q ∈ hb_c126_0, decode hb_h126.2.1 q.1 = .ok q.2 := px_rwc_ok (by decide +kernel)
set_option maxRecDepth 100000 in
theorem hb_w126 : lw_tbl[726]? = some (Cond.code hb_h126.1 hb_h126.2.1 hb_h126.2.2.1 hb_h126.2.2.2.1) := by rfl
theorem hb_g126 : px_bM hb_h126 95 = true := by decide +kernel
set_option maxRecDepth 100000 in
theorem hb_o126 : px_okM px_Ts px_Ns hb_cl hb_SL hb_P hb_m126 := ⟨px_bM_ok hb_w126 hb_g126, hb_d126_0, px_bL_ok hb_l11⟩
theorem hb_d127_0 : ∀ q ∈ hb_c127_0, decode hb_h127.2.1 q.1 = .ok q.2 := px_rwc_ok (by decide +kernel)
theorem hb_d127_1 : ∀ q ∈ hb_c127_1, decode hb_h127.2.1 q.1 = .ok q.2 := px_rwc_ok (by decide +kernel)
theorem hb_d127_2 : ∀ q ∈ hb_c127_2, decode hb_h127.2.1 q.1 = .ok q.2 := px_rwc_ok (by decide +kernel)
theorem hb_d127_3 : ∀ q ∈ hb_c127_3, decode hb_h127.2.1 q.1 = .ok q.2 := px_rwc_ok (by decide +kernel)
theorem hb_d127_4 : ∀ q ∈ hb_c127_4, decode hb_h127.2.1 q.1 = .ok q.2 := px_rwc_ok (by decide +kernel)
theorem hb_d127_5 : ∀ q ∈ hb_c127_5, decode hb_h127.2.1 q.1 = .ok q.2 := px_rwc_ok (by decide +kernel)
theorem hb_d127_6 : ∀ q ∈ hb_c127_6, decode hb_h127.2.1 q.1 = .ok q.2 := px_rwc_ok (by decide +kernel)
theorem hb_d127_7 : ∀ q ∈ hb_c127_7, decode hb_h127.2.1 q.1 = .ok q.2 := px_rwc_ok (by decide +kernel)
set_option maxRecDepth 100000 in
theorem hb_w127 : lw_tbl[730]? = some (Cond.code hb_h127.1 hb_h127.2.1 hb_h127.2.2.1 hb_h127.2.2.2.1) := by rfl
theorem hb_g127 : px_bM hb_h127 95 = true := by decide +kernel
set_option maxRecDepth 100000 in
theorem hb_o127 : px_okM px_Ts px_Ns hb_cl hb_SL hb_P hb_m127 := ⟨px_bM_ok hb_w127 hb_g127, List.forall_mem_append.mpr ⟨hb_d127_0, List.forall_mem_append.mpr ⟨hb_d127_1, List.forall_mem_append.mpr ⟨hb_d127_2, List.forall_mem_append.mpr ⟨hb_d127_3, List.forall_mem_append.mpr ⟨hb_d127_4, List.forall_mem_append.mpr ⟨hb_d127_5, List.forall_mem_append.mpr ⟨hb_d127_6, hb_d127_7⟩⟩⟩⟩⟩⟩⟩, px_bL_ok hb_l11⟩
theorem hb_d128_0 : ∀ q ∈ hb_c128_0, decode hb_h128.2.1 q.1 = .ok q.2 := px_rwc_ok (by decide +kernel)
theorem hb_d128_1 : ∀ q ∈ hb_c128_1, decode hb_h128.2.1 q.1 = .ok q.2 := px_rwc_ok (by decide +kernel)
theorem hb_d128_2 : ∀ q ∈ hb_c128_2, decode hb_h128.2.1 q.1 = .ok q.2 := px_rwc_ok (by decide +kernel)
theorem hb_d128_3 : ∀ q ∈ hb_c128_3, decode hb_h128.2.1 q.1 = .ok q.2 := px_rwc_ok (by decide +kernel)
theorem hb_d128_4 : ∀ q ∈ hb_c128_4, decode hb_h128.2.1 q.1 = .ok q.2 := px_rwc_ok (by decide +kernel)
set_option maxRecDepth 100000 in
theorem hb_w128 : lw_tbl[745]? = some (Cond.code hb_h128.1 hb_h128.2.1 hb_h128.2.2.1 hb_h128.2.2.2.1) := by rfl
theorem hb_g128 : px_bM hb_h128 95 = true := by decide +kernel
set_option maxRecDepth 100000 in
theorem hb_o128 : px_okM px_Ts px_Ns hb_cl hb_SL hb_P hb_m128 := ⟨px_bM_ok hb_w128 hb_g128, List.forall_mem_append.mpr ⟨hb_d128_0, List.forall_mem_append.mpr ⟨hb_d128_1, List.forall_mem_append.mpr ⟨hb_d128_2, List.forall_mem_append.mpr ⟨hb_d128_3, hb_d128_4⟩⟩⟩⟩, px_bL_ok hb_l11⟩
theorem hb_d129_0 : ∀ q ∈ hb_c129_0, decode hb_h129.2.1 q.1 = .ok q.2 := px_rwc_ok (by decide +kernel)
theorem hb_d129_1 : ∀ q ∈ hb_c129_1, decode hb_h129.2.1 q.1 = .ok q.2 := px_rwc_ok (by decide +kernel)
theorem hb_d129_2 : ∀ q ∈ hb_c129_2, decode hb_h129.2.1 q.1 = .ok q.2 := px_rwc_ok (by decide +kernel)
set_option maxRecDepth 100000 in
theorem hb_w129 : lw_tbl[753]? = some (Cond.code hb_h129.1 hb_h129.2.1 hb_h129.2.2.1 hb_h129.2.2.2.1) := by rfl
theorem hb_g129 : px_bM hb_h129 95 = true := by decide +kernel
set_option maxRecDepth 100000 in
theorem hb_o129 : px_okM px_Ts px_Ns hb_cl hb_SL hb_P hb_m129 := ⟨px_bM_ok hb_w129 hb_g129, List.forall_mem_append.mpr ⟨hb_d129_0, List.forall_mem_append.mpr ⟨hb_d129_1, hb_d129_2⟩⟩, px_bL_ok hb_l11⟩
theorem hb_d130_0 : ∀ q ∈ hb_c130_0, decode hb_h130.2.1 q.1 = .ok q.2 := px_rwc_ok (by decide +kernel)
theorem hb_d130_1 : ∀ q ∈ hb_c130_1, decode hb_h130.2.1 q.1 = .ok q.2 := px_rwc_ok (by decide +kernel)
theorem hb_d130_2 : ∀ q ∈ hb_c130_2, decode hb_h130.2.1 q.1 = .ok q.2 := px_rwc_ok (by decide +kernel)
theorem hb_d130_3 : ∀ q ∈ hb_c130_3, decode hb_h130.2.1 q.1 = .ok q.2 := px_rwc_ok (by decide +kernel)
theorem hb_d130_4 : ∀ q ∈ hb_c130_4, decode hb_h130.2.1 q.1 = .ok q.2 := px_rwc_ok (by decide +kernel)
set_option maxRecDepth 100000 in
theorem hb_w130 : lw_tbl[778]? = some (Cond.code hb_h130.1 hb_h130.2.1 hb_h130.2.2.1 hb_h130.2.2.2.1) := by rfl
theorem hb_g130 : px_bM hb_h130 95 = true := by decide +kernel
set_option maxRecDepth 100000 in
theorem hb_o130 : px_okM px_Ts px_Ns hb_cl hb_SL hb_P hb_m130 := ⟨px_bM_ok hb_w130 hb_g130, List.forall_mem_append.mpr ⟨hb_d130_0, List.forall_mem_append.mpr ⟨hb_d130_1, List.forall_mem_append.mpr ⟨hb_d130_2, List.forall_mem_append.mpr ⟨hb_d130_3, hb_d130_4⟩⟩⟩⟩, px_bL_ok hb_l11⟩
theorem hb_d131_0 : ∀ q ∈ hb_c131_0, decode hb_h131.2.1 q.1 = .ok q.2 := px_rwc_ok (by decide +kernel)
theorem hb_d131_1 : ∀ q ∈ hb_c131_1, decode hb_h131.2.1 q.1 = .ok q.2 := px_rwc_ok (by decide +kernel)
theorem hb_d131_2 : ∀ q ∈ hb_c131_2, decode hb_h131.2.1 q.1 = .ok q.2 := px_rwc_ok (by decide +kernel)
theorem hb_d131_3 : ∀ q ∈ hb_c131_3, decode hb_h131.2.1 q.1 = .ok q.2 := px_rwc_ok (by decide +kernel)
theorem hb_d131_4 : ∀ q ∈ hb_c131_4, decode hb_h131.2.1 q.1 = .ok q.2 := px_rwc_ok (by decide +kernel)
set_option maxRecDepth 100000 in
theorem hb_w131 : lw_tbl[792]? = some (Cond.code hb_h131.1 hb_h131.2.1 hb_h131.2.2.1 hb_h131.2.2.2.1) := by rfl
theorem hb_g131 : px_bM hb_h131 95 = true := by decide +kernel
set_option maxRecDepth 100000 in
theorem hb_o131 : px_okM px_Ts px_Ns hb_cl hb_SL hb_P hb_m131 := ⟨px_bM_ok hb_w131 hb_g131, List.forall_mem_append.mpr ⟨hb_d131_0, List.forall_mem_append.mpr ⟨hb_d131_1, List.forall_mem_append.mpr ⟨hb_d131_2, List.forall_mem_append.mpr ⟨hb_d131_3, hb_d131_4⟩⟩⟩⟩, px_bL_ok hb_l11⟩
theorem hb_d132_0 : ∀ q ∈ hb_c132_0, decode hb_h132.2.1 q.1 = .ok q.2 := px_rwc_ok (by decide +kernel)
theorem hb_d132_1 : ∀ q ∈ hb_c132_1, decode hb_h132.2.1 q.1 = .ok q.2 := px_rwc_ok (by decide +kernel)
theorem hb_d132_2 : ∀ q ∈ hb_c132_2, decode hb_h132.2.1 q.1 = .ok q.2 := px_rwc_ok (by decide +kernel)
theorem hb_d132_3 : ∀ q ∈ hb_c132_3, decode hb_h132.2.1 q.1 = .ok q.2 := px_rwc_ok (by decide +kernel)
theorem hb_d132_4 : ∀ q ∈ hb_c132_4, decode hb_h132.2.1 q.1 = .ok q.2 := px_rwc_ok (by decide +kernel)
set_option maxRecDepth 100000 in
theorem hb_w132 : lw_tbl[800]? = some (Cond.code hb_h132.1 hb_h132.2.1 hb_h132.2.2.1 hb_h132.2.2.2.1) := by rfl
theorem hb_g132 : px_bM hb_h132 95 = true := by decide +kernel
set_option maxRecDepth 100000 in
theorem hb_o132 : px_okM px_Ts px_Ns hb_cl hb_SL hb_P hb_m132 := ⟨px_bM_ok hb_w132 hb_g132, List.forall_mem_append.mpr ⟨hb_d132_0, List.forall_mem_append.mpr ⟨hb_d132_1, List.forall_mem_append.mpr ⟨hb_d132_2, List.forall_mem_append.mpr ⟨hb_d132_3, hb_d132_4⟩⟩⟩⟩, px_bL_ok hb_l11⟩
theorem hb_d133_0 : ∀ q ∈ hb_c133_0, decode hb_h133.2.1 q.1 = .ok q.2 := px_rwc_ok (by decide +kernel)
theorem hb_d133_1 : ∀ q ∈ hb_c133_1, decode hb_h133.2.1 q.1 = .ok q.2 := px_rwc_ok (by decide +kernel)
theorem hb_d133_2 : ∀ q ∈ hb_c133_2, decode hb_h133.2.1 q.1 = .ok q.2 := px_rwc_ok (by decide +kernel)
theorem hb_d133_3 : ∀ q ∈ hb_c133_3, decode hb_h133.2.1 q.1 = .ok q.2 := px_rwc_ok (by decide +kernel)
theorem hb_d133_4 : ∀ q ∈ hb_c133_4, decode hb_h133.2.1 q.1 = .ok q.2 := px_rwc_ok (by decide +kernel)
set_option maxRecDepth 100000 in
theorem hb_w133 : lw_tbl[815]? = some (Cond.code hb_h133.1 hb_h133.2.1 hb_h133.2.2.1 hb_h133.2.2.2.1) := by rfl
theorem hb_g133 : px_bM hb_h133 95 = true := by decide +kernel
set_option maxRecDepth 100000 in
theorem hb_o133 : px_okM px_Ts px_Ns hb_cl hb_SL hb_P hb_m133 := ⟨px_bM_ok hb_w133 hb_g133, List.forall_mem_append.mpr ⟨hb_d133_0, List.forall_mem_append.mpr ⟨hb_d133_1, List.forall_mem_append.mpr ⟨hb_d133_2, List.forall_mem_append.mpr ⟨hb_d133_3, hb_d133_4⟩⟩⟩⟩, px_bL_ok hb_l11⟩
theorem hb_d134_0 : ∀ q ∈ hb_c134_0, decode hb_h134.2.1 q.1 = .ok q.2 := px_rwc_ok (by decide +kernel)
theorem hb_d134_1 : ∀ q ∈ hb_c134_1, decode hb_h134.2.1 q.1 = .ok q.2 := px_rwc_ok (by decide +kernel)
theorem hb_d134_2 : ∀ q ∈ hb_c134_2, decode hb_h134.2.1 q.1 = .ok q.2 := px_rwc_ok (by decide +kernel)
set_option maxRecDepth 100000 in
theorem hb_w134 : lw_tbl[823]? = some (Cond.code hb_h134.1 hb_h134.2.1 hb_h134.2.2.1 hb_h134.2.2.2.1) := by rfl
theorem hb_g134 : px_bM hb_h134 95 = true := by decide +kernel
set_option maxRecDepth 100000 in
theorem hb_o134 : px_okM px_Ts px_Ns hb_cl hb_SL hb_P hb_m134 := ⟨px_bM_ok hb_w134 hb_g134, List.forall_mem_append.mpr ⟨hb_d134_0, List.forall_mem_append.mpr ⟨hb_d134_1, hb_d134_2⟩⟩, px_bL_ok hb_l11⟩
theorem hb_d135_0 : ∀ q ∈ hb_c135_0, decode hb_h135.2.1 q.1 = .ok q.2 := px_rwc_ok (by decide +kernel)
theorem hb_d135_1 : ∀ q ∈ hb_c135_1, decode hb_h135.2.1 q.1 = .ok q.2 := px_rwc_ok (by decide +kernel)
set_option maxRecDepth 100000 in
theorem hb_w135 : lw_tbl[838]? = some (Cond.code hb_h135.1 hb_h135.2.1 hb_h135.2.2.1 hb_h135.2.2.2.1) := by rfl
theorem hb_g135 : px_bM hb_h135 95 = true := by decide +kernel
set_option maxRecDepth 100000 in
theorem hb_o135 : px_okM px_Ts px_Ns hb_cl hb_SL hb_P hb_m135 := ⟨px_bM_ok hb_w135 hb_g135, List.forall_mem_append.mpr ⟨hb_d135_0, hb_d135_1⟩, px_bL_ok hb_l11⟩
theorem hb_d136_0 : ∀ q ∈ hb_c136_0, decode hb_h136.2.1 q.1 = .ok q.2 := px_rwc_ok (by decide +kernel)
theorem hb_d136_1 : ∀ q ∈ hb_c136_1, decode hb_h136.2.1 q.1 = .ok q.2 := px_rwc_ok (by decide +kernel)
set_option maxRecDepth 100000 in
theorem hb_w136 : lw_tbl[847]? = some (Cond.code hb_h136.1 hb_h136.2.1 hb_h136.2.2.1 hb_h136.2.2.2.1) := by rfl
theorem hb_g136 : px_bM hb_h136 95 = true := by decide +kernel
set_option maxRecDepth 100000 in
theorem hb_o136 : px_okM px_Ts px_Ns hb_cl hb_SL hb_P hb_m136 := ⟨px_bM_ok hb_w136 hb_g136, List.forall_mem_append.mpr ⟨hb_d136_0, hb_d136_1⟩, px_bL_ok hb_l11⟩
theorem hb_d137_0 : ∀ q ∈ hb_c137_0, decode hb_h137.2.1 q.1 = .ok q.2 := px_rwc_ok (by decide +kernel)
theorem hb_d137_1 : ∀ q ∈ hb_c137_1, decode hb_h137.2.1 q.1 = .ok q.2 := px_rwc_ok (by decide +kernel)
theorem hb_d137_2 : ∀ q ∈ hb_c137_2, decode hb_h137.2.1 q.1 = .ok q.2 := px_rwc_ok (by decide +kernel)
theorem hb_d137_3 : ∀ q ∈ hb_c137_3, decode hb_h137.2.1 q.1 = .ok q.2 := px_rwc_ok (by decide +kernel)
set_option maxRecDepth 100000 in
theorem hb_w137 : lw_tbl[864]? = some (Cond.code hb_h137.1 hb_h137.2.1 hb_h137.2.2.1 hb_h137.2.2.2.1) := by rfl
theorem hb_g137 : px_bM hb_h137 95 = true := by decide +kernel
set_option maxRecDepth 100000 in
theorem hb_o137 : px_okM px_Ts px_Ns hb_cl hb_SL hb_P hb_m137 := ⟨px_bM_ok hb_w137 hb_g137, List.forall_mem_append.mpr ⟨hb_d137_0, List.forall_mem_append.mpr ⟨hb_d137_1, List.forall_mem_append.mpr ⟨hb_d137_2, hb_d137_3⟩⟩⟩, px_bL_ok hb_l11⟩
theorem hb_d138_0 : ∀ q ∈ hb_c138_0, decode hb_h138.2.1 q.1 = .ok q.2 := px_rwc_ok (by decide +kernel)
theorem hb_d138_1 : ∀ q ∈ hb_c138_1, decode hb_h138.2.1 q.1 = .ok q.2 := px_rwc_ok (by decide +kernel)
theorem hb_d138_2 : ∀ q ∈ hb_c138_2, decode hb_h138.2.1 q.1 = .ok q.2 := px_rwc_ok (by decide +kernel)
theorem hb_d138_3 : ∀ q ∈ hb_c138_3, decode hb_h138.2.1 q.1 = .ok q.2 := px_rwc_ok (by decide +kernel)
theorem hb_d138_4 : ∀ q ∈ hb_c138_4, decode hb_h138.2.1 q.1 = .ok q.2 := px_rwc_ok (by decide +kernel)
set_option maxRecDepth 100000 in
theorem hb_w138 : lw_tbl[868]? = some (Cond.code hb_h138.1 hb_h138.2.1 hb_h138.2.2.1 hb_h138.2.2.2.1) := by rfl
theorem hb_g138 : px_bM hb_h138 95 = true := by decide +kernel
set_option maxRecDepth 100000 in
theorem hb_o138 : px_okM px_Ts px_Ns hb_cl hb_SL hb_P hb_m138 := ⟨px_bM_ok hb_w138 hb_g138, List.forall_mem_append.mpr ⟨hb_d138_0, List.forall_mem_append.mpr ⟨hb_d138_1, List.forall_mem_append.mpr ⟨hb_d138_2, List.forall_mem_append.mpr ⟨hb_d138_3, hb_d138_4⟩⟩⟩⟩, px_bL_ok hb_l11⟩
theorem hb_d139_0 : ∀ q ∈ hb_c139_0, decode hb_h139.2.1 q.1 = .ok q.2 := px_rwc_ok (by decide +kernel)
theorem hb_d139_1 : ∀ q ∈ hb_c139_1, decode hb_h139.2.1 q.1 = .ok q.2 := px_rwc_ok (by decide +kernel)
set_option maxRecDepth 100000 in
theorem hb_w139 : lw_tbl[872]? = some (Cond.code hb_h139.1 hb_h139.2.1 hb_h139.2.2.1 hb_h139.2.2.2.1) := by rfl
theorem hb_g139 : px_bM hb_h139 95 = true := by decide +kernel
set_option maxRecDepth 100000 in
theorem hb_o139 : px_okM px_Ts px_Ns hb_cl hb_SL hb_P hb_m139 := ⟨px_bM_ok hb_w139 hb_g139, List.forall_mem_append.mpr ⟨hb_d139_0, hb_d139_1⟩, px_bL_ok hb_l11⟩

end

noncomputable section
theorem hb_d260_0 : ∀ q ∈ hb_c260_0, decode hb_h260.2.1 q.1 = .ok q.2 := px_rwc_ok (by decide +kernel)
theorem hb_d260_1 : ∀ q ∈ hb_c260_1, decode hb_h260.2.1 q.1 = .ok q.2 := px_rwc_ok (by decide +kernel)
theorem hb_d260_2 : ∀ q ∈ hb_c260_2, decode hb_h260.2.1 q.1 = .ok q.2 := px_rwc_ok (by decide +kernel)
theorem hb_d260_3 : ∀ q ∈ hb_c260_3, decode hb_h260.2.1 q.1 = .ok q.2 := px_rwc_ok (by decide +kernel)
theorem hb_d260_4 : ∀ q ∈ hb_c260_4, decode hb_h260.2.1 q.1 = .ok q.2 := px_rwc_ok (by decide +kernel)
theorem hb_d260_5 : ∀ q ∈ hb_c260_5, decode hb_h260.2.1 q.1 = .ok q.2 := px_rwc_ok (by decide +kernel)
theorem hb_d260_6 : ∀ q ∈ hb_c260_6, decode hb_h260.2.1 q.1 = .ok q.2 := px_rwc_ok (by decide +kernel)
theorem hb_d260_7 : ∀ q ∈ hb_c260_7, decode hb_h260.2.1 q.1 = .ok q.2 := px_rwc_ok (by decide +kernel)
set_option maxRecDepth 100000 in
theorem hb_w260 : lw_tbl[1866]? = some (Cond.code hb_h260.1 hb_h260.2.1 hb_h260.2.2.1 hb_h260.2.2.2.1) := by rfl
theorem hb_g260 : px_bM hb_h260 107 = true := by decide +kernel
set_option maxRecDepth 100000 in
theorem hb_o260 : px_okM px_Ts px_Ns hb_cl hb_SL hb_P hb_m260 := ⟨px_bM_ok hb_w260 hb_g260, List.forall_mem_append.mpr ⟨hb_d260_0, List.forall_mem_append.mpr ⟨hb_d260_1, List.forall_mem_append.mpr ⟨hb_d260_2, List.forall_mem_append.mpr ⟨hb_d260_3, List.forall_mem_append.mpr ⟨hb_d260_4, List.forall_mem_append.mpr ⟨hb_d260_5, List.forall_mem_append.mpr ⟨hb_d260_6, hb_d260_7⟩⟩⟩⟩⟩⟩⟩, px_bL_ok hb_l12⟩
theorem hb_d261_0 : ∀ q ∈ hb_c261_0, decode hb_h261.2.1 q.1 = .ok q.2 := px_rwc_ok (by decide +kernel)
theorem hb_d261_1 : ∀ q ∈ hb_c261_1, decode hb_h261.2.1 q.1 = .ok q.2 := px_rwc_ok (by decide +kernel)
theorem hb_d261_2 : ∀ q ∈ hb_c261_2, decode hb_h261.2.1 q.1 = .ok q.2 := px_rwc_ok (by decide +kernel)
theorem hb_d261_3 : ∀ q ∈ hb_c261_3, decode hb_h261.2.1 q.1 = .ok q.2 := px_rwc_ok (by decide +kernel)
theorem hb_d261_4 : ∀ q ∈ hb_c261_4, decode hb_h261.2.1 q.1 = .ok q.2 := px_rwc_ok (by decide +kernel)
theorem hb_d261_5 : ∀ q ∈ hb_c261_5, decode hb_h261.2.1 q.1 = .ok q.2 := px_rwc_ok (by decide +kernel)
theorem hb_d261_6 : ∀ q ∈ hb_c261_6, decode hb_h261.2.1 q.1 = .ok q.2 := px_rwc_ok (by decide +kernel)
theorem hb_d261_7 : ∀ q ∈ hb_c261_7, decode hb_h261.2.1 q.1 = .ok q.2 := px_rwc_ok (by decide +kernel)
theorem hb_d261_8 : ∀ q ∈ hb_c261_8, decode hb_h261.2.1 q.1 = .ok q.2 := px_rwc_ok (by decide +kernel)
theorem hb_d261_9 : ∀ q ∈ hb_c261_9, decode hb_h261.2.1 q.1 = .ok q.2 := px_rwc_ok (by decide +kernel)
set_option maxRecDepth 100000 in
theorem hb_w261 : lw_tbl[1862]? = some (Cond.code hb_h261.1 hb_h261.2.1 hb_h261.2.2.1 hb_h261.2.2.2.1) := by rfl
theorem hb_g261 : px_bM hb_h261 107 = true := by decide +kernel
set_option maxRecDepth 100000 in
theorem hb_o261 : px_okM px_Ts px_Ns hb_cl hb_SL hb_P hb_m261 := ⟨px_bM_ok hb_w261 hb_g261, List.forall_mem_append.mpr ⟨hb_d261_0, List.forall_mem_append.mpr ⟨hb_d261_1, List.forall_mem_append.mpr ⟨hb_d261_2, List.forall_mem_append.mpr ⟨hb_d261_3, List.forall_mem_append.mpr ⟨hb_d261_4, List.forall_mem_append.mpr ⟨hb_d261_5, List.forall_mem_append.mpr ⟨hb_d261_6, List.forall_mem_append.mpr ⟨hb_d261_7, List.forall_mem_append.mpr ⟨hb_d261_8, hb_d261_9⟩⟩⟩⟩⟩⟩⟩⟩⟩, px_bL_ok hb_l12⟩
theorem hb_d262_0 : ∀ q ∈ hb_c262_0, decode hb_h262.2.1 q.1 = .ok q.2 := px_rwc_ok (by decide +kernel)
theorem hb_d262_1 : ∀ q ∈ hb_c262_1, decode hb_h262.2.1 q.1 = .ok q.2 := px_rwc_ok (by decide +kernel)
theorem hb_d262_2 : ∀ q ∈ hb_c262_2, decode hb_h262.2.1 q.1 = .ok q.2 := px_rwc_ok (by decide +kernel)
theorem hb_d262_3 : ∀ q ∈ hb_c262_3, decode hb_h262.2.1 q.1 = .ok q.2 := px_rwc_ok (by decide +kernel)
theorem hb_d262_4 : ∀ q ∈ hb_c262_4, decode hb_h262.2.1 q.1 = .ok q.2 := px_rwc_ok (by decide +kernel)
theorem hb_d262_5 : ∀ q ∈ hb_c262_5, decode hb_h262.2.1 q.1 = .ok q.2 := px_rwc_ok (by decide +kernel)
theorem hb_d262_6 : ∀ q ∈ hb_c262_6, decode hb_h262.2.1 q.1 = .ok q.2 := px_rwc_ok (by decide +kernel)
theorem hb_d262_7 : ∀ q ∈ hb_c262_7, decode hb_h262.2.1 q.1 = .ok q.2 := px_rwc_ok (by decide +kernel)
set_option maxRecDepth 100000 in
theorem hb_w262 : lw_tbl[1918]? = some (Cond.code hb_h262.1 hb_h262.2.1 hb_h262.2.2.1 hb_h262.2.2.2.1) := by rfl
theorem hb_g262 : px_bM hb_h262 107 = true := by decide +kernel
set_option maxRecDepth 100000 in
theorem hb_o262 : px_okM px_Ts px_Ns hb_cl hb_SL hb_P hb_m262 := ⟨px_bM_ok hb_w262 hb_g262, List.forall_mem_append.mpr ⟨hb_d262_0, List.forall_mem_append.mpr ⟨hb_d262_1, List.forall_mem_append.mpr ⟨hb_d262_2, List.forall_mem_append.mpr ⟨hb_d262_3, List.forall_mem_append.mpr ⟨hb_d262_4, List.forall_mem_append.mpr ⟨hb_d262_5, List.forall_mem_append.mpr ⟨hb_d262_6, hb_d262_7⟩⟩⟩⟩⟩⟩⟩, px_bL_ok hb_l12⟩
theorem hb_d263_0 : ∀ q ∈ hb_c263_0, decode hb_h263.2.1 q.1 = .ok q.2 := px_rwc_ok (by decide +kernel)
theorem hb_d263_1 : ∀ q ∈ hb_c263_1, decode hb_h263.2.1 q.1 = .ok q.2 := px_rwc_ok (by decide +kernel)
theorem hb_d263_2 : ∀ q ∈ hb_c263_2, decode hb_h263.2.1 q.1 = .ok q.2 := px_rwc_ok (by decide +kernel)
theorem hb_d263_3 : ∀ q ∈ hb_c263_3, decode hb_h263.2.1 q.1 = .ok q.2 := px_rwc_ok (by decide +kernel)
theorem hb_d263_4 : ∀ q ∈ hb_c263_4, decode hb_h263.2.1 q.1 = .ok q.2 := px_rwc_ok (by decide +kernel)
theorem hb_d263_5 : ∀ q ∈ hb_c263_5, decode hb_h263.2.1 q.1 = .ok q.2 := px_rwc_ok (by decide +kernel)
set_option maxRecDepth 100000 in
theorem hb_w263 : lw_tbl[1926]? = some (Cond.code hb_h263.1 hb_h263.2.1 hb_h263.2.2.1 hb_h263.2.2.2.1) := by rfl
theorem hb_g263 : px_bM hb_h263 107 = true := by decide +kernel
set_option maxRecDepth 100000 in
theorem hb_o263 : px_okM px_Ts px_Ns hb_cl hb_SL hb_P hb_m263 := ⟨px_bM_ok hb_w263 hb_g263, List.forall_mem_append.mpr ⟨hb_d263_0, List.forall_mem_append.mpr ⟨hb_d263_1, List.forall_mem_append.mpr ⟨hb_d263_2, List.forall_mem_append.mpr ⟨hb_d263_3, List.forall_mem_append.mpr ⟨hb_d263_4, hb_d263_5⟩⟩⟩⟩⟩, px_bL_ok hb_l12⟩
theorem hb_d264_0 : ∀ q ∈ hb_c264_0, decode hb_h264.2.1 q.1 = .ok q.2 := px_rwc_ok (by decide +kernel)
theorem hb_d264_1 : ∀ q ∈ hb_c264_1, decode hb_h264.2.1 q.1 = .ok q.2 := px_rwc_ok (by decide +kernel)
theorem hb_d264_2 : ∀ q ∈ hb_c264_2, decode hb_h264.2.1 q.1 = .ok q.2 := px_rwc_ok (by decide +kernel)
set_option maxRecDepth 100000 in
theorem hb_w264 : lw_tbl[1930]? = some (Cond.code hb_h264.1 hb_h264.2.1 hb_h264.2.2.1 hb_h264.2.2.2.1) := by rfl
theorem hb_g264 : px_bM hb_h264 107 = true := by decide +kernel
set_option maxRecDepth 100000 in
theorem hb_o264 : px_okM px_Ts px_Ns hb_cl hb_SL hb_P hb_m264 := ⟨px_bM_ok hb_w264 hb_g264, List.forall_mem_append.mpr ⟨hb_d264_0, List.forall_mem_append.mpr ⟨hb_d264_1, hb_d264_2⟩⟩, px_bL_ok hb_l12⟩
theorem hb_d265_0 : ∀ q ∈ hb_c265_0, decode hb_h265.2.1 q.1 = .ok q.2 := px_rwc_ok (by decide +kernel)
theorem hb_d265_1 : ∀ q ∈ hb_c265_1, decode hb_h265.2.1 q.1 = .ok q.2 := px_rwc_ok (by decide +kernel)
theorem hb_d265_2 : ∀ q ∈ hb_c265_2, decode hb_h265.2.1 q.1 = .ok q.2 := px_rwc_ok (by decide +kernel)
theorem hb_d265_3 : ∀ q ∈ hb_c265_3, decode hb_h265.2.1 q.1 = .ok q.2 := px_rwc_ok (by decide +kernel)
theorem hb_d265_4 : ∀ q ∈ hb_c265_4, decode hb_h265.2.1 q.1 = .ok q.2 := px_rwc_ok (by decide +kernel)
set_option maxRecDepth 100000 in
theorem hb_w265 : lw_tbl[1922]? = some (Cond.code hb_h265.1 hb_h265.2.1 hb_h265.2.2.1 hb_h265.2.2.2.1) := by rfl
theorem hb_g265 : px_bM hb_h265 107 = true := by decide +kernel
set_option maxRecDepth 100000 in
theorem hb_o265 : px_okM px_Ts px_Ns hb_cl hb_SL hb_P hb_m265 := ⟨px_bM_ok hb_w265 hb_g265, List.forall_mem_append.mpr ⟨hb_d265_0, List.forall_mem_append.mpr ⟨hb_d265_1, List.forall_mem_append.mpr ⟨hb_d265_2, List.forall_mem_append.mpr ⟨hb_d265_3, hb_d265_4⟩⟩⟩⟩, px_bL_ok hb_l12⟩
theorem hb_d266_0 : ∀ q ∈ hb_c266_0, decode hb_h266.2.1 q.1 = .ok q.2 := px_rwc_ok (by decide +kernel)
theorem hb_d266_1 : ∀ q ∈ hb_c266_1, decode hb_h266.2.1 q.1 = .ok q.2 := px_rwc_ok (by decide +kernel)
theorem hb_d266_2 : ∀ q ∈ hb_c266_2, decode hb_h266.2.1 q.1 = .ok q.2 := px_rwc_ok (by decide +kernel)
set_option maxRecDepth 100000 in
theorem hb_w266 : lw_tbl[1934]? = some (Cond.code hb_h266.1 hb_h266.2.1 hb_h266.2.2.1 hb_h266.2.2.2.1) := by rfl
theorem hb_g266 : px_bM hb_h266 107 = true := by decide +kernel
set_option maxRecDepth 100000 in
theorem hb_o266 : px_okM px_Ts px_Ns hb_cl hb_SL hb_P hb_m266 := ⟨px_bM_ok hb_w266 hb_g266, List.forall_mem_append.mpr ⟨hb_d266_0, List.forall_mem_append.mpr ⟨hb_d266_1, hb_d266_2⟩⟩, px_bL_ok hb_l12⟩
theorem hb_d267_0 : ∀ q ∈ hb_c267_0, decode hb_h267.2.1 q.1 = .ok q.2 := px_rwc_ok (by decide +kernel)
theorem hb_d267_1 : ∀ q ∈ hb_c267_1, decode hb_h267.2.1 q.1 = .ok q.2 := px_rwc_ok (by decide +kernel)
theorem hb_d267_2 : ∀ q ∈ hb_c267_2, decode hb_h267.2.1 q.1 = .ok q.2 := px_rwc_ok (by decide +kernel)
theorem hb_d267_3 : ∀ q ∈ hb_c267_3, decode hb_h267.2.1 q.1 = .ok q.2 := px_rwc_ok (by decide +kernel)
theorem hb_d267_4 : ∀ q ∈ hb_c267_4, decode hb_h267.2.1 q.1 = .ok q.2 := px_rwc_ok (by decide +kernel)
theorem hb_d267_5 : ∀ q ∈ hb_c267_5, decode hb_h267.2.1 q.1 = .ok q.2 := px_rwc_ok (by decide +kernel)
theorem hb_d267_6 : ∀ q ∈ hb_c267_6, decode hb_h267.2.1 q.1 = .ok q.2 := px_rwc_ok (by decide +kernel)
set_option maxRecDepth 100000 in
theorem hb_w267 : lw_tbl[1938]? = some (Cond.code hb_h267.1 hb_h267.2.1 hb_h267.2.2.1 hb_h267.2.2.2.1) := by rfl
theorem hb_g267 : px_bM hb_h267 107 = true := by decide +kernel
set_option maxRecDepth 100000 in
theorem hb_o267 : px_okM px_Ts px_Ns hb_cl hb_SL hb_P hb_m267 := ⟨px_bM_ok hb_w267 hb_g267, List.forall_mem_append.mpr ⟨hb_d267_0, List.forall_mem_append.mpr ⟨hb_d267_1, List.forall_mem_append.mpr ⟨hb_d267_2, List.forall_mem_append.mpr ⟨hb_d267_3, List.forall_mem_append.mpr ⟨hb_d267_4, List.forall_mem_append.mpr ⟨hb_d267_5, hb_d267_6⟩⟩⟩⟩⟩⟩, px_bL_ok hb_l12⟩
theorem hb_d268_0 : ∀ q ∈ hb_c268_0, decode hb_h268.2.1 q.1 = .ok q.2 := px_rwc_ok (by decide +kernel)
theorem hb_d268_1 : ∀ q ∈ hb_c268_1, decode hb_h268.2.1 q.1 = .ok q.2 := px_rwc_ok (by decide +kernel)
theorem hb_d268_2 : ∀ q ∈ hb_c268_2, decode hb_h268.2.1 q.1 = .ok q.2 := px_rwc_ok (by decide +kernel)
theorem hb_d268_3 : ∀ q ∈ hb_c268_3, decode hb_h268.2.1 q.1 = .ok q.2 := px_rwc_ok (by decide +kernel)
theorem hb_d268_4 : ∀ q ∈ hb_c268_4, decode hb_h268.2.1 q.1 = .ok q.2 := px_rwc_ok (by decide +kernel)
theorem hb_d268_5 : ∀ q ∈ hb_c268_5, decode hb_h268.2.1 q.1 = .ok q.2 := px_rwc_ok (by decide +kernel)
theorem hb_d268_6 : ∀ q ∈ hb_c268_6, decode hb_h268.2.1 q.1 = .ok q.2 := px_rwc_ok (by decide +kernel)
theorem hb_d268_7 : ∀ q ∈ hb_c268_7, decode hb_h268.2.1 q.1 = .ok q.2 := px_rwc_ok (by decide +kernel)
set_option maxRecDepth 100000 in
theorem hb_w268 : lw_tbl[1942]? = some (Cond.code hb_h268.1 hb_h268.2.1 hb_h268.2.2.1 hb_h268.2.2.2.1) := by rfl
theorem hb_g268 : px_bM hb_h268 107 = true := by decide +kernel
set_option maxRecDepth 100000 in
theorem hb_o268 : px_okM px_Ts px_Ns hb_cl hb_SL hb_P hb_m268 := ⟨px_bM_ok hb_w268 hb_g268, List.forall_mem_append.mpr ⟨hb_d268_0, List.forall_mem_append.mpr ⟨hb_d268_1, List.forall_mem_append.mpr ⟨hb_d268_2, List.forall_mem_append.mpr ⟨hb_d268_3, List.forall_mem_append.mpr ⟨hb_d268_4, List.forall_mem_append.mpr ⟨hb_d268_5, List.forall_mem_append.mpr ⟨hb_d268_6, hb_d268_7⟩⟩⟩⟩⟩⟩⟩, px_bL_ok hb_l12⟩
theorem hb_d269_0 : ∀ q ∈ hb_c269_0, decode hb_h269.2.1 q.1 = .ok q.2 := px_rwc_ok (by decide +kernel)
theorem hb_d269_1 : ∀ q ∈ hb_c269_1, decode hb_h269.2.1 q.1 = .ok q.2 := px_rwc_ok (by decide +kernel)
theorem hb_d269_2 : ∀ q ∈ hb_c269_2, decode hb_h269.2.1 q.1 = .ok q.2 := px_rwc_ok (by decide +kernel)
theorem hb_d269_3 : ∀ q ∈ hb_c269_3, decode hb_h269.2.1 q.1 = .ok q.2 := px_rwc_ok (by decide +kernel)
theorem hb_d269_4 : ∀ q ∈ hb_c269_4, decode hb_h269.2.1 q.1 = .ok q.2 := px_rwc_ok (by decide +kernel)
theorem hb_d269_5 : ∀ q ∈ hb_c269_5, decode hb_h269.2.1 q.1 = .ok q.2 := px_rwc_ok (by decide +kernel)
theorem hb_d269_6 : ∀ q ∈ hb_c269_6, decode hb_h269.2.1 q.1 = .ok q.2 := px_rwc_ok (by decide +kernel)
theorem hb_d269_7 : ∀ q ∈ hb_c269_7, decode hb_h269.2.1 q.1 = .ok q.2 := px_rwc_ok (by decide +kernel)
theorem hb_d269_8 : ∀ q ∈ hb_c269_8, decode hb_h269.2.1 q.1 = .ok q.2 := px_rwc_ok (by decide +kernel)
theorem hb_d269_9 : ∀ q ∈ hb_c269_9, decode hb_h269.2.1 q.1 = .ok q.2 := px_rwc_ok (by decide +kernel)
theorem hb_d269_10 : ∀ q ∈ hb_c269_10, decode hb_h269.2.1 q.1 = .ok q.2 := px_rwc_ok (by decide +kernel)
theorem hb_d269_11 : ∀ q ∈ hb_c269_11, decode hb_h269.2.1 q.1 = .ok q.2 := px_rwc_ok (by decide +kernel)
theorem hb_d269_12 : ∀ q ∈ hb_c269_12, decode hb_h269.2.1 q.1 = .ok q.2 := px_rwc_ok (by decide +kernel)
theorem hb_d269_13 : ∀ q ∈ hb_c269_13, decode hb_h269.2.1 q.1 = .ok q.2 := px_rwc_ok (by decide +kernel)
theorem hb_d269_14 : ∀ q ∈ hb_c269_14, decode hb_h269.2.1 q.1 = .ok q.2 := px_rwc_ok (by decide +kernel)
theorem hb_d269_15 : ∀ q ∈ hb_c269_15, decode hb_h269.2.1 q.1 = .ok q.2 := px_rwc_ok (by decide +kernel)
theorem hb_d269_16 : ∀ q ∈ hb_c269_16, decode hb_h269.2.1 q.1 = .ok q.2 := px_rwc_ok (by decide +kernel)
theorem hb_d269_17 : ∀ q ∈ hb_c269_17, decode hb_h269.2.1 q.1 = .ok q.2 := px_rwc_ok (by decide +kernel)
theorem hb_d269_18 : ∀ q ∈ hb_c269_18, decode hb_h269.2.1 q.1 = .ok q.2 := px_rwc_ok (by decide +kernel)
set_option maxRecDepth 100000 in
theorem hb_w269 : lw_tbl[1946]? = some (Cond.code hb_h269.1 hb_h269.2.1 hb_h269.2.2.1 hb_h269.2.2.2.1) := by rfl
theorem hb_g269 : px_bM hb_h269 107 = true := by decide +kernel
set_option maxRecDepth 100000 in
theorem hb_o269 : px_okM px_Ts px_Ns hb_cl hb_SL hb_P hb_m269 := ⟨px_bM_ok hb_w269 hb_g269, List.forall_mem_append.mpr ⟨hb_d269_0, List.forall_mem_append.mpr ⟨hb_d269_1, List.forall_mem_append.mpr ⟨hb_d269_2, List.forall_mem_append.mpr ⟨hb_d269_3, List.forall_mem_append.mpr ⟨hb_d269_4, List.forall_mem_append.mpr ⟨hb_d269_5, List.forall_mem_append.mpr ⟨hb_d269_6, List.forall_mem_append.mpr ⟨hb_d269_7, List.forall_mem_append.mpr ⟨hb_d269_8, List.forall_mem_append.mpr ⟨hb_d269_9, List.forall_mem_append.mpr ⟨hb_d269_10, List.forall_mem_append.mpr ⟨hb_d269_11, List.forall_mem_append.mpr ⟨hb_d269_12, List.forall_mem_append.mpr ⟨hb_d269_13, List.forall_mem_append.mpr ⟨hb_d269_14, List.forall_mem_append.mpr ⟨hb_d269_15, List.forall_mem_append.mpr ⟨hb_d269_16, List.forall_mem_append.mpr ⟨hb_d269_17, hb_d269_18⟩⟩⟩⟩⟩⟩⟩⟩⟩⟩⟩⟩⟩⟩⟩⟩⟩⟩, px_bL_ok hb_l12⟩
theorem hb_d270_0 : ∀ q ∈ hb_c270_0, decode hb_h270.2.1 q.1 = .ok q.2 := px_rwc_ok (by decide +kernel)
theorem hb_d270_1 : ∀ q ∈ hb_c270_1, decode hb_h270.2.1 q.1 = .ok q.2 := px_rwc_ok (by decide +kernel)
set_option maxRecDepth 100000 in
theorem hb_w270 : lw_tbl[1949]? = some (Cond.code hb_h270.1 hb_h270.2.1 hb_h270.2.2.1 hb_h270.2.2.2.1) := by rfl
theorem hb_g270 : px_bM hb_h270 107 = true := by decide +kernel
set_option maxRecDepth 100000 in
theorem hb_o270 : px_okM px_Ts px_Ns hb_cl hb_SL hb_P hb_m270 := ⟨px_bM_ok hb_w270 hb_g270, List.forall_mem_append.mpr ⟨hb_d270_0, hb_d270_1⟩, px_bL_ok hb_l12⟩
theorem hb_d271_0 : ∀ q ∈ hb_c271_0, decode hb_h271.2.1 q.1 = .ok q.2 := px_rwc_ok (by decide +kernel)
set_option maxRecDepth 100000 in
theorem hb_w271 : lw_tbl[1956]? = some (Cond.code hb_h271.1 hb_h271.2.1 hb_h271.2.2.1 hb_h271.2.2.2.1) := by rfl
theorem hb_g271 : px_bM hb_h271 107 = true := by decide +kernel
set_option maxRecDepth 100000 in
theorem hb_o271 : px_okM px_Ts px_Ns hb_cl hb_SL hb_P hb_m271 := ⟨px_bM_ok hb_w271 hb_g271, hb_d271_0, px_bL_ok hb_l12⟩
theorem hb_d272_0 : ∀ q ∈ hb_c272_0, decode hb_h272.2.1 q.1 = .ok q.2 := px_rwc_ok (by decide +kernel)
theorem hb_d272_1 : ∀ q ∈ hb_c272_1, decode hb_h272.2.1 q.1 = .ok q.2 := px_rwc_ok (by decide +kernel)
theorem hb_d272_2 : ∀ q ∈ hb_c272_2, decode hb_h272.2.1 q.1 = .ok q.2 := px_rwc_ok (by decide +kernel)
theorem hb_d272_3 : ∀ q ∈ hb_c272_3, decode hb_h272.2.1 q.1 = .ok q.2 := px_rwc_ok (by decide +kernel)
theorem hb_d272_4 : ∀ q ∈ hb_c272_4, decode hb_h272.2.1 q.1 = .ok q.2 := px_rwc_ok (by decide +kernel)
theorem hb_d272_5 : ∀ q ∈ hb_c272_5, decode hb_h272.2.1 q.1 = .ok q.2 := px_rwc_ok (by decide +kernel)
theorem hb_d272_6 : ∀ q ∈ hb_c272_6, decode hb_h272.2.1 q.1 = .ok q.2 := px_rwc_ok (by decide +kernel)
set_option maxRecDepth 100000 in
theorem hb_w272 : lw_tbl[1960]? = some (Cond.code hb_h272.1 hb_h272.2.1 hb_h272.2.2.1 hb_h272.2.2.2.1) := by rfl
theorem hb_g272 : px_bM hb_h272 107 = true := by decide +kernel
set_option maxRecDepth 100000 in
theorem hb_o272 : px_okM px_Ts px_Ns hb_cl hb_SL hb_P hb_m272 := ⟨px_bM_ok hb_w272 hb_g272, List.forall_mem_append.mpr ⟨hb_d272_0, List.forall_mem_append.mpr ⟨hb_d272_1, List.forall_mem_append.mpr ⟨hb_d272_2, List.forall_mem_append.mpr ⟨hb_d272_3, List.forall_mem_append.mpr ⟨hb_d272_4, List.forall_mem_append.mpr ⟨hb_d272_5, hb_d272_6⟩⟩⟩⟩⟩⟩, px_bL_ok hb_l12⟩
theorem hb_d273_0 : ∀ q ∈ hb_c273_0, decode hb_h273.2.1 q.1 = .ok q.2 := px_rwc_ok (by decide +kernel)
theorem hb_d273_1 : ∀ q ∈ hb_c273_1, decode hb_h273.2.1 q.1 = .ok q.2 := px_rwc_ok (by decide +kernel)
theorem hb_d273_2 : ∀ q ∈ hb_c273_2, decode hb_h273.2.1 q.1 = .ok q.2 := px_rwc_ok (by decide +kernel)
theorem hb_d273_3 : ∀ q ∈ hb_c273_3, decode hb_h273.2.1 q.1 = .ok q.2 := px_rwc_ok (by decide +kernel)
theorem hb_d273_4 : ∀ q ∈ hb_c273_4, decode hb_h273.2.1 q.1 = .ok q.2 := px_rwc_ok (by decide +kernel)
theorem hb_d273_5 : ∀ q ∈ hb_c273_5, decode hb_h273.2.1 q.1 = .ok q.2 := px_rwc_ok (by decide +kernel)
theorem hb_d273_6 : ∀ q ∈ hb_c273_6, decode hb_h273.2.1 q.1 = .ok q.2 := px_rwc_ok (by decide +kernel)
theorem hb_d273_7 : ∀ q ∈ hb_c273_7, decode hb_h273.2.1 q.1 = .ok q.2 := px_rwc_ok (by decide +kernel)
theorem hb_d273_8 : ∀ q ∈ hb_c273_8, decode hb_h273.2.1 q.1 = .ok q.2 := px_rwc_ok (by decide +kernel)
set_option maxRecDepth 100000 in
theorem hb_w273 : lw_tbl[1953]? = some (Cond.code hb_h273.1 hb_h273.2.1 hb_h273.2.2.1 hb_h273.2.2.2.1) := by rfl
theorem hb_g273 : px_bM hb_h273 107 = true := by decide +kernel
set_option maxRecDepth 100000 in
theorem hb_o273 : px_okM px_Ts px_Ns hb_cl hb_SL hb_P hb_m273 := ⟨px_bM_ok hb_w273 hb_g273, List.forall_mem_append.mpr ⟨hb_d273_0, List.forall_mem_append.mpr ⟨hb_d273_1, List.forall_mem_append.mpr ⟨hb_d273_2, List.forall_mem_append.mpr ⟨hb_d273_3, List.forall_mem_append.mpr ⟨hb_d273_4, List.forall_mem_append.mpr ⟨hb_d273_5, List.forall_mem_append.mpr ⟨hb_d273_6, List.forall_mem_append.mpr ⟨hb_d273_7, hb_d273_8⟩⟩⟩⟩⟩⟩⟩⟩, px_bL_ok hb_l12⟩
theorem hb_d274_0 : ∀ q ∈ hb_c274_0, decode hb_h274.2.1 q.1 = .ok q.2 := px_rwc_ok (by decide +kernel)
theorem hb_d274_1 : ∀ q ∈ hb_c274_1, decode hb_h274.2.1 q.1 = .ok q.2 := px_rwc_ok (by decide +kernel)
theorem hb_d274_2 : ∀ q ∈ hb_c274_2, decode hb_h274.2.1 q.1 = .ok q.2 := px_rwc_ok (by decide +kernel)
theorem hb_d274_3 : ∀ q ∈ hb_c274_3, decode hb_h274.2.1 q.1 = .ok q.2 := px_rwc_ok (by decide +kernel)
theorem hb_d274_4 : ∀ q ∈ hb_c274_4, decode hb_h274.2.1 q.1 = .ok q.2 := px_rwc_ok (by decide +kernel)
theorem hb_d274_5 : ∀ q ∈ hb_c274_5, decode hb_h274.2.1 q.1 = .ok q.2 := px_rwc_ok (by decide +kernel)
theorem hb_d274_6 : ∀ q ∈ hb_c274_6, decode hb_h274.2.1 q.1 = .ok q.2 := px_rwc_ok (by decide +kernel)
theorem hb_d274_7 : ∀ q ∈ hb_c274_7, decode hb_h274.2.1 q.1 = .ok q.2 := px_rwc_ok (by decide +kernel)
theorem hb_d274_8 : ∀ q ∈ hb_c274_8, decode hb_h274.2.1 q.1 = .ok q.2 := px_rwc_ok (by decide +kernel)
set_option maxRecDepth 100000 in
theorem hb_w274 : lw_tbl[1964]? = some (Cond.code hb_h274.1 hb_h274.2.1 hb_h274.2.2.1 hb_h274.2.2.2.1) := by rfl
theorem hb_g274 : px_bM hb_h274 107 = true := by decide +kernel
set_option maxRecDepth 100000 in
theorem hb_o274 : px_okM px_Ts px_Ns hb_cl hb_SL hb_P hb_m274 := ⟨px_bM_ok hb_w274 hb_g274, List.forall_mem_append.mpr ⟨hb_d274_0, List.forall_mem_append.mpr ⟨hb_d274_1, List.forall_mem_append.mpr ⟨hb_d274_2, List.forall_mem_append.mpr ⟨hb_d274_3, List.forall_mem_append.mpr ⟨hb_d274_4, List.forall_mem_append.mpr ⟨hb_d274_5, List.forall_mem_append.mpr ⟨hb_d274_6, List.forall_mem_append.mpr ⟨hb_d274_7, hb_d274_8⟩⟩⟩⟩⟩⟩⟩⟩, px_bL_ok hb_l12⟩
theorem hb_d275_0 : ∀ q ∈ hb_c275_0, decode hb_h275.2.1 q.1 = .ok q.2 := px_rwc_ok (by decide +kernel)
theorem hb_d275_1 : ∀ q ∈ hb_c275_1, decode hb_h275.2.1 q.1 = .ok q.2 := px_rwc_ok (by decide +kernel)
theorem hb_d275_2 : ∀ q ∈ hb_c275_2, decode hb_h275.2.1 q.1 = .ok q.2 := px_rwc_ok (by decide +kernel)
theorem hb_d275_3 : ∀ q ∈ hb_c275_3, decode hb_h275.2.1 q.1 = .ok q.2 := px_rwc_ok (by decide +kernel)
theorem hb_d275_4 : ∀ q ∈ hb_c275_4, decode hb_h275.2.1 q.1 = .ok q.2 := px_rwc_ok (by decide +kernel)
theorem hb_d275_5 : ∀ q ∈ hb_c275_5, decode hb_h275.2.1 q.1 = .ok q.2 := px_rwc_ok (by decide +kernel)
theorem hb_d275_6 : ∀ q ∈ hb_c275_6, decode hb_h275.2.1 q.1 = .ok q.2 := px_rwc_ok (by decide +kernel)
set_option maxRecDepth 100000 in
theorem hb_w275 : lw_tbl[1968]? = some (Cond.code hb_h275.1 hb_h275.2.1 hb_h275.2.2.1 hb_h275.2.2.2.1) := by rfl
theorem hb_g275 : px_bM hb_h275 107 = true := by decide +kernel
set_option maxRecDepth 100000 in
theorem hb_o275 : px_okM px_Ts px_Ns hb_cl hb_SL hb_P hb_m275 := ⟨px_bM_ok hb_w275 hb_g275, List.forall_mem_append.mpr ⟨hb_d275_0, List.forall_mem_append.mpr ⟨hb_d275_1, List.forall_mem_append.mpr ⟨hb_d275_2, List.forall_mem_append.mpr ⟨hb_d275_3, List.forall_mem_append.mpr ⟨hb_d275_4, List.forall_mem_append.mpr ⟨hb_d275_5, hb_d275_6⟩⟩⟩⟩⟩⟩, px_bL_ok hb_l12⟩
theorem hb_d276_0 : ∀ q ∈ hb_c276_0, decode hb_h276.2.1 q.1 = .ok q.2 := px_rwc_ok (by decide +kernel)
theorem hb_d276_1 : ∀ q ∈ hb_c276_1, decode hb_h276.2.1 q.1 = .ok q.2 := px_rwc_ok (by decide +kernel)
theorem hb_d276_2 : ∀ q ∈ hb_c276_2, decode hb_h276.2.1 q.1 = .ok q.2 := px_rwc_ok (by decide +kernel)
theorem hb_d276_3 : ∀ q ∈ hb_c276_3, decode hb_h276.2.1 q.1 = .ok q.2 := px_rwc_ok (by decide +kernel)
theorem hb_d276_4 : ∀ q ∈ hb_c276_4, decode hb_h276.2.1 q.1 = .ok q.2 := px_rwc_ok (by decide +kernel)
theorem hb_d276_5 : ∀ q ∈ hb_c276_5, decode hb_h276.2.1 q.1 = .ok q.2 := px_rwc_ok (by decide +kernel)
theorem hb_d276_6 : ∀ q ∈ hb_c276_6, decode hb_h276.2.1 q.1 = .ok q.2 := px_rwc_ok (by decide +kernel)
theorem hb_d276_7 : ∀ q ∈ hb_c276_7, decode hb_h276.2.1 q.1 = .ok q.2 := px_rwc_ok (by decide +kernel)
theorem hb_d276_8 : ∀ q ∈ hb_c276_8, decode hb_h276.2.1 q.1 = .ok q.2 := px_rwc_ok (by decide +kernel)
theorem hb_d276_9 : ∀ q ∈ hb_c276_9, decode hb_h276.2.1 q.1 = .ok q.2 := px_rwc_ok (by decide +kernel)
theorem hb_d276_10 : ∀ q ∈ hb_c276_10, decode hb_h276.2.1 q.1 = .ok q.2 := px_rwc_ok (by decide +kernel)
theorem hb_d276_11 : ∀ q ∈ hb_c276_11, decode hb_h276.2.1 q.1 = .ok q.2 := px_rwc_ok (by decide +kernel)
set_option maxRecDepth 100000 in
theorem hb_w276 : lw_tbl[1972]? = some (Cond.code hb_h276.1 hb_h276.2.1 hb_h276.2.2.1 hb_h276.2.2.2.1) := by rfl
theorem hb_g276 : px_bM hb_h276 107 = true := by decide +kernel
set_option maxRecDepth 100000 in
theorem hb_o276 : px_okM px_Ts px_Ns hb_cl hb_SL hb_P hb_m276 := ⟨px_bM_ok hb_w276 hb_g276, List.forall_mem_append.mpr ⟨hb_d276_0, List.forall_mem_append.mpr ⟨hb_d276_1, List.forall_mem_append.mpr ⟨hb_d276_2, List.forall_mem_append.mpr ⟨hb_d276_3, List.forall_mem_append.mpr ⟨hb_d276_4, List.forall_mem_append.mpr ⟨hb_d276_5, List.forall_mem_append.mpr ⟨hb_d276_6, List.forall_mem_append.mpr ⟨hb_d276_7, List.forall_mem_append.mpr ⟨hb_d276_8, List.forall_mem_append.mpr ⟨hb_d276_9, List.forall_mem_append.mpr ⟨hb_d276_10, hb_d276_11⟩⟩⟩⟩⟩⟩⟩⟩⟩⟩⟩, px_bL_ok hb_l12⟩
theorem hb_d277_0 : ∀ q ∈ hb_c277_0, decode hb_h277.2.1 q.1 = .ok q.2 := px_rwc_ok (by decide +kernel)
theorem hb_d277_1 : ∀ q ∈ hb_c277_1, decode hb_h277.2.1 q.1 = .ok q.2 := px_rwc_ok (by decide +kernel)
theorem hb_d277_2 : ∀ q ∈ hb_c277_2, decode hb_h277.2.1 q.1 = .ok q.2 := px_rwc_ok (by decide +kernel)
theorem hb_d277_3 : ∀ q ∈ hb_c277_3, decode hb_h277.2.1 q.1 = .ok q.2 := px_rwc_ok (by decide +kernel)
theorem hb_d277_4 : ∀ q ∈ hb_c277_4, decode hb_h277.2.1 q.1 = .ok q.2 := px_rwc_ok (by decide +kernel)
theorem hb_d277_5 : ∀ q ∈ hb_c277_5, decode hb_h277.2.1 q.1 = .ok q.2 := px_rwc_ok (by decide +kernel)
theorem hb_d277_6 : ∀ q ∈ hb_c277_6, decode hb_h277.2.1 q.1 = .ok q.2 := px_rwc_ok (by decide +kernel)
theorem hb_d277_7 : ∀ q ∈ hb_c277_7, decode hb_h277.2.1 q.1 = .ok q.2 := px_rwc_ok (by decide +kernel)
theorem hb_d277_8 : ∀ q ∈ hb_c277_8, decode hb_h277.2.1 q.1 = .ok q.2 := px_rwc_ok (by decide +kernel)
theorem hb_d277_9 : ∀ q ∈ hb_c277_9, decode hb_h277.2.1 q.1 = .ok q.2 := px_rwc_ok (by decide +kernel)
theorem hb_d277_10 : ∀ q ∈ hb_c277_10, decode hb_h277.2.1 q.1 = .ok q.2 := px_rwc_ok (by decide +kernel)
theorem hb_d277_11 : ∀ q ∈ hb_c277_11, decode hb_h277.2.1 q.1 = .ok q.2 := px_rwc_ok (by decide +kernel)
theorem hb_d277_12 : ∀ q ∈ hb_c277_12, decode hb_h277.2.1 q.1 = .ok q.2 := px_rwc_ok (by decide +kernel)
theorem hb_d277_13 : ∀ q ∈ hb_c277_13, decode hb_h277.2.1 q.1 = .ok q.2 := px_rwc_ok (by decide +kernel)
theorem hb_d277_14 : ∀ q ∈ hb_c277_14, decode hb_h277.2.1 q.1 = .ok q.2 := px_rwc_ok (by decide +kernel)
set_option maxRecDepth 100000 in
theorem hb_w277 : lw_tbl[1977]? = some (Cond.code hb_h277.1 hb_h277.2.1 hb_h277.2.2.1 hb_h277.2.2.2.1) := by rfl
theorem hb_g277 : px_bM hb_h277 107 = true := by decide +kernel
set_option maxRecDepth 100000 in
theorem hb_o277 : px_okM px_Ts px_Ns hb_cl hb_SL hb_P hb_m277 := ⟨px_bM_ok hb_w277 hb_g277, List.forall_mem_append.mpr ⟨hb_d277_0, List.forall_mem_append.mpr ⟨hb_d277_1, List.forall_mem_append.mpr ⟨hb_d277_2, List.forall_mem_append.mpr ⟨hb_d277_3, List.forall_mem_append.mpr ⟨hb_d277_4, List.forall_mem_append.mpr ⟨hb_d277_5, List.forall_mem_append.mpr ⟨hb_d277_6, List.forall_mem_append.mpr ⟨hb_d277_7, List.forall_mem_append.mpr ⟨hb_d277_8, List.forall_mem_append.mpr ⟨hb_d277_9, List.forall_mem_append.mpr ⟨hb_d277_10, List.forall_mem_append.mpr ⟨hb_d277_11, List.forall_mem_append.mpr ⟨hb_d277_12, List.forall_mem_append.mpr ⟨hb_d277_13, hb_d277_14⟩⟩⟩⟩⟩⟩⟩⟩⟩⟩⟩⟩⟩⟩, px_bL_ok hb_l12⟩
theorem hb_d278_0 : ∀ q ∈ hb_c278_0, decode hb_h278.2.1 q.1 = .ok q.2 := px_rwc_ok (by decide +kernel)
theorem hb_d278_1 : ∀ q ∈ hb_c278_1, decode hb_h278.2.1 q.1 = .ok q.2 := px_rwc_ok (by decide +kernel)
theorem hb_d278_2 : ∀ q ∈ hb_c278_2, decode hb_h278.2.1 q.1 = .ok q.2 := px_rwc_ok (by decide +kernel)
theorem hb_d278_3 : ∀ q ∈ hb_c278_3, decode hb_h278.2.1 q.1 = .ok q.2 := px_rwc_ok (by decide +kernel)
theorem hb_d278_4 : ∀ q ∈ hb_c278_4, decode hb_h278.2.1 q.1 = .ok q.2 := px_rwc_ok (by decide +kernel)
theorem hb_d278_5 : ∀ q ∈ hb_c278_5, decode hb_h278.2.1 q.1 = .ok q.2 := px_rwc_ok (by decide +kernel)
theorem hb_d278_6 : ∀ q ∈ hb_c278_6, decode hb_h278.2.1 q.1 = .ok q.2 := px_rwc_ok (by decide +kernel)
theorem hb_d278_7 : ∀ q ∈ hb_c278_7, decode hb_h278.2.1 q.1 = .ok q.2 := px_rwc_ok (by decide +kernel)
theorem hb_d278_8 : ∀ q ∈ hb_c278_8, decode hb_h278.2.1 q.1 = .ok q.2 := px_rwc_ok (by decide +kernel)
set_option maxRecDepth 100000 in
theorem hb_w278 : lw_tbl[1985]? = some (Cond.code hb_h278.1 hb_h278.2.1 hb_h278.2.2.1 hb_h278.2.2.2.1) := by rfl
theorem hb_g278 : px_bM hb_h278 107 = true := by decide +kernel
set_option maxRecDepth 100000 in
theorem hb_o278 : px_okM px_Ts px_Ns hb_cl hb_SL hb_P hb_m278 := ⟨px_bM_ok hb_w278 hb_g278, List.forall_mem_append.mpr ⟨hb_d278_0, List.forall_mem_append.mpr ⟨hb_d278_1, List.forall_mem_append.mpr ⟨hb_d278_2, List.forall_mem_append.mpr ⟨hb_d278_3, List.forall_mem_append.mpr ⟨hb_d278_4, List.forall_mem_append.mpr ⟨hb_d278_5, List.forall_mem_append.mpr ⟨hb_d278_6, List.forall_mem_append.mpr ⟨hb_d278_7, hb_d278_8⟩⟩⟩⟩⟩⟩⟩⟩, px_bL_ok hb_l12⟩
theorem hb_d279_0 : ∀ q ∈ hb_c279_0, decode hb_h279.2.1 q.1 = .ok q.2 := px_rwc_ok (by decide +kernel)
theorem hb_d279_1 : ∀ q ∈ hb_c279_1, decode hb_h279.2.1 q.1 = .ok q.2 := px_rwc_ok (by decide +kernel)
theorem hb_d279_2 : ∀ q ∈ hb_c279_2, decode hb_h279.2.1 q.1 = .ok q.2 := px_rwc_ok (by decide +kernel)
theorem hb_d279_3 : ∀ q ∈ hb_c279_3, decode hb_h279.2.1 q.1 = .ok q.2 := px_rwc_ok (by decide +kernel)
theorem hb_d279_4 : ∀ q ∈ hb_c279_4, decode hb_h279.2.1 q.1 = .ok q.2 := px_rwc_ok (by decide +kernel)
theorem hb_d279_5 : ∀ q ∈ hb_c279_5, decode hb_h279.2.1 q.1 = .ok q.2 := px_rwc_ok (by decide +kernel)
theorem hb_d279_6 : ∀ q ∈ hb_c279_6, decode hb_h279.2.1 q.1 = .ok q.2 := px_rwc_ok (by decide +kernel)
theorem hb_d279_7 : ∀ q ∈ hb_c279_7, decode hb_h279.2.1 q.1 = .ok q.2 := px_rwc_ok (by decide +kernel)
theorem hb_d279_8 : ∀ q ∈ hb_c279_8, decode hb_h279.2.1 q.1 = .ok q.2 := px_rwc_ok (by decide +kernel)
theorem hb_d279_9 : ∀ q ∈ hb_c279_9, decode hb_h279.2.1 q.1 = .ok q.2 := px_rwc_ok (by decide +kernel)
theorem hb_d279_10 : ∀ q ∈ hb_c279_10, decode hb_h279.2.1 q.1 = .ok q.2 := px_rwc_ok (by decide +kernel)
set_option maxRecDepth 100000 in
theorem hb_w279 : lw_tbl[1981]? = some (Cond.code hb_h279.1 hb_h279.2.1 hb_h279.2.2.1 hb_h279.2.2.2.1) := by rfl
theorem hb_g279 : px_bM hb_h279 107 = true := by decide +kernel
set_option maxRecDepth 100000 in
theorem hb_o279 : px_okM px_Ts px_Ns hb_cl hb_SL hb_P hb_m279 := ⟨px_bM_ok hb_w279 hb_g279, List.forall_mem_append.mpr ⟨hb_d279_0, List.forall_mem_append.mpr ⟨hb_d279_1, List.forall_mem_append.mpr ⟨hb_d279_2, List.forall_mem_append.mpr ⟨hb_d279_3, List.forall_mem_append.mpr ⟨hb_d279_4, List.forall_mem_append.mpr ⟨hb_d279_5, List.forall_mem_append.mpr ⟨hb_d279_6, List.forall_mem_append.mpr ⟨hb_d279_7, List.forall_mem_append.mpr ⟨hb_d279_8, List.forall_mem_append.mpr ⟨hb_d279_9, hb_d279_10⟩⟩⟩⟩⟩⟩⟩⟩⟩⟩, px_bL_ok hb_l12⟩

end

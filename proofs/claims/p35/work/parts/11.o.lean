noncomputable section
theorem hb_d280_0 : ∀ q ∈ hb_c280_0, decode hb_h280.2.1 q.1 = .ok q.2 := px_rwc_ok (by decide +kernel)
theorem hb_d280_1 : ∀ q ∈ hb_c280_1, decode hb_h280.2.1 q.1 = .ok q.2 := px_rwc_ok (by decide +kernel)
theorem hb_d280_2 : ∀ q ∈ hb_c280_2, decode hb_h280.2.1 q.1 = .ok q.2 := px_rwc_ok (by decide +kernel)
set_option maxRecDepth 100000 in
theorem hb_w280 : lw_tbl[1997]? = some (Cond.code hb_h280.1 hb_h280.2.1 hb_h280.2.2.1 hb_h280.2.2.2.1) := by rfl
theorem hb_g280 : px_bM hb_h280 107 = true := by decide +kernel
set_option maxRecDepth 100000 in
theorem hb_o280 : px_okM px_Ts px_Ns hb_cl hb_SL hb_P hb_m280 := ⟨px_bM_ok hb_w280 hb_g280, List.forall_mem_append.mpr ⟨hb_d280_0, List.forall_mem_append.mpr ⟨hb_d280_1, hb_d280_2⟩⟩, px_bL_ok hb_l12⟩
theorem hb_d281_0 : ∀ q ∈ hb_c281_0, decode hb_h281.2.1 q.1 = .ok q.2 := px_rwc_ok (by decide +kernel)
set_option maxRecDepth 100000 in
theorem hb_w281 : lw_tbl[2001]? = some (Cond.code hb_h281.1 hb_h281.2.1 hb_h281.2.2.1 hb_h281.2.2.2.1) := by rfl
theorem hb_g281 : px_bM hb_h281 107 = true := by decide +kernel
set_option maxRecDepth 100000 in
theorem hb_o281 : px_okM px_Ts px_Ns hb_cl hb_SL hb_P hb_m281 := ⟨px_bM_ok hb_w281 hb_g281, hb_d281_0, px_bL_ok hb_l12⟩
theorem hb_d282_0 : ∀ q ∈ hb_c282_0, decode hb_h282.2.1 q.1 = .ok q.2 := px_rwc_ok (by decide +kernel)
theorem hb_d282_1 : ∀ q ∈ hb_c282_1, decode hb_h282.2.1 q.1 = .ok q.2 := px_rwc_ok (by decide +kernel)
theorem hb_d282_2 : ∀ q ∈ hb_c282_2, decode hb_h282.2.1 q.1 = .ok q.2 := px_rwc_ok (by decide +kernel)
theorem hb_d282_3 : ∀ q ∈ hb_c282_3, decode hb_h282.2.1 q.1 = .ok q.2 := px_rwc_ok (by decide +kernel)
set_option maxRecDepth 100000 in
theorem hb_w282 : lw_tbl[1993]? = some (Cond.code hb_h282.1 hb_h282.2.1 hb_h282.2.2.1 hb_h282.2.2.2.1) := by rfl
theorem hb_g282 : px_bM hb_h282 107 = true := by decide +kernel
set_option maxRecDepth 100000 in
theorem hb_o282 : px_okM px_Ts px_Ns hb_cl hb_SL hb_P hb_m282 := ⟨px_bM_ok hb_w282 hb_g282, List.forall_mem_append.mpr ⟨hb_d282_0, List.forall_mem_append.mpr ⟨hb_d282_1, List.forall_mem_append.mpr ⟨hb_d282_2, hb_d282_3⟩⟩⟩, px_bL_ok hb_l12⟩
theorem hb_d283_0 : ∀ q ∈ hb_c283_0, decode hb_h283.2.1 q.1 = .ok q.2 := px_rwc_ok (by decide +kernel)
theorem hb_d283_1 : ∀ q ∈ hb_c283_1, decode hb_h283.2.1 q.1 = .ok q.2 := px_rwc_ok (by decide +kernel)
set_option maxRecDepth 100000 in
theorem hb_w283 : lw_tbl[2009]? = some (Cond.code hb_h283.1 hb_h283.2.1 hb_h283.2.2.1 hb_h283.2.2.2.1) := by rfl
theorem hb_g283 : px_bM hb_h283 107 = true := by decide +kernel
set_option maxRecDepth 100000 in
theorem hb_o283 : px_okM px_Ts px_Ns hb_cl hb_SL hb_P hb_m283 := ⟨px_bM_ok hb_w283 hb_g283, List.forall_mem_append.mpr ⟨hb_d283_0, hb_d283_1⟩, px_bL_ok hb_l12⟩
theorem hb_d284_0 : ∀ q ∈ hb_c284_0, decode hb_h284.2.1 q.1 = .ok q.2 := px_rwc_ok (by decide +kernel)
theorem hb_d284_1 : ∀ q ∈ hb_c284_1, decode hb_h284.2.1 q.1 = .ok q.2 := px_rwc_ok (by decide +kernel)
theorem hb_d284_2 : ∀ q ∈ hb_c284_2, decode hb_h284.2.1 q.1 = .ok q.2 := px_rwc_ok (by decide +kernel)
theorem hb_d284_3 : ∀ q ∈ hb_c284_3, decode hb_h284.2.1 q.1 = .ok q.2 := px_rwc_ok (by decide +kernel)
theorem hb_d284_4 : ∀ q ∈ hb_c284_4, decode hb_h284.2.1 q.1 = .ok q.2 := px_rwc_ok (by decide +kernel)
set_option maxRecDepth 100000 in
theorem hb_w284 : lw_tbl[2005]? = some (Cond.code hb_h284.1 hb_h284.2.1 hb_h284.2.2.1 hb_h284.2.2.2.1) := by rfl
theorem hb_g284 : px_bM hb_h284 107 = true := by decide +kernel
set_option maxRecDepth 100000 in
theorem hb_o284 : px_okM px_Ts px_Ns hb_cl hb_SL hb_P hb_m284 := ⟨px_bM_ok hb_w284 hb_g284, List.forall_mem_append.mpr ⟨hb_d284_0, List.forall_mem_append.mpr ⟨hb_d284_1, List.forall_mem_append.mpr ⟨hb_d284_2, List.forall_mem_append.mpr ⟨hb_d284_3, hb_d284_4⟩⟩⟩⟩, px_bL_ok hb_l12⟩
theorem hb_d285_0 : ∀ q ∈ hb_c285_0, decode hb_h285.2.1 q.1 = .ok q.2 := px_rwc_ok (by decide +kernel)
theorem hb_d285_1 : ∀ q ∈ hb_c285_1, decode hb_h285.2.1 q.1 = .ok q.2 := px_rwc_ok (by decide +kernel)
theorem hb_d285_2 : ∀ q ∈ hb_c285_2, decode hb_h285.2.1 q.1 = .ok q.2 := px_rwc_ok (by decide +kernel)
theorem hb_d285_3 : ∀ q ∈ hb_c285_3, decode hb_h285.2.1 q.1 = .ok q.2 := px_rwc_ok (by decide +kernel)
set_option maxRecDepth 100000 in
theorem hb_w285 : lw_tbl[2017]? = some (Cond.code hb_h285.1 hb_h285.2.1 hb_h285.2.2.1 hb_h285.2.2.2.1) := by rfl
theorem hb_g285 : px_bM hb_h285 107 = true := by decide +kernel
set_option maxRecDepth 100000 in
theorem hb_o285 : px_okM px_Ts px_Ns hb_cl hb_SL hb_P hb_m285 := ⟨px_bM_ok hb_w285 hb_g285, List.forall_mem_append.mpr ⟨hb_d285_0, List.forall_mem_append.mpr ⟨hb_d285_1, List.forall_mem_append.mpr ⟨hb_d285_2, hb_d285_3⟩⟩⟩, px_bL_ok hb_l12⟩
theorem hb_d286_0 : ∀ q ∈ hb_c286_0, decode hb_h286.2.1 q.1 = .ok q.2 := px_rwc_ok (by decide +kernel)
theorem hb_d286_1 : ∀ q ∈ hb_c286_1, decode hb_h286.2.1 q.1 = .ok q.2 := px_rwc_ok (by decide +kernel)
theorem hb_d286_2 : ∀ q ∈ hb_c286_2, decode hb_h286.2.1 q.1 = .ok q.2 := px_rwc_ok (by decide +kernel)
theorem hb_d286_3 : ∀ q ∈ hb_c286_3, decode hb_h286.2.1 q.1 = .ok q.2 := px_rwc_ok (by decide +kernel)
theorem hb_d286_4 : ∀ q ∈ hb_c286_4, decode hb_h286.2.1 q.1 = .ok q.2 := px_rwc_ok (by decide +kernel)
set_option maxRecDepth 100000 in
theorem hb_w286 : lw_tbl[2013]? = some (Cond.code hb_h286.1 hb_h286.2.1 hb_h286.2.2.1 hb_h286.2.2.2.1) := by rfl
theorem hb_g286 : px_bM hb_h286 107 = true := by decide +kernel
set_option maxRecDepth 100000 in
theorem hb_o286 : px_okM px_Ts px_Ns hb_cl hb_SL hb_P hb_m286 := ⟨px_bM_ok hb_w286 hb_g286, List.forall_mem_append.mpr ⟨hb_d286_0, List.forall_mem_append.mpr ⟨hb_d286_1, List.forall_mem_append.mpr ⟨hb_d286_2, List.forall_mem_append.mpr ⟨hb_d286_3, hb_d286_4⟩⟩⟩⟩, px_bL_ok hb_l12⟩
theorem hb_d287_0 : ∀ q ∈ hb_c287_0, decode hb_h287.2.1 q.1 = .ok q.2 := px_rwc_ok (by decide +kernel)
theorem hb_d287_1 : ∀ q ∈ hb_c287_1, decode hb_h287.2.1 q.1 = .ok q.2 := px_rwc_ok (by decide +kernel)
set_option maxRecDepth 100000 in
theorem hb_w287 : lw_tbl[2025]? = some (Cond.code hb_h287.1 hb_h287.2.1 hb_h287.2.2.1 hb_h287.2.2.2.1) := by rfl
theorem hb_g287 : px_bM hb_h287 107 = true := by decide +kernel
set_option maxRecDepth 100000 in
theorem hb_o287 : px_okM px_Ts px_Ns hb_cl hb_SL hb_P hb_m287 := ⟨px_bM_ok hb_w287 hb_g287, List.forall_mem_append.mpr ⟨hb_d287_0, hb_d287_1⟩, px_bL_ok hb_l12⟩
theorem hb_d288_0 : ∀ q ∈ hb_c288_0, decode hb_h288.2.1 q.1 = .ok q.2 := px_rwc_ok (by decide +kernel)
theorem hb_d288_1 : ∀ q ∈ hb_c288_1, decode hb_h288.2.1 q.1 = .ok q.2 := px_rwc_ok (by decide +kernel)
theorem hb_d288_2 : ∀ q ∈ hb_c288_2, decode hb_h288.2.1 q.1 = .ok q.2 := px_rwc_ok (by decide +kernel)
theorem hb_d288_3 : ∀ q ∈ hb_c288_3, decode hb_h288.2.1 q.1 = .ok q.2 := px_rwc_ok (by decide +kernel)
theorem hb_d288_4 : ∀ q ∈ hb_c288_4, decode hb_h288.2.1 q.1 = .ok q.2 := px_rwc_ok (by decide +kernel)
set_option maxRecDepth 100000 in
theorem hb_w288 : lw_tbl[2021]? = some (Cond.code hb_h288.1 hb_h288.2.1 hb_h288.2.2.1 hb_h288.2.2.2.1) := by rfl
theorem hb_g288 : px_bM hb_h288 107 = true := by decide +kernel
set_option maxRecDepth 100000 in
theorem hb_o288 : px_okM px_Ts px_Ns hb_cl hb_SL hb_P hb_m288 := ⟨px_bM_ok hb_w288 hb_g288, List.forall_mem_append.mpr ⟨hb_d288_0, List.forall_mem_append.mpr ⟨hb_d288_1, List.forall_mem_append.mpr ⟨hb_d288_2, List.forall_mem_append.mpr ⟨hb_d288_3, hb_d288_4⟩⟩⟩⟩, px_bL_ok hb_l12⟩
theorem hb_d289_0 : ∀ q ∈ hb_c289_0, decode hb_h289.2.1 q.1 = .ok q.2 := px_rwc_ok (by decide +kernel)
theorem hb_d289_1 : ∀ q ∈ hb_c289_1, decode hb_h289.2.1 q.1 = .ok q.2 := px_rwc_ok (by decide +kernel)
theorem hb_d289_2 : ∀ q ∈ hb_c289_2, decode hb_h289.2.1 q.1 = .ok q.2 := px_rwc_ok (by decide +kernel)
theorem hb_d289_3 : ∀ q ∈ hb_c289_3, decode hb_h289.2.1 q.1 = .ok q.2 := px_rwc_ok (by decide +kernel)
theorem hb_d289_4 : ∀ q ∈ hb_c289_4, decode hb_h289.2.1 q.1 = .ok q.2 := px_rwc_ok (by decide +kernel)
theorem hb_d289_5 : ∀ q ∈ hb_c289_5, decode hb_h289.2.1 q.1 = .ok q.2 := px_rwc_ok (by decide +kernel)
theorem hb_d289_6 : ∀ q ∈ hb_c289_6, decode hb_h289.2.1 q.1 = .ok q.2 := px_rwc_ok (by decide +kernel)
theorem hb_d289_7 : ∀ q ∈ hb_c289_7, decode hb_h289.2.1 q.1 = .ok q.2 := px_rwc_ok (by decide +kernel)
theorem hb_d289_8 : ∀ q ∈ hb_c289_8, decode hb_h289.2.1 q.1 = .ok q.2 := px_rwc_ok (by decide +kernel)
theorem hb_d289_9 : ∀ q ∈ hb_c289_9, decode hb_h289.2.1 q.1 = .ok q.2 := px_rwc_ok (by decide +kernel)
theorem hb_d289_10 : ∀ q ∈ hb_c289_10, decode hb_h289.2.1 q.1 = .ok q.2 := px_rwc_ok (by decide +kernel)
theorem hb_d289_11 : ∀ q ∈ hb_c289_11, decode hb_h289.2.1 q.1 = .ok q.2 := px_rwc_ok (by decide +kernel)
theorem hb_d289_12 : ∀ q ∈ hb_c289_12, decode hb_h289.2.1 q.1 = .ok q.2 := px_rwc_ok (by decide +kernel)
theorem hb_d289_13 : ∀ q ∈ hb_c289_13, decode hb_h289.2.1 q.1 = .ok q.2 := px_rwc_ok (by decide +kernel)
theorem hb_d289_14 : ∀ q ∈ hb_c289_14, decode hb_h289.2.1 q.1 = .ok q.2 := px_rwc_ok (by decide +kernel)
theorem hb_d289_15 : ∀ q ∈ hb_c289_15, decode hb_h289.2.1 q.1 = .ok q.2 := px_rwc_ok (by decide +kernel)
set_option maxRecDepth 100000 in
theorem hb_w289 : lw_tbl[1989]? = some (Cond.code hb_h289.1 hb_h289.2.1 hb_h289.2.2.1 hb_h289.2.2.2.1) := by rfl
theorem hb_g289 : px_bM hb_h289 107 = true := by decide +kernel
set_option maxRecDepth 100000 in
theorem hb_o289 : px_okM px_Ts px_Ns hb_cl hb_SL hb_P hb_m289 := ⟨px_bM_ok hb_w289 hb_g289, List.forall_mem_append.mpr ⟨hb_d289_0, List.forall_mem_append.mpr ⟨hb_d289_1, List.forall_mem_append.mpr ⟨hb_d289_2, List.forall_mem_append.mpr ⟨hb_d289_3, List.forall_mem_append.mpr ⟨hb_d289_4, List.forall_mem_append.mpr ⟨hb_d289_5, List.forall_mem_append.mpr ⟨hb_d289_6, List.forall_mem_append.mpr ⟨hb_d289_7, List.forall_mem_append.mpr ⟨hb_d289_8, List.forall_mem_append.mpr ⟨hb_d289_9, List.forall_mem_append.mpr ⟨hb_d289_10, List.forall_mem_append.mpr ⟨hb_d289_11, List.forall_mem_append.mpr ⟨hb_d289_12, List.forall_mem_append.mpr ⟨hb_d289_13, List.forall_mem_append.mpr ⟨hb_d289_14, hb_d289_15⟩⟩⟩⟩⟩⟩⟩⟩⟩⟩⟩⟩⟩⟩⟩, px_bL_ok hb_l12⟩
theorem hb_d290_0 : ∀ q ∈ hb_c290_0, decode hb_h290.2.1 q.1 = .ok q.2 := px_rwc_ok (by decide +kernel)
theorem hb_d290_1 : ∀ q ∈ hb_c290_1, decode hb_h290.2.1 q.1 = .ok q.2 := px_rwc_ok (by decide +kernel)
set_option maxRecDepth 100000 in
theorem hb_w290 : lw_tbl[2029]? = some (Cond.code hb_h290.1 hb_h290.2.1 hb_h290.2.2.1 hb_h290.2.2.2.1) := by rfl
theorem hb_g290 : px_bM hb_h290 107 = true := by decide +kernel
set_option maxRecDepth 100000 in
theorem hb_o290 : px_okM px_Ts px_Ns hb_cl hb_SL hb_P hb_m290 := ⟨px_bM_ok hb_w290 hb_g290, List.forall_mem_append.mpr ⟨hb_d290_0, hb_d290_1⟩, px_bL_ok hb_l12⟩
theorem hb_d291_0 : ∀ q ∈ hb_c291_0, decode hb_h291.2.1 q.1 = .ok q.2 := px_rwc_ok (by decide +kernel)
theorem hb_d291_1 : ∀ q ∈ hb_c291_1, decode hb_h291.2.1 q.1 = .ok q.2 := px_rwc_ok (by decide +kernel)
theorem hb_d291_2 : ∀ q ∈ hb_c291_2, decode hb_h291.2.1 q.1 = .ok q.2 := px_rwc_ok (by decide +kernel)
theorem hb_d291_3 : ∀ q ∈ hb_c291_3, decode hb_h291.2.1 q.1 = .ok q.2 := px_rwc_ok (by decide +kernel)
theorem hb_d291_4 : ∀ q ∈ hb_c291_4, decode hb_h291.2.1 q.1 = .ok q.2 := px_rwc_ok (by decide +kernel)
theorem hb_d291_5 : ∀ q ∈ hb_c291_5, decode hb_h291.2.1 q.1 = .ok q.2 := px_rwc_ok (by decide +kernel)
set_option maxRecDepth 100000 in
theorem hb_w291 : lw_tbl[2033]? = some (Cond.code hb_h291.1 hb_h291.2.1 hb_h291.2.2.1 hb_h291.2.2.2.1) := by rfl
theorem hb_g291 : px_bM hb_h291 107 = true := by decide +kernel
set_option maxRecDepth 100000 in
theorem hb_o291 : px_okM px_Ts px_Ns hb_cl hb_SL hb_P hb_m291 := ⟨px_bM_ok hb_w291 hb_g291, List.forall_mem_append.mpr ⟨hb_d291_0, List.forall_mem_append.mpr ⟨hb_d291_1, List.forall_mem_append.mpr ⟨hb_d291_2, List.forall_mem_append.mpr ⟨hb_d291_3, List.forall_mem_append.mpr ⟨hb_d291_4, hb_d291_5⟩⟩⟩⟩⟩, px_bL_ok hb_l12⟩
theorem hb_d292_0 : ∀ q ∈ hb_c292_0, decode hb_h292.2.1 q.1 = .ok q.2 := px_rwc_ok (by decide +kernel)
theorem hb_d292_1 : ∀ q ∈ hb_c292_1, decode hb_h292.2.1 q.1 = .ok q.2 := px_rwc_ok (by decide +kernel)
theorem hb_d292_2 : ∀ q ∈ hb_c292_2, decode hb_h292.2.1 q.1 = .ok q.2 := px_rwc_ok (by decide +kernel)
set_option maxRecDepth 100000 in
theorem hb_w292 : lw_tbl[2037]? = some (Cond.code hb_h292.1 hb_h292.2.1 hb_h292.2.2.1 hb_h292.2.2.2.1) := by rfl
theorem hb_g292 : px_bM hb_h292 107 = true := by decide +kernel
set_option maxRecDepth 100000 in
theorem hb_o292 : px_okM px_Ts px_Ns hb_cl hb_SL hb_P hb_m292 := ⟨px_bM_ok hb_w292 hb_g292, List.forall_mem_append.mpr ⟨hb_d292_0, List.forall_mem_append.mpr ⟨hb_d292_1, hb_d292_2⟩⟩, px_bL_ok hb_l12⟩
theorem hb_d293_0 : ∀ q ∈ hb_c293_0, decode hb_h293.2.1 q.1 = .ok q.2 := px_rwc_ok (by decide +kernel)
theorem hb_d293_1 : ∀ q ∈ hb_c293_1, decode hb_h293.2.1 q.1 = .ok q.2 := px_rwc_ok (by decide +kernel)
theorem hb_d293_2 : ∀ q ∈ hb_c293_2, decode hb_h293.2.1 q.1 = .ok q.2 := px_rwc_ok (by decide +kernel)
set_option maxRecDepth 100000 in
theorem hb_w293 : lw_tbl[2041]? = some (Cond.code hb_h293.1 hb_h293.2.1 hb_h293.2.2.1 hb_h293.2.2.2.1) := by rfl
theorem hb_g293 : px_bM hb_h293 107 = true := by decide +kernel
set_option maxRecDepth 100000 in
theorem hb_o293 : px_okM px_Ts px_Ns hb_cl hb_SL hb_P hb_m293 := ⟨px_bM_ok hb_w293 hb_g293, List.forall_mem_append.mpr ⟨hb_d293_0, List.forall_mem_append.mpr ⟨hb_d293_1, hb_d293_2⟩⟩, px_bL_ok hb_l12⟩
theorem hb_d294_0 : ∀ q ∈ hb_c294_0, decode hb_h294.2.1 q.1 = .ok q.2 := px_rwc_ok (by decide +kernel)
theorem hb_d294_1 : ∀ q ∈ hb_c294_1, decode hb_h294.2.1 q.1 = .ok q.2 := px_rwc_ok (by decide +kernel)
theorem hb_d294_2 : ∀ q ∈ hb_c294_2, decode hb_h294.2.1 q.1 = .ok q.2 := px_rwc_ok (by decide +kernel)
theorem hb_d294_3 : ∀ q ∈ hb_c294_3, decode hb_h294.2.1 q.1 = .ok q.2 := px_rwc_ok (by decide +kernel)
theorem hb_d294_4 : ∀ q ∈ hb_c294_4, decode hb_h294.2.1 q.1 = .ok q.2 := px_rwc_ok (by decide +kernel)
theorem hb_d294_5 : ∀ q ∈ hb_c294_5, decode hb_h294.2.1 q.1 = .ok q.2 := px_rwc_ok (by decide +kernel)
set_option maxRecDepth 100000 in
theorem hb_w294 : lw_tbl[761]? = some (Cond.code hb_h294.1 hb_h294.2.1 hb_h294.2.2.1 hb_h294.2.2.2.1) := by rfl
theorem hb_g294 : px_bM hb_h294 110 = true := by decide +kernel
set_option maxRecDepth 100000 in
theorem hb_o294 : px_okM px_Ts px_Ns hb_cl hb_SL hb_P hb_m294 := ⟨px_bM_ok hb_w294 hb_g294, List.forall_mem_append.mpr ⟨hb_d294_0, List.forall_mem_append.mpr ⟨hb_d294_1, List.forall_mem_append.mpr ⟨hb_d294_2, List.forall_mem_append.mpr ⟨hb_d294_3, List.forall_mem_append.mpr ⟨hb_d294_4, hb_d294_5⟩⟩⟩⟩⟩, px_bL_ok hb_l13⟩
theorem hb_d295_0 : ∀ q ∈ hb_c295_0, decode hb_h295.2.1 q.1 = .ok q.2 := px_rwc_ok (by decide +kernel)
set_option maxRecDepth 100000 in
theorem hb_w295 : lw_tbl[1048]? = some (Cond.code hb_h295.1 hb_h295.2.1 hb_h295.2.2.1 hb_h295.2.2.2.1) := by rfl
theorem hb_g295 : px_bM hb_h295 111 = true := by decide +kernel
set_option maxRecDepth 100000 in
theorem hb_o295 : px_okM px_Ts px_Ns hb_cl hb_SL hb_P hb_m295 := ⟨px_bM_ok hb_w295 hb_g295, hb_d295_0, px_bL_ok hb_l14⟩
theorem hb_d296_0 : ∀ q ∈ hb_c296_0, decode hb_h296.2.1 q.1 = .ok q.2 := px_rwc_ok (by decide +kernel)
theorem hb_d296_1 : ∀ q ∈ hb_c296_1, decode hb_h296.2.1 q.1 = .ok q.2 := px_rwc_ok (by decide +kernel)
set_option maxRecDepth 100000 in
theorem hb_w296 : lw_tbl[1058]? = some (Cond.code hb_h296.1 hb_h296.2.1 hb_h296.2.2.1 hb_h296.2.2.2.1) := by rfl
theorem hb_g296 : px_bM hb_h296 111 = true := by decide +kernel
set_option maxRecDepth 100000 in
theorem hb_o296 : px_okM px_Ts px_Ns hb_cl hb_SL hb_P hb_m296 := ⟨px_bM_ok hb_w296 hb_g296, List.forall_mem_append.mpr ⟨hb_d296_0, hb_d296_1⟩, px_bL_ok hb_l14⟩
theorem hb_d297_0 : ∀ q ∈ hb_c297_0, decode hb_h297.2.1 q.1 = .ok q.2 := px_rwc_ok (by decide +kernel)
set_option maxRecDepth 100000 in
theorem hb_w297 : lw_tbl[1052]? = some (Cond.code hb_h297.1 hb_h297.2.1 hb_h297.2.2.1 hb_h297.2.2.2.1) := by rfl
theorem hb_g297 : px_bM hb_h297 111 = true := by decide +kernel
set_option maxRecDepth 100000 in
theorem hb_o297 : px_okM px_Ts px_Ns hb_cl hb_SL hb_P hb_m297 := ⟨px_bM_ok hb_w297 hb_g297, hb_d297_0, px_bL_ok hb_l14⟩
theorem hb_d298_0 : ∀ q ∈ hb_c298_0, decode hb_h298.2.1 q.1 = .ok q.2 := px_rwc_ok (by decide +kernel)
theorem hb_d298_1 : ∀ q ∈ hb_c298_1, decode hb_h298.2.1 q.1 = .ok q.2 := px_rwc_ok (by decide +kernel)
set_option maxRecDepth 100000 in
theorem hb_w298 : lw_tbl[1062]? = some (Cond.code hb_h298.1 hb_h298.2.1 hb_h298.2.2.1 hb_h298.2.2.2.1) := by rfl
theorem hb_g298 : px_bM hb_h298 111 = true := by decide +kernel
set_option maxRecDepth 100000 in
theorem hb_o298 : px_okM px_Ts px_Ns hb_cl hb_SL hb_P hb_m298 := ⟨px_bM_ok hb_w298 hb_g298, List.forall_mem_append.mpr ⟨hb_d298_0, hb_d298_1⟩, px_bL_ok hb_l14⟩
theorem hb_d299_0 : ∀ q ∈ hb_c299_0, decode hb_h299.2.1 q.1 = .ok q.2 := px_rwc_ok (by decide +kernel)
set_option maxRecDepth 100000 in
theorem hb_w299 : lw_tbl[1068]? = some (Cond.code hb_h299.1 hb_h299.2.1 hb_h299.2.2.1 hb_h299.2.2.2.1) := by rfl
theorem hb_g299 : px_bM hb_h299 111 = true := by decide +kernel
set_option maxRecDepth 100000 in
theorem hb_o299 : px_okM px_Ts px_Ns hb_cl hb_SL hb_P hb_m299 := ⟨px_bM_ok hb_w299 hb_g299, hb_d299_0, px_bL_ok hb_l14⟩

end

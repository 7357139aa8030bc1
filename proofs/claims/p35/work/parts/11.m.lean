noncomputable section
theorem hb_d240_0 : ∀ q ∈ hb_c240_0, decode hb_h240.2.1 q.1 = .ok q.2 := px_rwc_ok (by decide +kernel)
theorem hb_d240_1 : ∀ q ∈ hb_c240_1, decode hb_h240.2.1 q.1 = .ok q.2 := px_rwc_ok (by decide +kernel)
theorem hb_d240_2 : ∀ q ∈ hb_c240_2, decode hb_h240.2.1 q.1 = .ok q.2 := px_rwc_ok (by decide +kernel)
theorem hb_d240_3 : ∀ q ∈ hb_c240_3, decode hb_h240.2.1 q.1 = .ok q.2 := px_rwc_ok (by decide +kernel)
set_option maxRecDepth 100000 in
theorem hb_w240 : lw_tbl[1829]? = some (Cond.code hb_h240.1 hb_h240.2.1 hb_h240.2.2.1 hb_h240.2.2.2.1) := by rfl
theorem hb_g240 : px_bM hb_h240 107 = true := by decide +kernel
set_option maxRecDepth 100000 in
theorem hb_o240 : px_okM px_Ts px_Ns hb_cl hb_SL hb_P hb_m240 := ⟨px_bM_ok hb_w240 hb_g240, List.forall_mem_append.mpr ⟨hb_d240_0, List.forall_mem_append.mpr ⟨hb_d240_1, List.forall_mem_append.mpr ⟨hb_d240_2, hb_d240_3⟩⟩⟩, px_bL_ok hb_l12⟩
theorem hb_d241_0 : ∀ q ∈ hb_c241_0, decode hb_h241.2.1 q.1 = .ok q.2 := px_rwc_ok (by decide +kernel)
theorem hb_d241_1 : ∀ q ∈ hb_c241_1, decode hb_h241.2.1 q.1 = .ok q.2 := px_rwc_ok (by decide +kernel)
theorem hb_d241_2 : ∀ q ∈ hb_c241_2, decode hb_h241.2.1 q.1 = .ok q.2 := px_rwc_ok (by decide +kernel)
theorem hb_d241_3 : ∀ q ∈ hb_c241_3, decode hb_h241.2.1 q.1 = .ok q.2 := px_rwc_ok (by decide +kernel)
set_option maxRecDepth 100000 in
theorem hb_w241 : lw_tbl[1833]? = some (Cond.code hb_h241.1 hb_h241.2.1 hb_h241.2.2.1 hb_h241.2.2.2.1) := by rfl
theorem hb_g241 : px_bM hb_h241 107 = true := by decide +kernel
set_option maxRecDepth 100000 in
theorem hb_o241 : px_okM px_Ts px_Ns hb_cl hb_SL hb_P hb_m241 := ⟨px_bM_ok hb_w241 hb_g241, List.forall_mem_append.mpr ⟨hb_d241_0, List.forall_mem_append.mpr ⟨hb_d241_1, List.forall_mem_append.mpr ⟨hb_d241_2, hb_d241_3⟩⟩⟩, px_bL_ok hb_l12⟩
theorem hb_d242_0 : ∀ q ∈ hb_c242_0, decode hb_h242.2.1 q.1 = .ok q.2 := px_rwc_ok (by decide +kernel)
theorem hb_d242_1 : ∀ q ∈ hb_c242_1, decode hb_h242.2.1 q.1 = .ok q.2 := px_rwc_ok (by decide +kernel)
theorem hb_d242_2 : ∀ q ∈ hb_c242_2, decode hb_h242.2.1 q.1 = .ok q.2 := px_rwc_ok (by decide +kernel)
theorem hb_d242_3 : ∀ q ∈ hb_c242_3, decode hb_h242.2.1 q.1 = .ok q.2 := px_rwc_ok (by decide +kernel)
theorem hb_d242_4 : ∀ q ∈ hb_c242_4, decode hb_h242.2.1 q.1 = .ok q.2 := px_rwc_ok (by decide +kernel)
theorem hb_d242_5 : ∀ q ∈ hb_c242_5, decode hb_h242.2.1 q.1 = .ok q.2 := px_rwc_ok (by decide +kernel)
set_option maxRecDepth 100000 in
theorem hb_w242 : lw_tbl[1837]? = some (Cond.code hb_h242.1 hb_h242.2.1 hb_h242.2.2.1 hb_h242.2.2.2.1) := by rfl
theorem hb_g242 : px_bM hb_h242 107 = true := by decide +kernel
set_option maxRecDepth 100000 in
theorem hb_o242 : px_okM px_Ts px_Ns hb_cl hb_SL hb_P hb_m242 := ⟨px_bM_ok hb_w242 hb_g242, List.forall_mem_append.mpr ⟨hb_d242_0, List.forall_mem_append.mpr ⟨hb_d242_1, List.forall_mem_append.mpr ⟨hb_d242_2, List.forall_mem_append.mpr ⟨hb_d242_3, List.forall_mem_append.mpr ⟨hb_d242_4, hb_d242_5⟩⟩⟩⟩⟩, px_bL_ok hb_l12⟩
theorem hb_d243_0 : ∀ q ∈ hb_c243_0, decode hb_h243.2.1 q.1 = .ok q.2 := px_rwc_ok (by decide +kernel)
theorem hb_d243_1 : ∀ q ∈ hb_c243_1, decode hb_h243.2.1 q.1 = .ok q.2 := px_rwc_ok (by decide +kernel)
theorem hb_d243_2 : ∀ q ∈ hb_c243_2, decode hb_h243.2.1 q.1 = .ok q.2 := px_rwc_ok (by decide +kernel)
theorem hb_d243_3 : ∀ q ∈ hb_c243_3, decode hb_h243.2.1 q.1 = .ok q.2 := px_rwc_ok (by decide +kernel)
theorem hb_d243_4 : ∀ q ∈ hb_c243_4, decode hb_h243.2.1 q.1 = .ok q.2 := px_rwc_ok (by decide +kernel)
theorem hb_d243_5 : ∀ q ∈ hb_c243_5, decode hb_h243.2.1 q.1 = .ok q.2 := px_rwc_ok (by decide +kernel)
theorem hb_d243_6 : ∀ q ∈ hb_c243_6, decode hb_h243.2.1 q.1 = .ok q.2 := px_rwc_ok (by decide +kernel)
theorem hb_d243_7 : ∀ q ∈ hb_c243_7, decode hb_h243.2.1 q.1 = .ok q.2 := px_rwc_ok (by decide +kernel)
theorem hb_d243_8 : ∀ q ∈ hb_c243_8, decode hb_h243.2.1 q.1 = .ok q.2 := px_rwc_ok (by decide +kernel)
set_option maxRecDepth 100000 in
theorem hb_w243 : lw_tbl[1841]? = some (Cond.code hb_h243.1 hb_h243.2.1 hb_h243.2.2.1 hb_h243.2.2.2.1) := by rfl
theorem hb_g243 : px_bM hb_h243 107 = true := by decide +kernel
set_option maxRecDepth 100000 in
theorem hb_o243 : px_okM px_Ts px_Ns hb_cl hb_SL hb_P hb_m243 := ⟨px_bM_ok hb_w243 hb_g243, List.forall_mem_append.mpr ⟨hb_d243_0, List.forall_mem_append.mpr ⟨hb_d243_1, List.forall_mem_append.mpr ⟨hb_d243_2, List.forall_mem_append.mpr ⟨hb_d243_3, List.forall_mem_append.mpr ⟨hb_d243_4, List.forall_mem_append.mpr ⟨hb_d243_5, List.forall_mem_append.mpr ⟨hb_d243_6, List.forall_mem_append.mpr ⟨hb_d243_7, hb_d243_8⟩⟩⟩⟩⟩⟩⟩⟩, px_bL_ok hb_l12⟩
theorem hb_d244_0 : ∀ q ∈ hb_c244_0, decode hb_h244.2.1 q.1 = .ok q.2 := px_rwc_ok (by decide +kernel)
theorem hb_d244_1 : ∀ q ∈ hb_c244_1, decode hb_h244.2.1 q.1 = .ok q.2 := px_rwc_ok (by decide +kernel)
theorem hb_d244_2 : ∀ q ∈ hb_c244_2, decode hb_h244.2.1 q.1 = .ok q.2 := px_rwc_ok (by decide +kernel)
theorem hb_d244_3 : ∀ q ∈ hb_c244_3, decode hb_h244.2.1 q.1 = .ok q.2 := px_rwc_ok (by decide +kernel)
theorem hb_d244_4 : ∀ q ∈ hb_c244_4, decode hb_h244.2.1 q.1 = .ok q.2 := px_rwc_ok (by decide +kernel)
theorem hb_d244_5 : ∀ q ∈ hb_c244_5, decode hb_h244.2.1 q.1 = .ok q.2 := px_rwc_ok (by decide +kernel)
theorem hb_d244_6 : ∀ q ∈ hb_c244_6, decode hb_h244.2.1 q.1 = .ok q.2 := px_rwc_ok (by decide +kernel)
theorem hb_d244_7 : ∀ q ∈ hb_c244_7, decode hb_h244.2.1 q.1 = .ok q.2 := px_rwc_ok (by decide +kernel)
theorem hb_d244_8 : ∀ q ∈ hb_c244_8, decode hb_h244.2.1 q.1 = .ok q.2 := px_rwc_ok (by decide +kernel)
set_option maxRecDepth 100000 in
theorem hb_w244 : lw_tbl[1849]? = some (Cond.code hb_h244.1 hb_h244.2.1 hb_h244.2.2.1 hb_h244.2.2.2.1) := by rfl
theorem hb_g244 : px_bM hb_h244 107 = true := by decide +kernel
set_option maxRecDepth 100000 in
theorem hb_o244 : px_okM px_Ts px_Ns hb_cl hb_SL hb_P hb_m244 := ⟨px_bM_ok hb_w244 hb_g244, List.forall_mem_append.mpr ⟨hb_d244_0, List.forall_mem_append.mpr ⟨hb_d244_1, List.forall_mem_append.mpr ⟨hb_d244_2, List.forall_mem_append.mpr ⟨hb_d244_3, List.forall_mem_append.mpr ⟨hb_d244_4, List.forall_mem_append.mpr ⟨hb_d244_5, List.forall_mem_append.mpr ⟨hb_d244_6, List.forall_mem_append.mpr ⟨hb_d244_7, hb_d244_8⟩⟩⟩⟩⟩⟩⟩⟩, px_bL_ok hb_l12⟩
theorem hb_d245_0 : ∀ q ∈ hb_c245_0, decode hb_h245.2.1 q.1 = .ok q.2 := px_rwc_ok (by decide +kernel)
theorem hb_d245_1 : ∀ q ∈ hb_c245_1, decode hb_h245.2.1 q.1 = .ok q.2 := px_rwc_ok (by decide +kernel)
theorem hb_d245_2 : ∀ q ∈ hb_c245_2, decode hb_h245.2.1 q.1 = .ok q.2 := px_rwc_ok (by decide +kernel)
theorem hb_d245_3 : ∀ q ∈ hb_c245_3, decode hb_h245.2.1 q.1 = .ok q.2 := px_rwc_ok (by decide +kernel)
theorem hb_d245_4 : ∀ q ∈ hb_c245_4, decode hb_h245.2.1 q.1 = .ok q.2 := px_rwc_ok (by decide +kernel)
theorem hb_d245_5 : ∀ q ∈ hb_c245_5, decode hb_h245.2.1 q.1 = .ok q.2 := px_rwc_ok (by decide +kernel)
set_option maxRecDepth 100000 in
theorem hb_w245 : lw_tbl[1845]? = some (Cond.code hb_h245.1 hb_h245.2.1 hb_h245.2.2.1 hb_h245.2.2.2.1) := by rfl
theorem hb_g245 : px_bM hb_h245 107 = true := by decide +kernel
set_option maxRecDepth 100000 in
theorem hb_o245 : px_okM px_Ts px_Ns hb_cl hb_SL hb_P hb_m245 := ⟨px_bM_ok hb_w245 hb_g245, List.forall_mem_append.mpr ⟨hb_d245_0, List.forall_mem_append.mpr ⟨hb_d245_1, List.forall_mem_append.mpr ⟨hb_d245_2, List.forall_mem_append.mpr ⟨hb_d245_3, List.forall_mem_append.mpr ⟨hb_d245_4, hb_d245_5⟩⟩⟩⟩⟩, px_bL_ok hb_l12⟩
theorem hb_d246_0 : ∀ q ∈ hb_c246_0, decode hb_h246.2.1 q.1 = .ok q.2 := px_rwc_ok (by decide +kernel)
theorem hb_d246_1 : ∀ q ∈ hb_c246_1, decode hb_h246.2.1 q.1 = .ok q.2 := px_rwc_ok (by decide +kernel)
set_option maxRecDepth 100000 in
theorem hb_w246 : lw_tbl[1853]? = some (Cond.code hb_h246.1 hb_h246.2.1 hb_h246.2.2.1 hb_h246.2.2.2.1) := by rfl
theorem hb_g246 : px_bM hb_h246 107 = true := by decide +kernel
set_option maxRecDepth 100000 in
theorem hb_o246 : px_okM px_Ts px_Ns hb_cl hb_SL hb_P hb_m246 := ⟨px_bM_ok hb_w246 hb_g246, List.forall_mem_append.mpr ⟨hb_d246_0, hb_d246_1⟩, px_bL_ok hb_l12⟩
theorem hb_d247_0 : ∀ q ∈ hb_c247_0, decode hb_h247.2.1 q.1 = .ok q.2 := px_rwc_ok (by decide +kernel)
theorem hb_d247_1 : ∀ q ∈ hb_c247_1, decode hb_h247.2.1 q.1 = .ok q.2 := px_rwc_ok (by decide +kernel)
theorem hb_d247_2 : ∀ q ∈ hb_c247_2, decode hb_h247.2.1 q.1 = .ok q.2 := px_rwc_ok (by decide +kernel)
theorem hb_d247_3 : ∀ q ∈ hb_c247_3, decode hb_h247.2.1 q.1 = .ok q.2 := px_rwc_ok (by decide +kernel)
theorem hb_d247_4 : ∀ q ∈ hb_c247_4, decode hb_h247.2.1 q.1 = .ok q.2 := px_rwc_ok (by decide +kernel)
theorem hb_d247_5 : ∀ q ∈ hb_c247_5, decode hb_h247.2.1 q.1 = .ok q.2 := px_rwc_ok (by decide +kernel)
set_option maxRecDepth 100000 in
theorem hb_w247 : lw_tbl[1857]? = some (Cond.code hb_h247.1 hb_h247.2.1 hb_h247.2.2.1 hb_h247.2.2.2.1) := by rfl
theorem hb_g247 : px_bM hb_h247 107 = true := by decide +kernel
set_option maxRecDepth 100000 in
theorem hb_o247 : px_okM px_Ts px_Ns hb_cl hb_SL hb_P hb_m247 := ⟨px_bM_ok hb_w247 hb_g247, List.forall_mem_append.mpr ⟨hb_d247_0, List.forall_mem_append.mpr ⟨hb_d247_1, List.forall_mem_append.mpr ⟨hb_d247_2, List.forall_mem_append.mpr ⟨hb_d247_3, List.forall_mem_append.mpr ⟨hb_d247_4, hb_d247_5⟩⟩⟩⟩⟩, px_bL_ok hb_l12⟩
theorem hb_d248_0 : ∀ q ∈ hb_c248_0, decode hb_h248.2.1 q.1 = .ok q.2 := px_rwc_ok (by decide +kernel)
theorem hb_d248_1 : ∀ q ∈ hb_c248_1, decode hb_h248.2.1 q.1 = .ok q.2 := px_rwc_ok (by decide +kernel)
theorem hb_d248_2 : ∀ q ∈ hb_c248_2, decode hb_h248.2.1 q.1 = .ok q.2 := px_rwc_ok (by decide +kernel)
set_option maxRecDepth 100000 in
theorem hb_w248 : lw_tbl[1874]? = some (Cond.code hb_h248.1 hb_h248.2.1 hb_h248.2.2.1 hb_h248.2.2.2.1) := by rfl
theorem hb_g248 : px_bM hb_h248 107 = true := by decide +kernel
set_option maxRecDepth 100000 in
theorem hb_o248 : px_okM px_Ts px_Ns hb_cl hb_SL hb_P hb_m248 := ⟨px_bM_ok hb_w248 hb_g248, List.forall_mem_append.mpr ⟨hb_d248_0, List.forall_mem_append.mpr ⟨hb_d248_1, hb_d248_2⟩⟩, px_bL_ok hb_l12⟩
theorem hb_d249_0 : ∀ q ∈ hb_c249_0, decode hb_h249.2.1 q.1 = .ok q.2 := px_rwc_ok (by decide +kernel)
theorem hb_d249_1 : ∀ q ∈ hb_c249_1, decode hb_h249.2.1 q.1 = .ok q.2 := px_rwc_ok (by decide +kernel)
theorem hb_d249_2 : ∀ q ∈ hb_c249_2, decode hb_h249.2.1 q.1 = .ok q.2 := px_rwc_ok (by decide +kernel)
theorem hb_d249_3 : ∀ q ∈ hb_c249_3, decode hb_h249.2.1 q.1 = .ok q.2 := px_rwc_ok (by decide +kernel)
theorem hb_d249_4 : ∀ q ∈ hb_c249_4, decode hb_h249.2.1 q.1 = .ok q.2 := px_rwc_ok (by decide +kernel)
theorem hb_d249_5 : ∀ q ∈ hb_c249_5, decode hb_h249.2.1 q.1 = .ok q.2 := px_rwc_ok (by decide +kernel)
theorem hb_d249_6 : ∀ q ∈ hb_c249_6, decode hb_h249.2.1 q.1 = .ok q.2 := px_rwc_ok (by decide +kernel)
theorem hb_d249_7 : ∀ q ∈ hb_c249_7, decode hb_h249.2.1 q.1 = .ok q.2 := px_rwc_ok (by decide +kernel)
theorem hb_d249_8 : ∀ q ∈ hb_c249_8, decode hb_h249.2.1 q.1 = .ok q.2 := px_rwc_ok (by decide +kernel)
theorem hb_d249_9 : ∀ q ∈ hb_c249_9, decode hb_h249.2.1 q.1 = .ok q.2 := px_rwc_ok (by decide +kernel)
theorem hb_d249_10 : ∀ q ∈ hb_c249_10, decode hb_h249.2.1 q.1 = .ok q.2 := px_rwc_ok (by decide +kernel)
theorem hb_d249_11 : ∀ q ∈ hb_c249_11, decode hb_h249.2.1 q.1 = .ok q.2 := px_rwc_ok (by decide +kernel)
theorem hb_d249_12 : ∀ q ∈ hb_c249_12, decode hb_h249.2.1 q.1 = .ok q.2 := px_rwc_ok (by decide +kernel)
theorem hb_d249_13 : ∀ q ∈ hb_c249_13, decode hb_h249.2.1 q.1 = .ok q.2 := px_rwc_ok (by decide +kernel)
theorem hb_d249_14 : ∀ q ∈ hb_c249_14, decode hb_h249.2.1 q.1 = .ok q.2 := px_rwc_ok (by decide +kernel)
theorem hb_d249_15 : ∀ q ∈ hb_c249_15, decode hb_h249.2.1 q.1 = .ok q.2 := px_rwc_ok (by decide +kernel)
theorem hb_d249_16 : ∀ q ∈ hb_c249_16, decode hb_h249.2.1 q.1 = .ok q.2 := px_rwc_ok (by decide +kernel)
theorem hb_d249_17 : ∀ q ∈ hb_c249_17, decode hb_h249.2.1 q.1 = .ok q.2 := px_rwc_ok (by decide +kernel)
set_option maxRecDepth 100000 in
theorem hb_w249 : lw_tbl[1870]? = some (Cond.code hb_h249.1 hb_h249.2.1 hb_h249.2.2.1 hb_h249.2.2.2.1) := by rfl
theorem hb_g249 : px_bM hb_h249 107 = true := by decide +kernel
set_option maxRecDepth 100000 in
theorem hb_o249 : px_okM px_Ts px_Ns hb_cl hb_SL hb_P hb_m249 := ⟨px_bM_ok hb_w249 hb_g249, List.forall_mem_append.mpr ⟨hb_d249_0, List.forall_mem_append.mpr ⟨hb_d249_1, List.forall_mem_append.mpr ⟨hb_d249_2, List.forall_mem_append.mpr ⟨hb_d249_3, List.forall_mem_append.mpr ⟨hb_d249_4, List.forall_mem_append.mpr ⟨hb_d249_5, List.forall_mem_append.mpr ⟨hb_d249_6, List.forall_mem_append.mpr ⟨hb_d249_7, List.forall_mem_append.mpr ⟨hb_d249_8, List.forall_mem_append.mpr ⟨hb_d249_9, List.forall_mem_append.mpr ⟨hb_d249_10, List.forall_mem_append.mpr ⟨hb_d249_11, List.forall_mem_append.mpr ⟨hb_d249_12, List.forall_mem_append.mpr ⟨hb_d249_13, List.forall_mem_append.mpr ⟨hb_d249_14, List.forall_mem_append.mpr ⟨hb_d249_15, List.forall_mem_append.mpr ⟨hb_d249_16, hb_d249_17⟩⟩⟩⟩⟩⟩⟩⟩⟩⟩⟩⟩⟩⟩⟩⟩⟩, px_bL_ok hb_l12⟩
theorem hb_d250_0 : ∀ q ∈ hb_c250_0, decode hb_h250.2.1 q.1 = .ok q.2 := px_rwc_ok (by decide +kernel)
theorem hb_d250_1 : ∀ q ∈ hb_c250_1, decode hb_h250.2.1 q.1 = .ok q.2 := px_rwc_ok (by decide +kernel)
theorem hb_d250_2 : ∀ q ∈ hb_c250_2, decode hb_h250.2.1 q.1 = .ok q.2 := px_rwc_ok (by decide +kernel)
theorem hb_d250_3 : ∀ q ∈ hb_c250_3, decode hb_h250.2.1 q.1 = .ok q.2 := px_rwc_ok (by decide +kernel)
theorem hb_d250_4 : ∀ q ∈ hb_c250_4, decode hb_h250.2.1 q.1 = .ok q.2 := px_rwc_ok (by decide +kernel)
theorem hb_d250_5 : ∀ q ∈ hb_c250_5, decode hb_h250.2.1 q.1 = .ok q.2 := px_rwc_ok (by decide +kernel)
theorem hb_d250_6 : ∀ q ∈ hb_c250_6, decode hb_h250.2.1 q.1 = .ok q.2 := px_rwc_ok (by decide +kernel)
theorem hb_d250_7 : ∀ q ∈ hb_c250_7, decode hb_h250.2.1 q.1 = .ok q.2 := px_rwc_ok (by decide +kernel)
set_option maxRecDepth 100000 in
theorem hb_w250 : lw_tbl[1878]? = some (Cond.code hb_h250.1 hb_h250.2.1 hb_h250.2.2.1 hb_h250.2.2.2.1) := by rfl
theorem hb_g250 : px_bM hb_h250 107 = true := by decide +kernel
set_option maxRecDepth 100000 in
theorem hb_o250 : px_okM px_Ts px_Ns hb_cl hb_SL hb_P hb_m250 := ⟨px_bM_ok hb_w250 hb_g250, List.forall_mem_append.mpr ⟨hb_d250_0, List.forall_mem_append.mpr ⟨hb_d250_1, List.forall_mem_append.mpr ⟨hb_d250_2, List.forall_mem_append.mpr ⟨hb_d250_3, List.forall_mem_append.mpr ⟨hb_d250_4, List.forall_mem_append.mpr ⟨hb_d250_5, List.forall_mem_append.mpr ⟨hb_d250_6, hb_d250_7⟩⟩⟩⟩⟩⟩⟩, px_bL_ok hb_l12⟩
theorem hb_d251_0 : ∀ q ∈ hb_c251_0, decode hb_h251.2.1 q.1 = .ok q.2 := px_rwc_ok (by decide +kernel)
theorem hb_d251_1 : ∀ q ∈ hb_c251_1, decode hb_h251.2.1 q.1 = .ok q.2 := px_rwc_ok (by decide +kernel)
set_option maxRecDepth 100000 in
theorem hb_w251 : lw_tbl[1894]? = some (Cond.code hb_h251.1 hb_h251.2.1 hb_h251.2.2.1 hb_h251.2.2.2.1) := by rfl
theorem hb_g251 : px_bM hb_h251 107 = true := by decide +kernel
set_option maxRecDepth 100000 in
theorem hb_o251 : px_okM px_Ts px_Ns hb_cl hb_SL hb_P hb_m251 := ⟨px_bM_ok hb_w251 hb_g251, List.forall_mem_append.mpr ⟨hb_d251_0, hb_d251_1⟩, px_bL_ok hb_l12⟩
theorem hb_d252_0 : ∀ q ∈ hb_c252_0, decode hb_h252.2.1 q.1 = .ok q.2 := px_rwc_ok (by decide +kernel)
theorem hb_d252_1 : ∀ q ∈ hb_c252_1, decode hb_h252.2.1 q.1 = .ok q.2 := px_rwc_ok (by decide +kernel)
theorem hb_d252_2 : ∀ q ∈ hb_c252_2, decode hb_h252.2.1 q.1 = .ok q.2 := px_rwc_ok (by decide +kernel)
set_option maxRecDepth 100000 in
theorem hb_w252 : lw_tbl[1882]? = some (Cond.code hb_h252.1 hb_h252.2.1 hb_h252.2.2.1 hb_h252.2.2.2.1) := by rfl
theorem hb_g252 : px_bM hb_h252 107 = true := by decide +kernel
set_option maxRecDepth 100000 in
theorem hb_o252 : px_okM px_Ts px_Ns hb_cl hb_SL hb_P hb_m252 := ⟨px_bM_ok hb_w252 hb_g252, List.forall_mem_append.mpr ⟨hb_d252_0, List.forall_mem_append.mpr ⟨hb_d252_1, hb_d252_2⟩⟩, px_bL_ok hb_l12⟩
theorem hb_d253_0 : ∀ q ∈ hb_c253_0, decode hb_h253.2.1 q.1 = .ok q.2 := px_rwc_ok (by decide +kernel)
theorem hb_d253_1 : ∀ q ∈ hb_c253_1, decode hb_h253.2.1 q.1 = .ok q.2 := px_rwc_ok (by decide +kernel)
set_option maxRecDepth 100000 in
theorem hb_w253 : lw_tbl[1898]? = some (Cond.code hb_h253.1 hb_h253.2.1 hb_h253.2.2.1 hb_h253.2.2.2.1) := by rfl
theorem hb_g253 : px_bM hb_h253 107 = true := by decide +kernel
set_option maxRecDepth 100000 in
theorem hb_o253 : px_okM px_Ts px_Ns hb_cl hb_SL hb_P hb_m253 := ⟨px_bM_ok hb_w253 hb_g253, List.forall_mem_append.mpr ⟨hb_d253_0, hb_d253_1⟩, px_bL_ok hb_l12⟩
theorem hb_d254_0 : ∀ q ∈ hb_c254_0, decode hb_h254.2.1 q.1 = .ok q.2 := px_rwc_ok (by decide +kernel)
theorem hb_d254_1 : ∀ q ∈ hb_c254_1, decode hb_h254.2.1 q.1 = .ok q.2 := px_rwc_ok (by decide +kernel)
theorem hb_d254_2 : ∀ q ∈ hb_c254_2, decode hb_h254.2.1 q.1 = .ok q.2 := px_rwc_ok (by decide +kernel)
set_option maxRecDepth 100000 in
theorem hb_w254 : lw_tbl[1890]? = some (Cond.code hb_h254.1 hb_h254.2.1 hb_h254.2.2.1 hb_h254.2.2.2.1) := by rfl
theorem hb_g254 : px_bM hb_h254 107 = true := by decide +kernel
set_option maxRecDepth 100000 in
theorem hb_o254 : px_okM px_Ts px_Ns hb_cl hb_SL hb_P hb_m254 := ⟨px_bM_ok hb_w254 hb_g254, List.forall_mem_append.mpr ⟨hb_d254_0, List.forall_mem_append.mpr ⟨hb_d254_1, hb_d254_2⟩⟩, px_bL_ok hb_l12⟩
theorem hb_d255_0 : ∀ q ∈ hb_c255_0, decode hb_h255.2.1 q.1 = .ok q.2 := px_rwc_ok (by decide +kernel)
theorem hb_d255_1 : ∀ q ∈ hb_c255_1, decode hb_h255.2.1 q.1 = .ok q.2 := px_rwc_ok (by decide +kernel)
theorem hb_d255_2 : ∀ q ∈ hb_c255_2, decode hb_h255.2.1 q.1 = .ok q.2 := px_rwc_ok (by decide +kernel)
theorem hb_d255_3 : ∀ q ∈ hb_c255_3, decode hb_h255.2.1 q.1 = .ok q.2 := px_rwc_ok (by decide +kernel)
theorem hb_d255_4 : ∀ q ∈ hb_c255_4, decode hb_h255.2.1 q.1 = .ok q.2 := px_rwc_ok (by decide +kernel)
theorem hb_d255_5 : ∀ q ∈ hb_c255_5, decode hb_h255.2.1 q.1 = .ok q.2 := px_rwc_ok (by decide +kernel)
theorem hb_d255_6 : ∀ q ∈ hb_c255_6, decode hb_h255.2.1 q.1 = .ok q.2 := px_rwc_ok (by decide +kernel)
theorem hb_d255_7 : ∀ q ∈ hb_c255_7, decode hb_h255.2.1 q.1 = .ok q.2 := px_rwc_ok (by decide +kernel)
theorem hb_d255_8 : ∀ q ∈ hb_c255_8, decode hb_h255.2.1 q.1 = .ok q.2 := px_rwc_ok (by decide +kernel)
theorem hb_d255_9 : ∀ q ∈ hb_c255_9, decode hb_h255.2.1 q.1 = .ok q.2 := px_rwc_ok (by decide +kernel)
theorem hb_d255_10 : ∀ q ∈ hb_c255_10, decode hb_h255.2.1 q.1 = .ok q.2 := px_rwc_ok (by decide +kernel)
theorem hb_d255_11 : ∀ q ∈ hb_c255_11, decode hb_h255.2.1 q.1 = .ok q.2 := px_rwc_ok (by decide +kernel)
theorem hb_d255_12 : ∀ q ∈ hb_c255_12, decode hb_h255.2.1 q.1 = .ok q.2 := px_rwc_ok (by decide +kernel)
theorem hb_d255_13 : ∀ q ∈ hb_c255_13, decode hb_h255.2.1 q.1 = .ok q.2 := px_rwc_ok (by decide +kernel)
theorem hb_d255_14 : ∀ q ∈ hb_c255_14, decode hb_h255.2.1 q.1 = .ok q.2 := px_rwc_ok (by decide +kernel)
theorem hb_d255_15 : ∀ q ∈ hb_c255_15, decode hb_h255.2.1 q.1 = .ok q.2 := px_rwc_ok (by decide +kernel)
theorem hb_d255_16 : ∀ q ∈ hb_c255_16, decode hb_h255.2.1 q.1 = .ok q.2 := px_rwc_ok (by decide +kernel)
theorem hb_d255_17 : ∀ q ∈ hb_c255_17, decode hb_h255.2.1 q.1 = .ok q.2 := px_rwc_ok (by decide +kernel)
theorem hb_d255_18 : ∀ q ∈ hb_c255_18, decode hb_h255.2.1 q.1 = .ok q.2 := px_rwc_ok (by decide +kernel)
theorem hb_d255_19 : ∀ q ∈ hb_c255_19, decode hb_h255.2.1 q.1 = .ok q.2 := px_rwc_ok (by decide +kernel)
set_option maxRecDepth 100000 in
theorem hb_w255 : lw_tbl[1914]? = some (Cond.code hb_h255.1 hb_h255.2.1 hb_h255.2.2.1 hb_h255.2.2.2.1) := by rfl
theorem hb_g255 : px_bM hb_h255 107 = true := by decide +kernel
set_option maxRecDepth 100000 in
theorem hb_o255 : px_okM px_Ts px_Ns hb_cl hb_SL hb_P hb_m255 := ⟨px_bM_ok hb_w255 hb_g255, List.forall_mem_append.mpr ⟨hb_d255_0, List.forall_mem_append.mpr ⟨hb_d255_1, List.forall_mem_append.mpr ⟨hb_d255_2, List.forall_mem_append.mpr ⟨hb_d255_3, List.forall_mem_append.mpr ⟨hb_d255_4, List.forall_mem_append.mpr ⟨hb_d255_5, List.forall_mem_append.mpr ⟨hb_d255_6, List.forall_mem_append.mpr ⟨hb_d255_7, List.forall_mem_append.mpr ⟨hb_d255_8, List.forall_mem_append.mpr ⟨hb_d255_9, List.forall_mem_append.mpr ⟨hb_d255_10, List.forall_mem_append.mpr ⟨hb_d255_11, List.forall_mem_append.mpr ⟨hb_d255_12, List.forall_mem_append.mpr ⟨hb_d255_13, List.forall_mem_append.mpr ⟨hb_d255_14, List.forall_mem_append.mpr ⟨hb_d255_15, List.forall_mem_append.mpr ⟨hb_d255_16, List.forall_mem_append.mpr ⟨hb_d255_17, List.forall_mem_append.mpr ⟨hb_d255_18, hb_d255_19⟩⟩⟩⟩⟩⟩⟩⟩⟩⟩⟩⟩⟩⟩⟩⟩⟩⟩⟩, px_bL_ok hb_l12⟩
theorem hb_d256_0 : ∀ q ∈ hb_c256_0, decode hb_h256.2.1 q.1 = .ok q.2 := px_rwc_ok (by decide +kernel)
theorem hb_d256_1 : ∀ q ∈ hb_c256_1, decode hb_h256.2.1 q.1 = .ok q.2 := px_rwc_ok (by decide +kernel)
theorem hb_d256_2 : ∀ q ∈ hb_c256_2, decode hb_h256.2.1 q.1 = .ok q.2 := px_rwc_ok (by decide +kernel)
set_option maxRecDepth 100000 in
theorem hb_w256 : lw_tbl[1910]? = some (Cond.code hb_h256.1 hb_h256.2.1 hb_h256.2.2.1 hb_h256.2.2.2.1) := by rfl
theorem hb_g256 : px_bM hb_h256 107 = true := by decide +kernel
set_option maxRecDepth 100000 in
theorem hb_o256 : px_okM px_Ts px_Ns hb_cl hb_SL hb_P hb_m256 := ⟨px_bM_ok hb_w256 hb_g256, List.forall_mem_append.mpr ⟨hb_d256_0, List.forall_mem_append.mpr ⟨hb_d256_1, hb_d256_2⟩⟩, px_bL_ok hb_l12⟩
theorem hb_d257_0 : ∀ q ∈ hb_c257_0, decode hb_h257.2.1 q.1 = .ok q.2 := px_rwc_ok (by decide +kernel)
theorem hb_d257_1 : ∀ q ∈ hb_c257_1, decode hb_h257.2.1 q.1 = .ok q.2 := px_rwc_ok (by decide +kernel)
theorem hb_d257_2 : ∀ q ∈ hb_c257_2, decode hb_h257.2.1 q.1 = .ok q.2 := px_rwc_ok (by decide +kernel)
set_option maxRecDepth 100000 in
theorem hb_w257 : lw_tbl[1906]? = some (Cond.code hb_h257.1 hb_h257.2.1 hb_h257.2.2.1 hb_h257.2.2.2.1) := by rfl
theorem hb_g257 : px_bM hb_h257 107 = true := by decide +kernel
set_option maxRecDepth 100000 in
theorem hb_o257 : px_okM px_Ts px_Ns hb_cl hb_SL hb_P hb_m257 := ⟨px_bM_ok hb_w257 hb_g257, List.forall_mem_append.mpr ⟨hb_d257_0, List.forall_mem_append.mpr ⟨hb_d257_1, hb_d257_2⟩⟩, px_bL_ok hb_l12⟩
theorem hb_d258_0 : ∀ q ∈ hb_c258_0, decode hb_h258.2.1 q.1 = .ok q.2 := px_rwc_ok (by decide +kernel)
theorem hb_d258_1 : ∀ q ∈ hb_c258_1, decode hb_h258.2.1 q.1 = .ok q.2 := px_rwc_ok (by decide +kernel)
theorem hb_d258_2 : ∀ q ∈ hb_c258_2, decode hb_h258.2.1 q.1 = .ok q.2 := px_rwc_ok (by decide +kernel)
theorem hb_d258_3 : ∀ q ∈ hb_c258_3, decode hb_h258.2.1 q.1 = .ok q.2 := px_rwc_ok (by decide +kernel)
theorem hb_d258_4 : ∀ q ∈ hb_c258_4, decode hb_h258.2.1 q.1 = .ok q.2 := px_rwc_ok (by decide +kernel)
theorem hb_d258_5 : ∀ q ∈ hb_c258_5, decode hb_h258.2.1 q.1 = .ok q.2 := px_rwc_ok (by decide +kernel)
theorem hb_d258_6 : ∀ q ∈ hb_c258_6, decode hb_h258.2.1 q.1 = .ok q.2 := px_rwc_ok (by decide +kernel)
theorem hb_d258_7 : ∀ q ∈ hb_c258_7, decode hb_h258.2.1 q.1 = .ok q.2 := px_rwc_ok (by decide +kernel)
theorem hb_d258_8 : ∀ q ∈ hb_c258_8, decode hb_h258.2.1 q.1 = .ok q.2 := px_rwc_ok (by decide +kernel)
set_option maxRecDepth 100000 in
theorem hb_w258 : lw_tbl[1902]? = some (Cond.code hb_h258.1 hb_h258.2.1 hb_h258.2.2.1 hb_h258.2.2.2.1) := by rfl
theorem hb_g258 : px_bM hb_h258 107 = true := by decide +kernel
set_option maxRecDepth 100000 in
theorem hb_o258 : px_okM px_Ts px_Ns hb_cl hb_SL hb_P hb_m258 := ⟨px_bM_ok hb_w258 hb_g258, List.forall_mem_append.mpr ⟨hb_d258_0, List.forall_mem_append.mpr ⟨hb_d258_1, List.forall_mem_append.mpr ⟨hb_d258_2, List.forall_mem_append.mpr ⟨hb_d258_3, List.forall_mem_append.mpr ⟨hb_d258_4, List.forall_mem_append.mpr ⟨hb_d258_5, List.forall_mem_append.mpr ⟨hb_d258_6, List.forall_mem_append.mpr ⟨hb_d258_7, hb_d258_8⟩⟩⟩⟩⟩⟩⟩⟩, px_bL_ok hb_l12⟩
theorem hb_d259_0 : ∀ q ∈ hb_c259_0, decode hb_h259.2.1 q.1 = .ok q.2 := px_rwc_ok (by decide +kernel)
theorem hb_d259_1 : ∀ q ∈ hb_c259_1, decode hb_h259.2.1 q.1 = .ok q.2 := px_rwc_ok (by decide +kernel)
theorem hb_d259_2 : ∀ q ∈ hb_c259_2, decode hb_h259.2.1 q.1 = .ok q.2 := px_rwc_ok (by decide +kernel)
theorem hb_d259_3 : ∀ q ∈ hb_c259_3, decode hb_h259.2.1 q.1 = .ok q.2 := px_rwc_ok (by decide +kernel)
theorem hb_d259_4 : ∀ q ∈ hb_c259_4, decode hb_h259.2.1 q.1 = .ok q.2 := px_rwc_ok (by decide +kernel)
theorem hb_d259_5 : ∀ q ∈ hb_c259_5, decode hb_h259.2.1 q.1 = .ok q.2 := px_rwc_ok (by decide +kernel)
theorem hb_d259_6 : ∀ q ∈ hb_c259_6, decode hb_h259.2.1 q.1 = .ok q.2 := px_rwc_ok (by decide +kernel)
theorem hb_d259_7 : ∀ q ∈ hb_c259_7, decode hb_h259.2.1 q.1 = .ok q.2 := px_rwc_ok (by decide +kernel)
theorem hb_d259_8 : ∀ q ∈ hb_c259_8, decode hb_h259.2.1 q.1 = .ok q.2 := px_rwc_ok (by decide +kernel)
theorem hb_d259_9 : ∀ q ∈ hb_c259_9, decode hb_h259.2.1 q.1 = .ok q.2 := px_rwc_ok (by decide +kernel)
set_option maxRecDepth 100000 in
theorem hb_w259 : lw_tbl[1886]? = some (Cond.code hb_h259.1 hb_h259.2.1 hb_h259.2.2.1 hb_h259.2.2.2.1) := by rfl
theorem hb_g259 : px_bM hb_h259 107 = true := by decide +kernel
set_option maxRecDepth 100000 in
theorem hb_o259 : px_okM px_Ts px_Ns hb_cl hb_SL hb_P hb_m259 := ⟨px_bM_ok hb_w259 hb_g259, List.forall_mem_append.mpr ⟨hb_d259_0, List.forall_mem_append.mpr ⟨hb_d259_1, List.forall_mem_append.mpr ⟨hb_d259_2, List.forall_mem_append.mpr ⟨hb_d259_3, List.forall_mem_append.mpr ⟨hb_d259_4, List.forall_mem_append.mpr ⟨hb_d259_5, List.forall_mem_append.mpr ⟨hb_d259_6, List.forall_mem_append.mpr ⟨hb_d259_7, List.forall_mem_append.mpr ⟨hb_d259_8, hb_d259_9⟩⟩⟩⟩⟩⟩⟩⟩⟩, px_bL_ok hb_l12⟩

end

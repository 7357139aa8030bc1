theorem hb_d240_0 : ∀ q ∈ hb_c240_0, decode hb_h240.2.1 q.1 = .ok q.2 := by decide +kernel
set_option maxRecDepth 100000 in
theorem hb_w240 : lw_tbl[1829]? = some (Cond.code hb_h240.1 hb_h240.2.1 hb_h240.2.2.1 hb_h240.2.2.2.1) := by rfl
theorem hb_g240 : px_bM hb_h240 107 = true := by decide +kernel
theorem hb_o240 : px_okM px_Ts px_Ns hb_cl hb_SL hb_P hb_m240 := ⟨px_bM_ok hb_w240 hb_g240, hb_d240_0, px_bL_ok hb_l12⟩
theorem hb_d241_0 : ∀ q ∈ hb_c241_0, decode hb_h241.2.1 q.1 = .ok q.2 := by decide +kernel
set_option maxRecDepth 100000 in
theorem hb_w241 : lw_tbl[1833]? = some (Cond.code hb_h241.1 hb_h241.2.1 hb_h241.2.2.1 hb_h241.2.2.2.1) := by rfl
theorem hb_g241 : px_bM hb_h241 107 = true := by decide +kernel
theorem hb_o241 : px_okM px_Ts px_Ns hb_cl hb_SL hb_P hb_m241 := ⟨px_bM_ok hb_w241 hb_g241, hb_d241_0, px_bL_ok hb_l12⟩
theorem hb_d242_0 : ∀ q ∈ hb_c242_0, decode hb_h242.2.1 q.1 = .ok q.2 := by decide +kernel
theorem hb_d242_1 : ∀ q ∈ hb_c242_1, decode hb_h242.2.1 q.1 = .ok q.2 := by decide +kernel
set_option maxRecDepth 100000 in
theorem hb_w242 : lw_tbl[1837]? = some (Cond.code hb_h242.1 hb_h242.2.1 hb_h242.2.2.1 hb_h242.2.2.2.1) := by rfl
theorem hb_g242 : px_bM hb_h242 107 = true := by decide +kernel
theorem hb_o242 : px_okM px_Ts px_Ns hb_cl hb_SL hb_P hb_m242 := ⟨px_bM_ok hb_w242 hb_g242, List.forall_mem_append.mpr ⟨hb_d242_0, hb_d242_1⟩, px_bL_ok hb_l12⟩
theorem hb_d243_0 : ∀ q ∈ hb_c243_0, decode hb_h243.2.1 q.1 = .ok q.2 := by decide +kernel
theorem hb_d243_1 : ∀ q ∈ hb_c243_1, decode hb_h243.2.1 q.1 = .ok q.2 := by decide +kernel
set_option maxRecDepth 100000 in
theorem hb_w243 : lw_tbl[1841]? = some (Cond.code hb_h243.1 hb_h243.2.1 hb_h243.2.2.1 hb_h243.2.2.2.1) := by rfl
theorem hb_g243 : px_bM hb_h243 107 = true := by decide +kernel
theorem hb_o243 : px_okM px_Ts px_Ns hb_cl hb_SL hb_P hb_m243 := ⟨px_bM_ok hb_w243 hb_g243, List.forall_mem_append.mpr ⟨hb_d243_0, hb_d243_1⟩, px_bL_ok hb_l12⟩
theorem hb_d244_0 : ∀ q ∈ hb_c244_0, decode hb_h244.2.1 q.1 = .ok q.2 := by decide +kernel
theorem hb_d244_1 : ∀ q ∈ hb_c244_1, decode hb_h244.2.1 q.1 = .ok q.2 := by decide +kernel
set_option maxRecDepth 100000 in
theorem hb_w244 : lw_tbl[1849]? = some (Cond.code hb_h244.1 hb_h244.2.1 hb_h244.2.2.1 hb_h244.2.2.2.1) := by rfl
theorem hb_g244 : px_bM hb_h244 107 = true := by decide +kernel
theorem hb_o244 : px_okM px_Ts px_Ns hb_cl hb_SL hb_P hb_m244 := ⟨px_bM_ok hb_w244 hb_g244, List.forall_mem_append.mpr ⟨hb_d244_0, hb_d244_1⟩, px_bL_ok hb_l12⟩
theorem hb_d245_0 : ∀ q ∈ hb_c245_0, decode hb_h245.2.1 q.1 = .ok q.2 := by decide +kernel
theorem hb_d245_1 : ∀ q ∈ hb_c245_1, decode hb_h245.2.1 q.1 = .ok q.2 := by decide +kernel
set_option maxRecDepth 100000 in
theorem hb_w245 : lw_tbl[1845]? = some (Cond.code hb_h245.1 hb_h245.2.1 hb_h245.2.2.1 hb_h245.2.2.2.1) := by rfl
theorem hb_g245 : px_bM hb_h245 107 = true := by decide +kernel
theorem hb_o245 : px_okM px_Ts px_Ns hb_cl hb_SL hb_P hb_m245 := ⟨px_bM_ok hb_w245 hb_g245, List.forall_mem_append.mpr ⟨hb_d245_0, hb_d245_1⟩, px_bL_ok hb_l12⟩
theorem hb_d246_0 : ∀ q ∈ hb_c246_0, decode hb_h246.2.1 q.1 = .ok q.2 := by decide +kernel
set_option maxRecDepth 100000 in
theorem hb_w246 : lw_tbl[1853]? = some (Cond.code hb_h246.1 hb_h246.2.1 hb_h246.2.2.1 hb_h246.2.2.2.1) := by rfl
theorem hb_g246 : px_bM hb_h246 107 = true := by decide +kernel
theorem hb_o246 : px_okM px_Ts px_Ns hb_cl hb_SL hb_P hb_m246 := ⟨px_bM_ok hb_w246 hb_g246, hb_d246_0, px_bL_ok hb_l12⟩
theorem hb_d247_0 : ∀ q ∈ hb_c247_0, decode hb_h247.2.1 q.1 = .ok q.2 := by decide +kernel
theorem hb_d247_1 : ∀ q ∈ hb_c247_1, decode hb_h247.2.1 q.1 = .ok q.2 := by decide +kernel
set_option maxRecDepth 100000 in
theorem hb_w247 : lw_tbl[1857]? = some (Cond.code hb_h247.1 hb_h247.2.1 hb_h247.2.2.1 hb_h247.2.2.2.1) := by rfl
theorem hb_g247 : px_bM hb_h247 107 = true := by decide +kernel
theorem hb_o247 : px_okM px_Ts px_Ns hb_cl hb_SL hb_P hb_m247 := ⟨px_bM_ok hb_w247 hb_g247, List.forall_mem_append.mpr ⟨hb_d247_0, hb_d247_1⟩, px_bL_ok hb_l12⟩
theorem hb_d248_0 : ∀ q ∈ hb_c248_0, decode hb_h248.2.1 q.1 = .ok q.2 := by decide +kernel
set_option maxRecDepth 100000 in
theorem hb_w248 : lw_tbl[1874]? = some (Cond.code hb_h248.1 hb_h248.2.1 hb_h248.2.2.1 hb_h248.2.2.2.1) := by rfl
theorem hb_g248 : px_bM hb_h248 107 = true := by decide +kernel
theorem hb_o248 : px_okM px_Ts px_Ns hb_cl hb_SL hb_P hb_m248 := ⟨px_bM_ok hb_w248 hb_g248, hb_d248_0, px_bL_ok hb_l12⟩
theorem hb_d249_0 : ∀ q ∈ hb_c249_0, decode hb_h249.2.1 q.1 = .ok q.2 := by decide +kernel
theorem hb_d249_1 : ∀ q ∈ hb_c249_1, decode hb_h249.2.1 q.1 = .ok q.2 := by decide +kernel
theorem hb_d249_2 : ∀ q ∈ hb_c249_2, decode hb_h249.2.1 q.1 = .ok q.2 := by decide +kernel
theorem hb_d249_3 : ∀ q ∈ hb_c249_3, decode hb_h249.2.1 q.1 = .ok q.2 := by decide +kernel
set_option maxRecDepth 100000 in
theorem hb_w249 : lw_tbl[1870]? = some (Cond.code hb_h249.1 hb_h249.2.1 hb_h249.2.2.1 hb_h249.2.2.2.1) := by rfl
theorem hb_g249 : px_bM hb_h249 107 = true := by decide +kernel
theorem hb_o249 : px_okM px_Ts px_Ns hb_cl hb_SL hb_P hb_m249 := ⟨px_bM_ok hb_w249 hb_g249, List.forall_mem_append.mpr ⟨hb_d249_0, List.forall_mem_append.mpr ⟨hb_d249_1, List.forall_mem_append.mpr ⟨hb_d249_2, hb_d249_3⟩⟩⟩, px_bL_ok hb_l12⟩
theorem hb_d250_0 : ∀ q ∈ hb_c250_0, decode hb_h250.2.1 q.1 = .ok q.2 := by decide +kernel
theorem hb_d250_1 : ∀ q ∈ hb_c250_1, decode hb_h250.2.1 q.1 = .ok q.2 := by decide +kernel
set_option maxRecDepth 100000 in
theorem hb_w250 : lw_tbl[1878]? = some (Cond.code hb_h250.1 hb_h250.2.1 hb_h250.2.2.1 hb_h250.2.2.2.1) := by rfl
theorem hb_g250 : px_bM hb_h250 107 = true := by decide +kernel
theorem hb_o250 : px_okM px_Ts px_Ns hb_cl hb_SL hb_P hb_m250 := ⟨px_bM_ok hb_w250 hb_g250, List.forall_mem_append.mpr ⟨hb_d250_0, hb_d250_1⟩, px_bL_ok hb_l12⟩
theorem hb_d251_0 : ∀ q ∈ hb_c251_0, decode hb_h251.2.1 q.1 = .ok q.2 := by decide +kernel
set_option maxRecDepth 100000 in
theorem hb_w251 : lw_tbl[1894]? = some (Cond.code hb_h251.1 hb_h251.2.1 hb_h251.2.2.1 hb_h251.2.2.2.1) := by rfl
theorem hb_g251 : px_bM hb_h251 107 = true := by decide +kernel
theorem hb_o251 : px_okM px_Ts px_Ns hb_cl hb_SL hb_P hb_m251 := ⟨px_bM_ok hb_w251 hb_g251, hb_d251_0, px_bL_ok hb_l12⟩
theorem hb_d252_0 : ∀ q ∈ hb_c252_0, decode hb_h252.2.1 q.1 = .ok q.2 := by decide +kernel
set_option maxRecDepth 100000 in
theorem hb_w252 : lw_tbl[1882]? = some (Cond.code hb_h252.1 hb_h252.2.1 hb_h252.2.2.1 hb_h252.2.2.2.1) := by rfl
theorem hb_g252 : px_bM hb_h252 107 = true := by decide +kernel
theorem hb_o252 : px_okM px_Ts px_Ns hb_cl hb_SL hb_P hb_m252 := ⟨px_bM_ok hb_w252 hb_g252, hb_d252_0, px_bL_ok hb_l12⟩
theorem hb_d253_0 : ∀ q ∈ hb_c253_0, decode hb_h253.2.1 q.1 = .ok q.2 := by decide +kernel
set_option maxRecDepth 100000 in
theorem hb_w253 : lw_tbl[1898]? = some (Cond.code hb_h253.1 hb_h253.2.1 hb_h253.2.2.1 hb_h253.2.2.2.1) := by rfl
theorem hb_g253 : px_bM hb_h253 107 = true := by decide +kernel
theorem hb_o253 : px_okM px_Ts px_Ns hb_cl hb_SL hb_P hb_m253 := ⟨px_bM_ok hb_w253 hb_g253, hb_d253_0, px_bL_ok hb_l12⟩
theorem hb_d254_0 : ∀ q ∈ hb_c254_0, decode hb_h254.2.1 q.1 = .ok q.2 := by decide +kernel
set_option maxRecDepth 100000 in
theorem hb_w254 : lw_tbl[1890]? = some (Cond.code hb_h254.1 hb_h254.2.1 hb_h254.2.2.1 hb_h254.2.2.2.1) := by rfl
theorem hb_g254 : px_bM hb_h254 107 = true := by decide +kernel
theorem hb_o254 : px_okM px_Ts px_Ns hb_cl hb_SL hb_P hb_m254 := ⟨px_bM_ok hb_w254 hb_g254, hb_d254_0, px_bL_ok hb_l12⟩
theorem hb_d255_0 : ∀ q ∈ hb_c255_0, decode hb_h255.2.1 q.1 = .ok q.2 := by decide +kernel
theorem hb_d255_1 : ∀ q ∈ hb_c255_1, decode hb_h255.2.1 q.1 = .ok q.2 := by decide +kernel
theorem hb_d255_2 : ∀ q ∈ hb_c255_2, decode hb_h255.2.1 q.1 = .ok q.2 := by decide +kernel
theorem hb_d255_3 : ∀ q ∈ hb_c255_3, decode hb_h255.2.1 q.1 = .ok q.2 := by decide +kernel
set_option maxRecDepth 100000 in
theorem hb_w255 : lw_tbl[1914]? = some (Cond.code hb_h255.1 hb_h255.2.1 hb_h255.2.2.1 hb_h255.2.2.2.1) := by rfl
theorem hb_g255 : px_bM hb_h255 107 = true := by decide +kernel
theorem hb_o255 : px_okM px_Ts px_Ns hb_cl hb_SL hb_P hb_m255 := ⟨px_bM_ok hb_w255 hb_g255, List.forall_mem_append.mpr ⟨hb_d255_0, List.forall_mem_append.mpr ⟨hb_d255_1, List.forall_mem_append.mpr ⟨hb_d255_2, hb_d255_3⟩⟩⟩, px_bL_ok hb_l12⟩
theorem hb_d256_0 : ∀ q ∈ hb_c256_0, decode hb_h256.2.1 q.1 = .ok q.2 := by decide +kernel
set_option maxRecDepth 100000 in
theorem hb_w256 : lw_tbl[1910]? = some (Cond.code hb_h256.1 hb_h256.2.1 hb_h256.2.2.1 hb_h256.2.2.2.1) := by rfl
theorem hb_g256 : px_bM hb_h256 107 = true := by decide +kernel
theorem hb_o256 : px_okM px_Ts px_Ns hb_cl hb_SL hb_P hb_m256 := ⟨px_bM_ok hb_w256 hb_g256, hb_d256_0, px_bL_ok hb_l12⟩
theorem hb_d257_0 : ∀ q ∈ hb_c257_0, decode hb_h257.2.1 q.1 = .ok q.2 := by decide +kernel
set_option maxRecDepth 100000 in
theorem hb_w257 : lw_tbl[1906]? = some (Cond.code hb_h257.1 hb_h257.2.1 hb_h257.2.2.1 hb_h257.2.2.2.1) := by rfl
theorem hb_g257 : px_bM hb_h257 107 = true := by decide +kernel
theorem hb_o257 : px_okM px_Ts px_Ns hb_cl hb_SL hb_P hb_m257 := ⟨px_bM_ok hb_w257 hb_g257, hb_d257_0, px_bL_ok hb_l12⟩
theorem hb_d258_0 : ∀ q ∈ hb_c258_0, decode hb_h258.2.1 q.1 = .ok q.2 := by decide +kernel
theorem hb_d258_1 : ∀ q ∈ hb_c258_1, decode hb_h258.2.1 q.1 = .ok q.2 := by decide +kernel
set_option maxRecDepth 100000 in
theorem hb_w258 : lw_tbl[1902]? = some (Cond.code hb_h258.1 hb_h258.2.1 hb_h258.2.2.1 hb_h258.2.2.2.1) := by rfl
theorem hb_g258 : px_bM hb_h258 107 = true := by decide +kernel
theorem hb_o258 : px_okM px_Ts px_Ns hb_cl hb_SL hb_P hb_m258 := ⟨px_bM_ok hb_w258 hb_g258, List.forall_mem_append.mpr ⟨hb_d258_0, hb_d258_1⟩, px_bL_ok hb_l12⟩
theorem hb_d259_0 : ∀ q ∈ hb_c259_0, decode hb_h259.2.1 q.1 = .ok q.2 := by decide +kernel
theorem hb_d259_1 : ∀ q ∈ hb_c259_1, decode hb_h259.2.1 q.1 = .ok q.2 := by decide +kernel
set_option maxRecDepth 100000 in
theorem hb_w259 : lw_tbl[1886]? = some (Cond.code hb_h259.1 hb_h259.2.1 hb_h259.2.2.1 hb_h259.2.2.2.1) := by rfl
theorem hb_g259 : px_bM hb_h259 107 = true := by decide +kernel
theorem hb_o259 : px_okM px_Ts px_Ns hb_cl hb_SL hb_P hb_m259 := ⟨px_bM_ok hb_w259 hb_g259, List.forall_mem_append.mpr ⟨hb_d259_0, hb_d259_1⟩, px_bL_ok hb_l12⟩

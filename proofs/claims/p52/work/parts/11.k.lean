theorem hb_d248_0 : ∀ q ∈ hb_c248_0, decode hb_h248.2.1 q.1 = .ok q.2 := by decide +kernel
theorem hb_g248 : px_bM hb_h248 1874 107 = true := by decide +kernel
theorem hb_o248 : px_okM px_Ts px_Ns hb_cl hb_SL hb_P hb_m248 := ⟨px_bM_ok hb_g248, hb_d248_0, px_bL_ok hb_l12⟩
theorem hb_d249_0 : ∀ q ∈ hb_c249_0, decode hb_h249.2.1 q.1 = .ok q.2 := by decide +kernel
theorem hb_d249_1 : ∀ q ∈ hb_c249_1, decode hb_h249.2.1 q.1 = .ok q.2 := by decide +kernel
theorem hb_d249_2 : ∀ q ∈ hb_c249_2, decode hb_h249.2.1 q.1 = .ok q.2 := by decide +kernel
theorem hb_d249_3 : ∀ q ∈ hb_c249_3, decode hb_h249.2.1 q.1 = .ok q.2 := by decide +kernel
theorem hb_g249 : px_bM hb_h249 1870 107 = true := by decide +kernel
theorem hb_o249 : px_okM px_Ts px_Ns hb_cl hb_SL hb_P hb_m249 := ⟨px_bM_ok hb_g249, List.forall_mem_append.mpr ⟨hb_d249_0, List.forall_mem_append.mpr ⟨hb_d249_1, List.forall_mem_append.mpr ⟨hb_d249_2, hb_d249_3⟩⟩⟩, px_bL_ok hb_l12⟩
theorem hb_d250_0 : ∀ q ∈ hb_c250_0, decode hb_h250.2.1 q.1 = .ok q.2 := by decide +kernel
theorem hb_d250_1 : ∀ q ∈ hb_c250_1, decode hb_h250.2.1 q.1 = .ok q.2 := by decide +kernel
theorem hb_g250 : px_bM hb_h250 1878 107 = true := by decide +kernel
theorem hb_o250 : px_okM px_Ts px_Ns hb_cl hb_SL hb_P hb_m250 := ⟨px_bM_ok hb_g250, List.forall_mem_append.mpr ⟨hb_d250_0, hb_d250_1⟩, px_bL_ok hb_l12⟩
theorem hb_d251_0 : ∀ q ∈ hb_c251_0, decode hb_h251.2.1 q.1 = .ok q.2 := by decide +kernel
theorem hb_g251 : px_bM hb_h251 1894 107 = true := by decide +kernel
theorem hb_o251 : px_okM px_Ts px_Ns hb_cl hb_SL hb_P hb_m251 := ⟨px_bM_ok hb_g251, hb_d251_0, px_bL_ok hb_l12⟩
theorem hb_d252_0 : ∀ q ∈ hb_c252_0, decode hb_h252.2.1 q.1 = .ok q.2 := by decide +kernel
theorem hb_g252 : px_bM hb_h252 1882 107 = true := by decide +kernel
theorem hb_o252 : px_okM px_Ts px_Ns hb_cl hb_SL hb_P hb_m252 := ⟨px_bM_ok hb_g252, hb_d252_0, px_bL_ok hb_l12⟩
theorem hb_d253_0 : ∀ q ∈ hb_c253_0, decode hb_h253.2.1 q.1 = .ok q.2 := by decide +kernel
theorem hb_g253 : px_bM hb_h253 1898 107 = true := by decide +kernel
theorem hb_o253 : px_okM px_Ts px_Ns hb_cl hb_SL hb_P hb_m253 := ⟨px_bM_ok hb_g253, hb_d253_0, px_bL_ok hb_l12⟩
theorem hb_d254_0 : ∀ q ∈ hb_c254_0, decode hb_h254.2.1 q.1 = .ok q.2 := by decide +kernel
theorem hb_g254 : px_bM hb_h254 1890 107 = true := by decide +kernel
theorem hb_o254 : px_okM px_Ts px_Ns hb_cl hb_SL hb_P hb_m254 := ⟨px_bM_ok hb_g254, hb_d254_0, px_bL_ok hb_l12⟩
theorem hb_d255_0 : ∀ q ∈ hb_c255_0, decode hb_h255.2.1 q.1 = .ok q.2 := by decide +kernel
theorem hb_d255_1 : ∀ q ∈ hb_c255_1, decode hb_h255.2.1 q.1 = .ok q.2 := by decide +kernel
theorem hb_d255_2 : ∀ q ∈ hb_c255_2, decode hb_h255.2.1 q.1 = .ok q.2 := by decide +kernel
theorem hb_d255_3 : ∀ q ∈ hb_c255_3, decode hb_h255.2.1 q.1 = .ok q.2 := by decide +kernel
theorem hb_g255 : px_bM hb_h255 1914 107 = true := by decide +kernel
theorem hb_o255 : px_okM px_Ts px_Ns hb_cl hb_SL hb_P hb_m255 := ⟨px_bM_ok hb_g255, List.forall_mem_append.mpr ⟨hb_d255_0, List.forall_mem_append.mpr ⟨hb_d255_1, List.forall_mem_append.mpr ⟨hb_d255_2, hb_d255_3⟩⟩⟩, px_bL_ok hb_l12⟩
theorem hb_d256_0 : ∀ q ∈ hb_c256_0, decode hb_h256.2.1 q.1 = .ok q.2 := by decide +kernel
theorem hb_g256 : px_bM hb_h256 1910 107 = true := by decide +kernel
theorem hb_o256 : px_okM px_Ts px_Ns hb_cl hb_SL hb_P hb_m256 := ⟨px_bM_ok hb_g256, hb_d256_0, px_bL_ok hb_l12⟩
theorem hb_d257_0 : ∀ q ∈ hb_c257_0, decode hb_h257.2.1 q.1 = .ok q.2 := by decide +kernel
theorem hb_g257 : px_bM hb_h257 1906 107 = true := by decide +kernel
theorem hb_o257 : px_okM px_Ts px_Ns hb_cl hb_SL hb_P hb_m257 := ⟨px_bM_ok hb_g257, hb_d257_0, px_bL_ok hb_l12⟩
theorem hb_d258_0 : ∀ q ∈ hb_c258_0, decode hb_h258.2.1 q.1 = .ok q.2 := by decide +kernel
theorem hb_d258_1 : ∀ q ∈ hb_c258_1, decode hb_h258.2.1 q.1 = .ok q.2 := by decide +kernel
theorem hb_g258 : px_bM hb_h258 1902 107 = true := by decide +kernel
theorem hb_o258 : px_okM px_Ts px_Ns hb_cl hb_SL hb_P hb_m258 := ⟨px_bM_ok hb_g258, List.forall_mem_append.mpr ⟨hb_d258_0, hb_d258_1⟩, px_bL_ok hb_l12⟩
theorem hb_d259_0 : ∀ q ∈ hb_c259_0, decode hb_h259.2.1 q.1 = .ok q.2 := by decide +kernel
theorem hb_d259_1 : ∀ q ∈ hb_c259_1, decode hb_h259.2.1 q.1 = .ok q.2 := by decide +kernel
theorem hb_g259 : px_bM hb_h259 1886 107 = true := by decide +kernel
theorem hb_o259 : px_okM px_Ts px_Ns hb_cl hb_SL hb_P hb_m259 := ⟨px_bM_ok hb_g259, List.forall_mem_append.mpr ⟨hb_d259_0, hb_d259_1⟩, px_bL_ok hb_l12⟩

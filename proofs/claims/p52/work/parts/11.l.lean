theorem hb_d260_0 : ∀ q ∈ hb_c260_0, decode hb_h260.2.1 q.1 = .ok q.2 := by decide +kernel
theorem hb_d260_1 : ∀ q ∈ hb_c260_1, decode hb_h260.2.1 q.1 = .ok q.2 := by decide +kernel
theorem hb_g260 : px_bM hb_h260 1866 107 = true := by decide +kernel
theorem hb_o260 : px_okM px_Ts px_Ns hb_cl hb_SL hb_P hb_m260 := ⟨px_bM_ok hb_g260, List.forall_mem_append.mpr ⟨hb_d260_0, hb_d260_1⟩, px_bL_ok hb_l12⟩
theorem hb_d261_0 : ∀ q ∈ hb_c261_0, decode hb_h261.2.1 q.1 = .ok q.2 := by decide +kernel
theorem hb_d261_1 : ∀ q ∈ hb_c261_1, decode hb_h261.2.1 q.1 = .ok q.2 := by decide +kernel
theorem hb_g261 : px_bM hb_h261 1862 107 = true := by decide +kernel
theorem hb_o261 : px_okM px_Ts px_Ns hb_cl hb_SL hb_P hb_m261 := ⟨px_bM_ok hb_g261, List.forall_mem_append.mpr ⟨hb_d261_0, hb_d261_1⟩, px_bL_ok hb_l12⟩
theorem hb_d262_0 : ∀ q ∈ hb_c262_0, decode hb_h262.2.1 q.1 = .ok q.2 := by decide +kernel
theorem hb_d262_1 : ∀ q ∈ hb_c262_1, decode hb_h262.2.1 q.1 = .ok q.2 := by decide +kernel
theorem hb_g262 : px_bM hb_h262 1918 107 = true := by decide +kernel
theorem hb_o262 : px_okM px_Ts px_Ns hb_cl hb_SL hb_P hb_m262 := ⟨px_bM_ok hb_g262, List.forall_mem_append.mpr ⟨hb_d262_0, hb_d262_1⟩, px_bL_ok hb_l12⟩
theorem hb_d263_0 : ∀ q ∈ hb_c263_0, decode hb_h263.2.1 q.1 = .ok q.2 := by decide +kernel
theorem hb_d263_1 : ∀ q ∈ hb_c263_1, decode hb_h263.2.1 q.1 = .ok q.2 := by decide +kernel
theorem hb_g263 : px_bM hb_h263 1926 107 = true := by decide +kernel
theorem hb_o263 : px_okM px_Ts px_Ns hb_cl hb_SL hb_P hb_m263 := ⟨px_bM_ok hb_g263, List.forall_mem_append.mpr ⟨hb_d263_0, hb_d263_1⟩, px_bL_ok hb_l12⟩
theorem hb_d264_0 : ∀ q ∈ hb_c264_0, decode hb_h264.2.1 q.1 = .ok q.2 := by decide +kernel
theorem hb_g264 : px_bM hb_h264 1930 107 = true := by decide +kernel
theorem hb_o264 : px_okM px_Ts px_Ns hb_cl hb_SL hb_P hb_m264 := ⟨px_bM_ok hb_g264, hb_d264_0, px_bL_ok hb_l12⟩
theorem hb_d265_0 : ∀ q ∈ hb_c265_0, decode hb_h265.2.1 q.1 = .ok q.2 := by decide +kernel
theorem hb_g265 : px_bM hb_h265 1922 107 = true := by decide +kernel
theorem hb_o265 : px_okM px_Ts px_Ns hb_cl hb_SL hb_P hb_m265 := ⟨px_bM_ok hb_g265, hb_d265_0, px_bL_ok hb_l12⟩
theorem hb_d266_0 : ∀ q ∈ hb_c266_0, decode hb_h266.2.1 q.1 = .ok q.2 := by decide +kernel
theorem hb_g266 : px_bM hb_h266 1934 107 = true := by decide +kernel
theorem hb_o266 : px_okM px_Ts px_Ns hb_cl hb_SL hb_P hb_m266 := ⟨px_bM_ok hb_g266, hb_d266_0, px_bL_ok hb_l12⟩
theorem hb_d267_0 : ∀ q ∈ hb_c267_0, decode hb_h267.2.1 q.1 = .ok q.2 := by decide +kernel
theorem hb_d267_1 : ∀ q ∈ hb_c267_1, decode hb_h267.2.1 q.1 = .ok q.2 := by decide +kernel
theorem hb_g267 : px_bM hb_h267 1938 107 = true := by decide +kernel
theorem hb_o267 : px_okM px_Ts px_Ns hb_cl hb_SL hb_P hb_m267 := ⟨px_bM_ok hb_g267, List.forall_mem_append.mpr ⟨hb_d267_0, hb_d267_1⟩, px_bL_ok hb_l12⟩
theorem hb_d268_0 : ∀ q ∈ hb_c268_0, decode hb_h268.2.1 q.1 = .ok q.2 := by decide +kernel
theorem hb_d268_1 : ∀ q ∈ hb_c268_1, decode hb_h268.2.1 q.1 = .ok q.2 := by decide +kernel
theorem hb_g268 : px_bM hb_h268 1942 107 = true := by decide +kernel
theorem hb_o268 : px_okM px_Ts px_Ns hb_cl hb_SL hb_P hb_m268 := ⟨px_bM_ok hb_g268, List.forall_mem_append.mpr ⟨hb_d268_0, hb_d268_1⟩, px_bL_ok hb_l12⟩
theorem hb_d269_0 : ∀ q ∈ hb_c269_0, decode hb_h269.2.1 q.1 = .ok q.2 := by decide +kernel
theorem hb_d269_1 : ∀ q ∈ hb_c269_1, decode hb_h269.2.1 q.1 = .ok q.2 := by decide +kernel
theorem hb_d269_2 : ∀ q ∈ hb_c269_2, decode hb_h269.2.1 q.1 = .ok q.2 := by decide +kernel
theorem hb_d269_3 : ∀ q ∈ hb_c269_3, decode hb_h269.2.1 q.1 = .ok q.2 := by decide +kernel
theorem hb_g269 : px_bM hb_h269 1946 107 = true := by decide +kernel
theorem hb_o269 : px_okM px_Ts px_Ns hb_cl hb_SL hb_P hb_m269 := ⟨px_bM_ok hb_g269, List.forall_mem_append.mpr ⟨hb_d269_0, List.forall_mem_append.mpr ⟨hb_d269_1, List.forall_mem_append.mpr ⟨hb_d269_2, hb_d269_3⟩⟩⟩, px_bL_ok hb_l12⟩
theorem hb_d270_0 : ∀ q ∈ hb_c270_0, decode hb_h270.2.1 q.1 = .ok q.2 := by decide +kernel
theorem hb_g270 : px_bM hb_h270 1949 107 = true := by decide +kernel
theorem hb_o270 : px_okM px_Ts px_Ns hb_cl hb_SL hb_P hb_m270 := ⟨px_bM_ok hb_g270, hb_d270_0, px_bL_ok hb_l12⟩
theorem hb_d271_0 : ∀ q ∈ hb_c271_0, decode hb_h271.2.1 q.1 = .ok q.2 := by decide +kernel
theorem hb_g271 : px_bM hb_h271 1956 107 = true := by decide +kernel
theorem hb_o271 : px_okM px_Ts px_Ns hb_cl hb_SL hb_P hb_m271 := ⟨px_bM_ok hb_g271, hb_d271_0, px_bL_ok hb_l12⟩

theorem hb_d272_0 : ∀ q ∈ hb_c272_0, decode hb_h272.2.1 q.1 = .ok q.2 := by decide +kernel
theorem hb_d272_1 : ∀ q ∈ hb_c272_1, decode hb_h272.2.1 q.1 = .ok q.2 := by decide +kernel
theorem hb_g272 : px_bM hb_h272 1960 107 = true := by decide +kernel
theorem hb_o272 : px_okM px_Ts px_Ns hb_cl hb_SL hb_P hb_m272 := ⟨px_bM_ok hb_g272, List.forall_mem_append.mpr ⟨hb_d272_0, hb_d272_1⟩, px_bL_ok hb_l12⟩
theorem hb_d273_0 : ∀ q ∈ hb_c273_0, decode hb_h273.2.1 q.1 = .ok q.2 := by decide +kernel
theorem hb_d273_1 : ∀ q ∈ hb_c273_1, decode hb_h273.2.1 q.1 = .ok q.2 := by decide +kernel
theorem hb_g273 : px_bM hb_h273 1953 107 = true := by decide +kernel
theorem hb_o273 : px_okM px_Ts px_Ns hb_cl hb_SL hb_P hb_m273 := ⟨px_bM_ok hb_g273, List.forall_mem_append.mpr ⟨hb_d273_0, hb_d273_1⟩, px_bL_ok hb_l12⟩
theorem hb_d274_0 : ∀ q ∈ hb_c274_0, decode hb_h274.2.1 q.1 = .ok q.2 := by decide +kernel
theorem hb_d274_1 : ∀ q ∈ hb_c274_1, decode hb_h274.2.1 q.1 = .ok q.2 := by decide +kernel
theorem hb_g274 : px_bM hb_h274 1964 107 = true := by decide +kernel
theorem hb_o274 : px_okM px_Ts px_Ns hb_cl hb_SL hb_P hb_m274 := ⟨px_bM_ok hb_g274, List.forall_mem_append.mpr ⟨hb_d274_0, hb_d274_1⟩, px_bL_ok hb_l12⟩
theorem hb_d275_0 : ∀ q ∈ hb_c275_0, decode hb_h275.2.1 q.1 = .ok q.2 := by decide +kernel
theorem hb_d275_1 : ∀ q ∈ hb_c275_1, decode hb_h275.2.1 q.1 = .ok q.2 := by decide +kernel
theorem hb_g275 : px_bM hb_h275 1968 107 = true := by decide +kernel
theorem hb_o275 : px_okM px_Ts px_Ns hb_cl hb_SL hb_P hb_m275 := ⟨px_bM_ok hb_g275, List.forall_mem_append.mpr ⟨hb_d275_0, hb_d275_1⟩, px_bL_ok hb_l12⟩
theorem hb_d276_0 : ∀ q ∈ hb_c276_0, decode hb_h276.2.1 q.1 = .ok q.2 := by decide +kernel
theorem hb_d276_1 : ∀ q ∈ hb_c276_1, decode hb_h276.2.1 q.1 = .ok q.2 := by decide +kernel
theorem hb_d276_2 : ∀ q ∈ hb_c276_2, decode hb_h276.2.1 q.1 = .ok q.2 := by decide +kernel
theorem hb_g276 : px_bM hb_h276 1972 107 = true := by decide +kernel
theorem hb_o276 : px_okM px_Ts px_Ns hb_cl hb_SL hb_P hb_m276 := ⟨px_bM_ok hb_g276, List.forall_mem_append.mpr ⟨hb_d276_0, List.forall_mem_append.mpr ⟨hb_d276_1, hb_d276_2⟩⟩, px_bL_ok hb_l12⟩
theorem hb_d277_0 : ∀ q ∈ hb_c277_0, decode hb_h277.2.1 q.1 = .ok q.2 := by decide +kernel
theorem hb_d277_1 : ∀ q ∈ hb_c277_1, decode hb_h277.2.1 q.1 = .ok q.2 := by decide +kernel
theorem hb_d277_2 : ∀ q ∈ hb_c277_2, decode hb_h277.2.1 q.1 = .ok q.2 := by decide +kernel
theorem hb_g277 : px_bM hb_h277 1977 107 = true := by decide +kernel
theorem hb_o277 : px_okM px_Ts px_Ns hb_cl hb_SL hb_P hb_m277 := ⟨px_bM_ok hb_g277, List.forall_mem_append.mpr ⟨hb_d277_0, List.forall_mem_append.mpr ⟨hb_d277_1, hb_d277_2⟩⟩, px_bL_ok hb_l12⟩
theorem hb_d278_0 : ∀ q ∈ hb_c278_0, decode hb_h278.2.1 q.1 = .ok q.2 := by decide +kernel
theorem hb_d278_1 : ∀ q ∈ hb_c278_1, decode hb_h278.2.1 q.1 = .ok q.2 := by decide +kernel
theorem hb_g278 : px_bM hb_h278 1985 107 = true := by decide +kernel
theorem hb_o278 : px_okM px_Ts px_Ns hb_cl hb_SL hb_P hb_m278 := ⟨px_bM_ok hb_g278, List.forall_mem_append.mpr ⟨hb_d278_0, hb_d278_1⟩, px_bL_ok hb_l12⟩
theorem hb_d279_0 : ∀ q ∈ hb_c279_0, decode hb_h279.2.1 q.1 = .ok q.2 := by decide +kernel
theorem hb_d279_1 : ∀ q ∈ hb_c279_1, decode hb_h279.2.1 q.1 = .ok q.2 := by decide +kernel
theorem hb_d279_2 : ∀ q ∈ hb_c279_2, decode hb_h279.2.1 q.1 = .ok q.2 := by decide +kernel
theorem hb_g279 : px_bM hb_h279 1981 107 = true := by decide +kernel
theorem hb_o279 : px_okM px_Ts px_Ns hb_cl hb_SL hb_P hb_m279 := ⟨px_bM_ok hb_g279, List.forall_mem_append.mpr ⟨hb_d279_0, List.forall_mem_append.mpr ⟨hb_d279_1, hb_d279_2⟩⟩, px_bL_ok hb_l12⟩
theorem hb_d280_0 : ∀ q ∈ hb_c280_0, decode hb_h280.2.1 q.1 = .ok q.2 := by decide +kernel
theorem hb_g280 : px_bM hb_h280 1997 107 = true := by decide +kernel
theorem hb_o280 : px_okM px_Ts px_Ns hb_cl hb_SL hb_P hb_m280 := ⟨px_bM_ok hb_g280, hb_d280_0, px_bL_ok hb_l12⟩
theorem hb_d281_0 : ∀ q ∈ hb_c281_0, decode hb_h281.2.1 q.1 = .ok q.2 := by decide +kernel
theorem hb_g281 : px_bM hb_h281 2001 107 = true := by decide +kernel
theorem hb_o281 : px_okM px_Ts px_Ns hb_cl hb_SL hb_P hb_m281 := ⟨px_bM_ok hb_g281, hb_d281_0, px_bL_ok hb_l12⟩
theorem hb_d282_0 : ∀ q ∈ hb_c282_0, decode hb_h282.2.1 q.1 = .ok q.2 := by decide +kernel
theorem hb_g282 : px_bM hb_h282 1993 107 = true := by decide +kernel
theorem hb_o282 : px_okM px_Ts px_Ns hb_cl hb_SL hb_P hb_m282 := ⟨px_bM_ok hb_g282, hb_d282_0, px_bL_ok hb_l12⟩
theorem hb_d283_0 : ∀ q ∈ hb_c283_0, decode hb_h283.2.1 q.1 = .ok q.2 := by decide +kernel
theorem hb_g283 : px_bM hb_h283 2009 107 = true := by decide +kernel
theorem hb_o283 : px_okM px_Ts px_Ns hb_cl hb_SL hb_P hb_m283 := ⟨px_bM_ok hb_g283, hb_d283_0, px_bL_ok hb_l12⟩

theorem hb_d284_0 : ∀ q ∈ hb_c284_0, decode hb_h284.2.1 q.1 = .ok q.2 := by decide +kernel
theorem hb_g284 : px_bM hb_h284 2005 107 = true := by decide +kernel
theorem hb_o284 : px_okM px_Ts px_Ns hb_cl hb_SL hb_P hb_m284 := ⟨px_bM_ok hb_g284, hb_d284_0, px_bL_ok hb_l12⟩
theorem hb_d285_0 : ∀ q ∈ hb_c285_0, decode hb_h285.2.1 q.1 = .ok q.2 := by decide +kernel
theorem hb_g285 : px_bM hb_h285 2017 107 = true := by decide +kernel
theorem hb_o285 : px_okM px_Ts px_Ns hb_cl hb_SL hb_P hb_m285 := ⟨px_bM_ok hb_g285, hb_d285_0, px_bL_ok hb_l12⟩
theorem hb_d286_0 : ∀ q ∈ hb_c286_0, decode hb_h286.2.1 q.1 = .ok q.2 := by decide +kernel
theorem hb_g286 : px_bM hb_h286 2013 107 = true := by decide +kernel
theorem hb_o286 : px_okM px_Ts px_Ns hb_cl hb_SL hb_P hb_m286 := ⟨px_bM_ok hb_g286, hb_d286_0, px_bL_ok hb_l12⟩
theorem hb_d287_0 : ∀ q ∈ hb_c287_0, decode hb_h287.2.1 q.1 = .ok q.2 := by decide +kernel
theorem hb_g287 : px_bM hb_h287 2025 107 = true := by decide +kernel
theorem hb_o287 : px_okM px_Ts px_Ns hb_cl hb_SL hb_P hb_m287 := ⟨px_bM_ok hb_g287, hb_d287_0, px_bL_ok hb_l12⟩
theorem hb_d288_0 : ∀ q ∈ hb_c288_0, decode hb_h288.2.1 q.1 = .ok q.2 := by decide +kernel
theorem hb_g288 : px_bM hb_h288 2021 107 = true := by decide +kernel
theorem hb_o288 : px_okM px_Ts px_Ns hb_cl hb_SL hb_P hb_m288 := ⟨px_bM_ok hb_g288, hb_d288_0, px_bL_ok hb_l12⟩
theorem hb_d289_0 : ∀ q ∈ hb_c289_0, decode hb_h289.2.1 q.1 = .ok q.2 := by decide +kernel
theorem hb_d289_1 : ∀ q ∈ hb_c289_1, decode hb_h289.2.1 q.1 = .ok q.2 := by decide +kernel
theorem hb_d289_2 : ∀ q ∈ hb_c289_2, decode hb_h289.2.1 q.1 = .ok q.2 := by decide +kernel
theorem hb_d289_3 : ∀ q ∈ hb_c289_3, decode hb_h289.2.1 q.1 = .ok q.2 := by decide +kernel
theorem hb_g289 : px_bM hb_h289 1989 107 = true := by decide +kernel
theorem hb_o289 : px_okM px_Ts px_Ns hb_cl hb_SL hb_P hb_m289 := ⟨px_bM_ok hb_g289, List.forall_mem_append.mpr ⟨hb_d289_0, List.forall_mem_append.mpr ⟨hb_d289_1, List.forall_mem_append.mpr ⟨hb_d289_2, hb_d289_3⟩⟩⟩, px_bL_ok hb_l12⟩
theorem hb_d290_0 : ∀ q ∈ hb_c290_0, decode hb_h290.2.1 q.1 = .ok q.2 := by decide +kernel
theorem hb_g290 : px_bM hb_h290 2029 107 = true := by decide +kernel
theorem hb_o290 : px_okM px_Ts px_Ns hb_cl hb_SL hb_P hb_m290 := ⟨px_bM_ok hb_g290, hb_d290_0, px_bL_ok hb_l12⟩
theorem hb_d291_0 : ∀ q ∈ hb_c291_0, decode hb_h291.2.1 q.1 = .ok q.2 := by decide +kernel
theorem hb_d291_1 : ∀ q ∈ hb_c291_1, decode hb_h291.2.1 q.1 = .ok q.2 := by decide +kernel
theorem hb_g291 : px_bM hb_h291 2033 107 = true := by decide +kernel
theorem hb_o291 : px_okM px_Ts px_Ns hb_cl hb_SL hb_P hb_m291 := ⟨px_bM_ok hb_g291, List.forall_mem_append.mpr ⟨hb_d291_0, hb_d291_1⟩, px_bL_ok hb_l12⟩
theorem hb_d292_0 : ∀ q ∈ hb_c292_0, decode hb_h292.2.1 q.1 = .ok q.2 := by decide +kernel
theorem hb_g292 : px_bM hb_h292 2037 107 = true := by decide +kernel
theorem hb_o292 : px_okM px_Ts px_Ns hb_cl hb_SL hb_P hb_m292 := ⟨px_bM_ok hb_g292, hb_d292_0, px_bL_ok hb_l12⟩
theorem hb_d293_0 : ∀ q ∈ hb_c293_0, decode hb_h293.2.1 q.1 = .ok q.2 := by decide +kernel
theorem hb_g293 : px_bM hb_h293 2041 107 = true := by decide +kernel
theorem hb_o293 : px_okM px_Ts px_Ns hb_cl hb_SL hb_P hb_m293 := ⟨px_bM_ok hb_g293, hb_d293_0, px_bL_ok hb_l12⟩
theorem hb_d294_0 : ∀ q ∈ hb_c294_0, decode hb_h294.2.1 q.1 = .ok q.2 := by decide +kernel
theorem hb_d294_1 : ∀ q ∈ hb_c294_1, decode hb_h294.2.1 q.1 = .ok q.2 := by decide +kernel
theorem hb_g294 : px_bM hb_h294 761 110 = true := by decide +kernel
theorem hb_o294 : px_okM px_Ts px_Ns hb_cl hb_SL hb_P hb_m294 := ⟨px_bM_ok hb_g294, List.forall_mem_append.mpr ⟨hb_d294_0, hb_d294_1⟩, px_bL_ok hb_l13⟩
theorem hb_d295_0 : ∀ q ∈ hb_c295_0, decode hb_h295.2.1 q.1 = .ok q.2 := by decide +kernel
theorem hb_g295 : px_bM hb_h295 910 108 = true := by decide +kernel
theorem hb_o295 : px_okM px_Ts px_Ns hb_cl hb_SL hb_P hb_m295 := ⟨px_bM_ok hb_g295, hb_d295_0, px_bL_ok hb_l14⟩

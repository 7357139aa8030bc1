theorem hb_d236_0 : ∀ q ∈ hb_c236_0, decode hb_h236.2.1 q.1 = .ok q.2 := by decide +kernel
theorem hb_d236_1 : ∀ q ∈ hb_c236_1, decode hb_h236.2.1 q.1 = .ok q.2 := by decide +kernel
theorem hb_g236 : px_bM hb_h236 1813 107 = true := by decide +kernel
theorem hb_o236 : px_okM px_Ts px_Ns hb_cl hb_SL hb_P hb_m236 := ⟨px_bM_ok hb_g236, List.forall_mem_append.mpr ⟨hb_d236_0, hb_d236_1⟩, px_bL_ok hb_l12⟩
theorem hb_d237_0 : ∀ q ∈ hb_c237_0, decode hb_h237.2.1 q.1 = .ok q.2 := by decide +kernel
theorem hb_g237 : px_bM hb_h237 1821 107 = true := by decide +kernel
theorem hb_o237 : px_okM px_Ts px_Ns hb_cl hb_SL hb_P hb_m237 := ⟨px_bM_ok hb_g237, hb_d237_0, px_bL_ok hb_l12⟩
theorem hb_d238_0 : ∀ q ∈ hb_c238_0, decode hb_h238.2.1 q.1 = .ok q.2 := by decide +kernel
theorem hb_d238_1 : ∀ q ∈ hb_c238_1, decode hb_h238.2.1 q.1 = .ok q.2 := by decide +kernel
theorem hb_d238_2 : ∀ q ∈ hb_c238_2, decode hb_h238.2.1 q.1 = .ok q.2 := by decide +kernel
theorem hb_g238 : px_bM hb_h238 1825 107 = true := by decide +kernel
theorem hb_o238 : px_okM px_Ts px_Ns hb_cl hb_SL hb_P hb_m238 := ⟨px_bM_ok hb_g238, List.forall_mem_append.mpr ⟨hb_d238_0, List.forall_mem_append.mpr ⟨hb_d238_1, hb_d238_2⟩⟩, px_bL_ok hb_l12⟩
theorem hb_d239_0 : ∀ q ∈ hb_c239_0, decode hb_h239.2.1 q.1 = .ok q.2 := by decide +kernel
theorem hb_g239 : px_bM hb_h239 1817 107 = true := by decide +kernel
theorem hb_o239 : px_okM px_Ts px_Ns hb_cl hb_SL hb_P hb_m239 := ⟨px_bM_ok hb_g239, hb_d239_0, px_bL_ok hb_l12⟩
theorem hb_d240_0 : ∀ q ∈ hb_c240_0, decode hb_h240.2.1 q.1 = .ok q.2 := by decide +kernel
theorem hb_g240 : px_bM hb_h240 1829 107 = true := by decide +kernel
theorem hb_o240 : px_okM px_Ts px_Ns hb_cl hb_SL hb_P hb_m240 := ⟨px_bM_ok hb_g240, hb_d240_0, px_bL_ok hb_l12⟩
theorem hb_d241_0 : ∀ q ∈ hb_c241_0, decode hb_h241.2.1 q.1 = .ok q.2 := by decide +kernel
theorem hb_g241 : px_bM hb_h241 1833 107 = true := by decide +kernel
theorem hb_o241 : px_okM px_Ts px_Ns hb_cl hb_SL hb_P hb_m241 := ⟨px_bM_ok hb_g241, hb_d241_0, px_bL_ok hb_l12⟩
theorem hb_d242_0 : ∀ q ∈ hb_c242_0, decode hb_h242.2.1 q.1 = .ok q.2 := by decide +kernel
theorem hb_d242_1 : ∀ q ∈ hb_c242_1, decode hb_h242.2.1 q.1 = .ok q.2 := by decide +kernel
theorem hb_g242 : px_bM hb_h242 1837 107 = true := by decide +kernel
theorem hb_o242 : px_okM px_Ts px_Ns hb_cl hb_SL hb_P hb_m242 := ⟨px_bM_ok hb_g242, List.forall_mem_append.mpr ⟨hb_d242_0, hb_d242_1⟩, px_bL_ok hb_l12⟩
theorem hb_d243_0 : ∀ q ∈ hb_c243_0, decode hb_h243.2.1 q.1 = .ok q.2 := by decide +kernel
theorem hb_d243_1 : ∀ q ∈ hb_c243_1, decode hb_h243.2.1 q.1 = .ok q.2 := by decide +kernel
theorem hb_g243 : px_bM hb_h243 1841 107 = true := by decide +kernel
theorem hb_o243 : px_okM px_Ts px_Ns hb_cl hb_SL hb_P hb_m243 := ⟨px_bM_ok hb_g243, List.forall_mem_append.mpr ⟨hb_d243_0, hb_d243_1⟩, px_bL_ok hb_l12⟩
theorem hb_d244_0 : ∀ q ∈ hb_c244_0, decode hb_h244.2.1 q.1 = .ok q.2 := by decide +kernel
theorem hb_d244_1 : ∀ q ∈ hb_c244_1, decode hb_h244.2.1 q.1 = .ok q.2 := by decide +kernel
theorem hb_g244 : px_bM hb_h244 1849 107 = true := by decide +kernel
theorem hb_o244 : px_okM px_Ts px_Ns hb_cl hb_SL hb_P hb_m244 := ⟨px_bM_ok hb_g244, List.forall_mem_append.mpr ⟨hb_d244_0, hb_d244_1⟩, px_bL_ok hb_l12⟩
theorem hb_d245_0 : ∀ q ∈ hb_c245_0, decode hb_h245.2.1 q.1 = .ok q.2 := by decide +kernel
theorem hb_d245_1 : ∀ q ∈ hb_c245_1, decode hb_h245.2.1 q.1 = .ok q.2 := by decide +kernel
theorem hb_g245 : px_bM hb_h245 1845 107 = true := by decide +kernel
theorem hb_o245 : px_okM px_Ts px_Ns hb_cl hb_SL hb_P hb_m245 := ⟨px_bM_ok hb_g245, List.forall_mem_append.mpr ⟨hb_d245_0, hb_d245_1⟩, px_bL_ok hb_l12⟩
theorem hb_d246_0 : ∀ q ∈ hb_c246_0, decode hb_h246.2.1 q.1 = .ok q.2 := by decide +kernel
theorem hb_g246 : px_bM hb_h246 1853 107 = true := by decide +kernel
theorem hb_o246 : px_okM px_Ts px_Ns hb_cl hb_SL hb_P hb_m246 := ⟨px_bM_ok hb_g246, hb_d246_0, px_bL_ok hb_l12⟩
theorem hb_d247_0 : ∀ q ∈ hb_c247_0, decode hb_h247.2.1 q.1 = .ok q.2 := by decide +kernel
theorem hb_d247_1 : ∀ q ∈ hb_c247_1, decode hb_h247.2.1 q.1 = .ok q.2 := by decide +kernel
theorem hb_g247 : px_bM hb_h247 1857 107 = true := by decide +kernel
theorem hb_o247 : px_okM px_Ts px_Ns hb_cl hb_SL hb_P hb_m247 := ⟨px_bM_ok hb_g247, List.forall_mem_append.mpr ⟨hb_d247_0, hb_d247_1⟩, px_bL_ok hb_l12⟩

theorem hb_d212_0 : ∀ q ∈ hb_c212_0, decode hb_h212.2.1 q.1 = .ok q.2 := by decide +kernel
theorem hb_d212_1 : ∀ q ∈ hb_c212_1, decode hb_h212.2.1 q.1 = .ok q.2 := by decide +kernel
theorem hb_g212 : px_bM hb_h212 1716 107 = true := by decide +kernel
theorem hb_o212 : px_okM px_Ts px_Ns hb_cl hb_SL hb_P hb_m212 := ⟨px_bM_ok hb_g212, List.forall_mem_append.mpr ⟨hb_d212_0, hb_d212_1⟩, px_bL_ok hb_l12⟩
theorem hb_d213_0 : ∀ q ∈ hb_c213_0, decode hb_h213.2.1 q.1 = .ok q.2 := by decide +kernel
theorem hb_g213 : px_bM hb_h213 1764 107 = true := by decide +kernel
theorem hb_o213 : px_okM px_Ts px_Ns hb_cl hb_SL hb_P hb_m213 := ⟨px_bM_ok hb_g213, hb_d213_0, px_bL_ok hb_l12⟩
theorem hb_d214_0 : ∀ q ∈ hb_c214_0, decode hb_h214.2.1 q.1 = .ok q.2 := by decide +kernel
theorem hb_g214 : px_bM hb_h214 1724 107 = true := by decide +kernel
theorem hb_o214 : px_okM px_Ts px_Ns hb_cl hb_SL hb_P hb_m214 := ⟨px_bM_ok hb_g214, hb_d214_0, px_bL_ok hb_l12⟩
theorem hb_d215_0 : ∀ q ∈ hb_c215_0, decode hb_h215.2.1 q.1 = .ok q.2 := by decide +kernel
theorem hb_d215_1 : ∀ q ∈ hb_c215_1, decode hb_h215.2.1 q.1 = .ok q.2 := by decide +kernel
theorem hb_d215_2 : ∀ q ∈ hb_c215_2, decode hb_h215.2.1 q.1 = .ok q.2 := by decide +kernel
theorem hb_d215_3 : ∀ q ∈ hb_c215_3, decode hb_h215.2.1 q.1 = .ok q.2 := by decide +kernel
theorem hb_g215 : px_bM hb_h215 1728 107 = true := by decide +kernel
theorem hb_o215 : px_okM px_Ts px_Ns hb_cl hb_SL hb_P hb_m215 := ⟨px_bM_ok hb_g215, List.forall_mem_append.mpr ⟨hb_d215_0, List.forall_mem_append.mpr ⟨hb_d215_1, List.forall_mem_append.mpr ⟨hb_d215_2, hb_d215_3⟩⟩⟩, px_bL_ok hb_l12⟩
theorem hb_d216_0 : ∀ q ∈ hb_c216_0, decode hb_h216.2.1 q.1 = .ok q.2 := by decide +kernel
theorem hb_g216 : px_bM hb_h216 1720 107 = true := by decide +kernel
theorem hb_o216 : px_okM px_Ts px_Ns hb_cl hb_SL hb_P hb_m216 := ⟨px_bM_ok hb_g216, hb_d216_0, px_bL_ok hb_l12⟩
theorem hb_d217_0 : ∀ q ∈ hb_c217_0, decode hb_h217.2.1 q.1 = .ok q.2 := by decide +kernel
theorem hb_d217_1 : ∀ q ∈ hb_c217_1, decode hb_h217.2.1 q.1 = .ok q.2 := by decide +kernel
theorem hb_d217_2 : ∀ q ∈ hb_c217_2, decode hb_h217.2.1 q.1 = .ok q.2 := by decide +kernel
theorem hb_g217 : px_bM hb_h217 1736 107 = true := by decide +kernel
theorem hb_o217 : px_okM px_Ts px_Ns hb_cl hb_SL hb_P hb_m217 := ⟨px_bM_ok hb_g217, List.forall_mem_append.mpr ⟨hb_d217_0, List.forall_mem_append.mpr ⟨hb_d217_1, hb_d217_2⟩⟩, px_bL_ok hb_l12⟩
theorem hb_d218_0 : ∀ q ∈ hb_c218_0, decode hb_h218.2.1 q.1 = .ok q.2 := by decide +kernel
theorem hb_g218 : px_bM hb_h218 1732 107 = true := by decide +kernel
theorem hb_o218 : px_okM px_Ts px_Ns hb_cl hb_SL hb_P hb_m218 := ⟨px_bM_ok hb_g218, hb_d218_0, px_bL_ok hb_l12⟩
theorem hb_d219_0 : ∀ q ∈ hb_c219_0, decode hb_h219.2.1 q.1 = .ok q.2 := by decide +kernel
theorem hb_d219_1 : ∀ q ∈ hb_c219_1, decode hb_h219.2.1 q.1 = .ok q.2 := by decide +kernel
theorem hb_d219_2 : ∀ q ∈ hb_c219_2, decode hb_h219.2.1 q.1 = .ok q.2 := by decide +kernel
theorem hb_g219 : px_bM hb_h219 1744 107 = true := by decide +kernel
theorem hb_o219 : px_okM px_Ts px_Ns hb_cl hb_SL hb_P hb_m219 := ⟨px_bM_ok hb_g219, List.forall_mem_append.mpr ⟨hb_d219_0, List.forall_mem_append.mpr ⟨hb_d219_1, hb_d219_2⟩⟩, px_bL_ok hb_l12⟩
theorem hb_d220_0 : ∀ q ∈ hb_c220_0, decode hb_h220.2.1 q.1 = .ok q.2 := by decide +kernel
theorem hb_d220_1 : ∀ q ∈ hb_c220_1, decode hb_h220.2.1 q.1 = .ok q.2 := by decide +kernel
theorem hb_d220_2 : ∀ q ∈ hb_c220_2, decode hb_h220.2.1 q.1 = .ok q.2 := by decide +kernel
theorem hb_g220 : px_bM hb_h220 1740 107 = true := by decide +kernel
theorem hb_o220 : px_okM px_Ts px_Ns hb_cl hb_SL hb_P hb_m220 := ⟨px_bM_ok hb_g220, List.forall_mem_append.mpr ⟨hb_d220_0, List.forall_mem_append.mpr ⟨hb_d220_1, hb_d220_2⟩⟩, px_bL_ok hb_l12⟩
theorem hb_d221_0 : ∀ q ∈ hb_c221_0, decode hb_h221.2.1 q.1 = .ok q.2 := by decide +kernel
theorem hb_g221 : px_bM hb_h221 1752 107 = true := by decide +kernel
theorem hb_o221 : px_okM px_Ts px_Ns hb_cl hb_SL hb_P hb_m221 := ⟨px_bM_ok hb_g221, hb_d221_0, px_bL_ok hb_l12⟩
theorem hb_d222_0 : ∀ q ∈ hb_c222_0, decode hb_h222.2.1 q.1 = .ok q.2 := by decide +kernel
theorem hb_g222 : px_bM hb_h222 1748 107 = true := by decide +kernel
theorem hb_o222 : px_okM px_Ts px_Ns hb_cl hb_SL hb_P hb_m222 := ⟨px_bM_ok hb_g222, hb_d222_0, px_bL_ok hb_l12⟩
theorem hb_d223_0 : ∀ q ∈ hb_c223_0, decode hb_h223.2.1 q.1 = .ok q.2 := by decide +kernel
theorem hb_g223 : px_bM hb_h223 1756 107 = true := by decide +kernel
theorem hb_o223 : px_okM px_Ts px_Ns hb_cl hb_SL hb_P hb_m223 := ⟨px_bM_ok hb_g223, hb_d223_0, px_bL_ok hb_l12⟩

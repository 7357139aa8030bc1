theorem hb_d200_0 : ∀ q ∈ hb_c200_0, decode hb_h200.2.1 q.1 = .ok q.2 := by decide +kernel
theorem hb_g200 : px_bM hb_h200 1673 107 = true := by decide +kernel
theorem hb_o200 : px_okM px_Ts px_Ns hb_cl hb_SL hb_P hb_m200 := ⟨px_bM_ok hb_g200, hb_d200_0, px_bL_ok hb_l12⟩
theorem hb_d201_0 : ∀ q ∈ hb_c201_0, decode hb_h201.2.1 q.1 = .ok q.2 := by decide +kernel
theorem hb_d201_1 : ∀ q ∈ hb_c201_1, decode hb_h201.2.1 q.1 = .ok q.2 := by decide +kernel
theorem hb_g201 : px_bM hb_h201 1681 107 = true := by decide +kernel
theorem hb_o201 : px_okM px_Ts px_Ns hb_cl hb_SL hb_P hb_m201 := ⟨px_bM_ok hb_g201, List.forall_mem_append.mpr ⟨hb_d201_0, hb_d201_1⟩, px_bL_ok hb_l12⟩
theorem hb_d202_0 : ∀ q ∈ hb_c202_0, decode hb_h202.2.1 q.1 = .ok q.2 := by decide +kernel
theorem hb_d202_1 : ∀ q ∈ hb_c202_1, decode hb_h202.2.1 q.1 = .ok q.2 := by decide +kernel
theorem hb_g202 : px_bM hb_h202 1677 107 = true := by decide +kernel
theorem hb_o202 : px_okM px_Ts px_Ns hb_cl hb_SL hb_P hb_m202 := ⟨px_bM_ok hb_g202, List.forall_mem_append.mpr ⟨hb_d202_0, hb_d202_1⟩, px_bL_ok hb_l12⟩
theorem hb_d203_0 : ∀ q ∈ hb_c203_0, decode hb_h203.2.1 q.1 = .ok q.2 := by decide +kernel
theorem hb_g203 : px_bM hb_h203 1670 107 = true := by decide +kernel
theorem hb_o203 : px_okM px_Ts px_Ns hb_cl hb_SL hb_P hb_m203 := ⟨px_bM_ok hb_g203, hb_d203_0, px_bL_ok hb_l12⟩
theorem hb_d204_0 : ∀ q ∈ hb_c204_0, decode hb_h204.2.1 q.1 = .ok q.2 := by decide +kernel
theorem hb_g204 : px_bM hb_h204 1666 107 = true := by decide +kernel
theorem hb_o204 : px_okM px_Ts px_Ns hb_cl hb_SL hb_P hb_m204 := ⟨px_bM_ok hb_g204, hb_d204_0, px_bL_ok hb_l12⟩
theorem hb_d205_0 : ∀ q ∈ hb_c205_0, decode hb_h205.2.1 q.1 = .ok q.2 := by decide +kernel
theorem hb_g205 : px_bM hb_h205 1688 107 = true := by decide +kernel
theorem hb_o205 : px_okM px_Ts px_Ns hb_cl hb_SL hb_P hb_m205 := ⟨px_bM_ok hb_g205, hb_d205_0, px_bL_ok hb_l12⟩
theorem hb_d206_0 : ∀ q ∈ hb_c206_0, decode hb_h206.2.1 q.1 = .ok q.2 := by decide +kernel
theorem hb_d206_1 : ∀ q ∈ hb_c206_1, decode hb_h206.2.1 q.1 = .ok q.2 := by decide +kernel
theorem hb_g206 : px_bM hb_h206 1685 107 = true := by decide +kernel
theorem hb_o206 : px_okM px_Ts px_Ns hb_cl hb_SL hb_P hb_m206 := ⟨px_bM_ok hb_g206, List.forall_mem_append.mpr ⟨hb_d206_0, hb_d206_1⟩, px_bL_ok hb_l12⟩
theorem hb_d207_0 : ∀ q ∈ hb_c207_0, decode hb_h207.2.1 q.1 = .ok q.2 := by decide +kernel
theorem hb_d207_1 : ∀ q ∈ hb_c207_1, decode hb_h207.2.1 q.1 = .ok q.2 := by decide +kernel
theorem hb_g207 : px_bM hb_h207 1695 107 = true := by decide +kernel
theorem hb_o207 : px_okM px_Ts px_Ns hb_cl hb_SL hb_P hb_m207 := ⟨px_bM_ok hb_g207, List.forall_mem_append.mpr ⟨hb_d207_0, hb_d207_1⟩, px_bL_ok hb_l12⟩
theorem hb_d208_0 : ∀ q ∈ hb_c208_0, decode hb_h208.2.1 q.1 = .ok q.2 := by decide +kernel
theorem hb_g208 : px_bM hb_h208 1703 107 = true := by decide +kernel
theorem hb_o208 : px_okM px_Ts px_Ns hb_cl hb_SL hb_P hb_m208 := ⟨px_bM_ok hb_g208, hb_d208_0, px_bL_ok hb_l12⟩
theorem hb_d209_0 : ∀ q ∈ hb_c209_0, decode hb_h209.2.1 q.1 = .ok q.2 := by decide +kernel
theorem hb_d209_1 : ∀ q ∈ hb_c209_1, decode hb_h209.2.1 q.1 = .ok q.2 := by decide +kernel
theorem hb_d209_2 : ∀ q ∈ hb_c209_2, decode hb_h209.2.1 q.1 = .ok q.2 := by decide +kernel
theorem hb_g209 : px_bM hb_h209 1707 107 = true := by decide +kernel
theorem hb_o209 : px_okM px_Ts px_Ns hb_cl hb_SL hb_P hb_m209 := ⟨px_bM_ok hb_g209, List.forall_mem_append.mpr ⟨hb_d209_0, List.forall_mem_append.mpr ⟨hb_d209_1, hb_d209_2⟩⟩, px_bL_ok hb_l12⟩
theorem hb_d210_0 : ∀ q ∈ hb_c210_0, decode hb_h210.2.1 q.1 = .ok q.2 := by decide +kernel
theorem hb_g210 : px_bM hb_h210 1712 107 = true := by decide +kernel
theorem hb_o210 : px_okM px_Ts px_Ns hb_cl hb_SL hb_P hb_m210 := ⟨px_bM_ok hb_g210, hb_d210_0, px_bL_ok hb_l12⟩
theorem hb_d211_0 : ∀ q ∈ hb_c211_0, decode hb_h211.2.1 q.1 = .ok q.2 := by decide +kernel
theorem hb_g211 : px_bM hb_h211 1699 107 = true := by decide +kernel
theorem hb_o211 : px_okM px_Ts px_Ns hb_cl hb_SL hb_P hb_m211 := ⟨px_bM_ok hb_g211, hb_d211_0, px_bL_ok hb_l12⟩

noncomputable section
theorem hb_d200_0 : ∀ q ∈ hb_c200_0, decode hb_h200.2.1 q.1 = .ok q.2 := px_rwc_ok (by decide +kernel)
theorem hb_d200_1 : ∀ q ∈ hb_c200_1, decode hb_h200.2.1 q.1 = .ok q.2 := px_rwc_ok (by decide +kernel)
theorem hb_d200_2 : ∀ q ∈ hb_c200_2, decode hb_h200.2.1 q.1 = .ok q.2 := px_rwc_ok (by decide +kernel)
set_option maxRecDepth 100000 in
theorem hb_w200 : lw_tbl[1673]? = some (Cond.code hb_h200.1 hb_h200.2.1 hb_h200.2.2.1 hb_h200.2.2.2.1) := by rfl
theorem hb_g200 : px_bM hb_h200 107 = true := by decide +kernel
set_option maxRecDepth 100000 in
theorem hb_o200 : px_okM px_Ts px_Ns hb_cl hb_SL hb_P hb_m200 := ⟨px_bM_ok hb_w200 hb_g200, List.forall_mem_append.mpr ⟨hb_d200_0, List.forall_mem_append.mpr ⟨hb_d200_1, hb_d200_2⟩⟩, px_bL_ok hb_l12⟩
theorem hb_d201_0 : ∀ q ∈ hb_c201_0, decode hb_h201.2.1 q.1 = .ok q.2 := px_rwc_ok (by decide +kernel)
theorem hb_d201_1 : ∀ q ∈ hb_c201_1, decode hb_h201.2.1 q.1 = .ok q.2 := px_rwc_ok (by decide +kernel)
theorem hb_d201_2 : ∀ q ∈ hb_c201_2, decode hb_h201.2.1 q.1 = .ok q.2 := px_rwc_ok (by decide +kernel)
theorem hb_d201_3 : ∀ q ∈ hb_c201_3, decode hb_h201.2.1 q.1 = .ok q.2 := px_rwc_ok (by decide +kernel)
theorem hb_d201_4 : ∀ q ∈ hb_c201_4, decode hb_h201.2.1 q.1 = .ok q.2 := px_rwc_ok (by decide +kernel)
theorem hb_d201_5 : ∀ q ∈ hb_c201_5, decode hb_h201.2.1 q.1 = .ok q.2 := px_rwc_ok (by decide +kernel)
theorem hb_d201_6 : ∀ q ∈ hb_c201_6, decode hb_h201.2.1 q.1 = .ok q.2 := px_rwc_ok (by decide +kernel)
set_option maxRecDepth 100000 in
theorem hb_w201 : lw_tbl[1681]? = some (Cond.code hb_h201.1 hb_h201.2.1 hb_h201.2.2.1 hb_h201.2.2.2.1) := by rfl
theorem hb_g201 : px_bM hb_h201 107 = true := by decide +kernel
set_option maxRecDepth 100000 in
theorem hb_o201 : px_okM px_Ts px_Ns hb_cl hb_SL hb_P hb_m201 := ⟨px_bM_ok hb_w201 hb_g201, List.forall_mem_append.mpr ⟨hb_d201_0, List.forall_mem_append.mpr ⟨hb_d201_1, List.forall_mem_append.mpr ⟨hb_d201_2, List.forall_mem_append.mpr ⟨hb_d201_3, List.forall_mem_append.mpr ⟨hb_d201_4, List.forall_mem_append.mpr ⟨hb_d201_5, hb_d201_6⟩⟩⟩⟩⟩⟩, px_bL_ok hb_l12⟩
theorem hb_d202_0 : ∀ q ∈ hb_c202_0, decode hb_h202.2.1 q.1 = .ok q.2 := px_rwc_ok (by decide +kernel)
theorem hb_d202_1 : ∀ q ∈ hb_c202_1, decode hb_h202.2.1 q.1 = .ok q.2 := px_rwc_ok (by decide +kernel)
theorem hb_d202_2 : ∀ q ∈ hb_c202_2, decode hb_h202.2.1 q.1 = .ok q.2 := px_rwc_ok (by decide +kernel)
theorem hb_d202_3 : ∀ q ∈ hb_c202_3, decode hb_h202.2.1 q.1 = .ok q.2 := px_rwc_ok (by decide +kernel)
theorem hb_d202_4 : ∀ q ∈ hb_c202_4, decode hb_h202.2.1 q.1 = .ok q.2 := px_rwc_ok (by decide +kernel)
theorem hb_d202_5 : ∀ q ∈ hb_c202_5, decode hb_h202.2.1 q.1 = .ok q.2 := px_rwc_ok (by decide +kernel)
theorem hb_d202_6 : ∀ q ∈ hb_c202_6, decode hb_h202.2.1 q.1 = .ok q.2 := px_rwc_ok (by decide +kernel)
theorem hb_d202_7 : ∀ q ∈ hb_c202_7, decode hb_h202.2.1 q.1 = .ok q.2 := px_rwc_ok (by decide +kernel)
theorem hb_d202_8 : ∀ q ∈ hb_c202_8, decode hb_h202.2.1 q.1 = .ok q.2 := px_rwc_ok (by decide +kernel)
set_option maxRecDepth 100000 in
theorem hb_w202 : lw_tbl[1677]? = some (Cond.code hb_h202.1 hb_h202.2.1 hb_h202.2.2.1 hb_h202.2.2.2.1) := by rfl
theorem hb_g202 : px_bM hb_h202 107 = true := by decide +kernel
set_option maxRecDepth 100000 in
theorem hb_o202 : px_okM px_Ts px_Ns hb_cl hb_SL hb_P hb_m202 := ⟨px_bM_ok hb_w202 hb_g202, List.forall_mem_append.mpr ⟨hb_d202_0, List.forall_mem_append.mpr ⟨hb_d202_1, List.forall_mem_append.mpr ⟨hb_d202_2, List.forall_mem_append.mpr ⟨hb_d202_3, List.forall_mem_append.mpr ⟨hb_d202_4, List.forall_mem_append.mpr ⟨hb_d202_5, List.forall_mem_append.mpr ⟨hb_d202_6, List.forall_mem_append.mpr ⟨hb_d202_7, hb_d202_8⟩⟩⟩⟩⟩⟩⟩⟩, px_bL_ok hb_l12⟩
theorem hb_d203_0 : ∀ q ∈ hb_c203_0, decode hb_h203.2.1 q.1 = .ok q.2 := px_rwc_ok (by decide +kernel)
theorem hb_d203_1 : ∀ q ∈ hb_c203_1, decode hb_h203.2.1 q.1 = .ok q.2 := px_rwc_ok (by decide +kernel)
theorem hb_d203_2 : ∀ q ∈ hb_c203_2, decode hb_h203.2.1 q.1 = .ok q.2 := px_rwc_ok (by decide +kernel)
theorem hb_d203_3 : ∀ q ∈ hb_c203_3, decode hb_h203.2.1 q.1 = .ok q.2 := px_rwc_ok (by decide +kernel)
theorem hb_d203_4 : ∀ q ∈ hb_c203_4, decode hb_h203.2.1 q.1 = .ok q.2 := px_rwc_ok (by decide +kernel)
set_option maxRecDepth 100000 in
theorem hb_w203 : lw_tbl[1670]? = some (Cond.code hb_h203.1 hb_h203.2.1 hb_h203.2.2.1 hb_h203.2.2.2.1) := by rfl
theorem hb_g203 : px_bM hb_h203 107 = true := by decide +kernel
set_option maxRecDepth 100000 in
theorem hb_o203 : px_okM px_Ts px_Ns hb_cl hb_SL hb_P hb_m203 := ⟨px_bM_ok hb_w203 hb_g203, List.forall_mem_append.mpr ⟨hb_d203_0, List.forall_mem_append.mpr ⟨hb_d203_1, List.forall_mem_append.mpr ⟨hb_d203_2, List.forall_mem_append.mpr ⟨hb_d203_3, hb_d203_4⟩⟩⟩⟩, px_bL_ok hb_l12⟩
theorem hb_d204_0 : ∀ q ∈ hb_c204_0, decode hb_h204.2.1 q.1 = .ok q.2 := px_rwc_ok (by decide +kernel)
theorem hb_d204_1 : ∀ q ∈ hb_c204_1, decode hb_h204.2.1 q.1 = .ok q.2 := px_rwc_ok (by decide +kernel)
theorem hb_d204_2 : ∀ q ∈ hb_c204_2, decode hb_h204.2.1 q.1 = .ok q.2 := px_rwc_ok (by decide +kernel)
set_option maxRecDepth 100000 in
theorem hb_w204 : lw_tbl[1666]? = some (Cond.code hb_h204.1 hb_h204.2.1 hb_h204.2.2.1 hb_h204.2.2.2.1) := by rfl
theorem hb_g204 : px_bM hb_h204 107 = true := by decide +kernel
set_option maxRecDepth 100000 in
theorem hb_o204 : px_okM px_Ts px_Ns hb_cl hb_SL hb_P hb_m204 := ⟨px_bM_ok hb_w204 hb_g204, List.forall_mem_append.mpr ⟨hb_d204_0, List.forall_mem_append.mpr ⟨hb_d204_1, hb_d204_2⟩⟩, px_bL_ok hb_l12⟩
theorem hb_d205_0 : ∀ q ∈ hb_c205_0, decode hb_h205.2.1 q.1 = .ok q.2 := px_rwc_ok (by decide +kernel)
set_option maxRecDepth 100000 in
theorem hb_w205 : lw_tbl[1688]? = some (Cond.code hb_h205.1 hb_h205.2.1 hb_h205.2.2.1 hb_h205.2.2.2.1) := by rfl
theorem hb_g205 : px_bM hb_h205 107 = true := by decide +kernel
set_option maxRecDepth 100000 in
theorem hb_o205 : px_okM px_Ts px_Ns hb_cl hb_SL hb_P hb_m205 := ⟨px_bM_ok hb_w205 hb_g205, hb_d205_0, px_bL_ok hb_l12⟩
theorem hb_d206_0 : ∀ q ∈ hb_c206_0, decode hb_h206.2.1 q.1 = .ok q.2 := px_rwc_ok (by decide +kernel)
theorem hb_d206_1 : ∀ q ∈ hb_c206_1, decode hb_h206.2.1 q.1 = .ok q.2 := px_rwc_ok (by decide +kernel)
theorem hb_d206_2 : ∀ q ∈ hb_c206_2, decode hb_h206.2.1 q.1 = .ok q.2 := px_rwc_ok (by decide +kernel)
theorem hb_d206_3 : ∀ q ∈ hb_c206_3, decode hb_h206.2.1 q.1 = .ok q.2 := px_rwc_ok (by decide +kernel)
theorem hb_d206_4 : ∀ q ∈ hb_c206_4, decode hb_h206.2.1 q.1 = .ok q.2 := px_rwc_ok (by decide +kernel)
theorem hb_d206_5 : ∀ q ∈ hb_c206_5, decode hb_h206.2.1 q.1 = .ok q.2 := px_rwc_ok (by decide +kernel)
theorem hb_d206_6 : ∀ q ∈ hb_c206_6, decode hb_h206.2.1 q.1 = .ok q.2 := px_rwc_ok (by decide +kernel)
theorem hb_d206_7 : ∀ q ∈ hb_c206_7, decode hb_h206.2.1 q.1 = .ok q.2 := px_rwc_ok (by decide +kernel)
theorem hb_d206_8 : ∀ q ∈ hb_c206_8, decode hb_h206.2.1 q.1 = .ok q.2 := px_rwc_ok (by decide +kernel)
theorem hb_d206_9 : ∀ q ∈ hb_c206_9, decode hb_h206.2.1 q.1 = .ok q.2 := px_rwc_ok (by decide +kernel)
set_option maxRecDepth 100000 in
theorem hb_w206 : lw_tbl[1685]? = some (Cond.code hb_h206.1 hb_h206.2.1 hb_h206.2.2.1 hb_h206.2.2.2.1) := by rfl
theorem hb_g206 : px_bM hb_h206 107 = true := by decide +kernel
set_option maxRecDepth 100000 in
theorem hb_o206 : px_okM px_Ts px_Ns hb_cl hb_SL hb_P hb_m206 := ⟨px_bM_ok hb_w206 hb_g206, List.forall_mem_append.mpr ⟨hb_d206_0, List.forall_mem_append.mpr ⟨hb_d206_1, List.forall_mem_append.mpr ⟨hb_d206_2, List.forall_mem_append.mpr ⟨hb_d206_3, List.forall_mem_append.mpr ⟨hb_d206_4, List.forall_mem_append.mpr ⟨hb_d206_5, List.forall_mem_append.mpr ⟨hb_d206_6, List.forall_mem_append.mpr ⟨hb_d206_7, List.forall_mem_append.mpr ⟨hb_d206_8, hb_d206_9⟩⟩⟩⟩⟩⟩⟩⟩⟩, px_bL_ok hb_l12⟩
theorem hb_d207_0 : ∀ q ∈ hb_c207_0, decode hb_h207.2.1 q.1 = .ok q.2 := px_rwc_ok (by decide +kernel)
theorem hb_d207_1 : ∀ q ∈ hb_c207_1, decode hb_h207.2.1 q.1 = .ok q.2 := px_rwc_ok (by decide +kernel)
theorem hb_d207_2 : ∀ q ∈ hb_c207_2, decode hb_h207.2.1 q.1 = .ok q.2 := px_rwc_ok (by decide +kernel)
theorem hb_d207_3 : ∀ q ∈ hb_c207_3, decode hb_h207.2.1 q.1 = .ok q.2 := px_rwc_ok (by decide +kernel)
theorem hb_d207_4 : ∀ q ∈ hb_c207_4, decode hb_h207.2.1 q.1 = .ok q.2 := px_rwc_ok (by decide +kernel)
theorem hb_d207_5 : ∀ q ∈ hb_c207_5, decode hb_h207.2.1 q.1 = .ok q.2 := px_rwc_ok (by decide +kernel)
theorem hb_d207_6 : ∀ q ∈ hb_c207_6, decode hb_h207.2.1 q.1 = .ok q.2 := px_rwc_ok (by decide +kernel)
theorem hb_d207_7 : ∀ q ∈ hb_c207_7, decode hb_h207.2.1 q.1 = .ok q.2 := px_rwc_ok (by decide +kernel)
theorem hb_d207_8 : ∀ q ∈ hb_c207_8, decode hb_h207.2.1 q.1 = .ok q.2 := px_rwc_ok (by decide +kernel)
theorem hb_d207_9 : ∀ q ∈ hb_c207_9, decode hb_h207.2.1 q.1 = .ok q.2 := px_rwc_ok (by decide +kernel)
set_option maxRecDepth 100000 in
theorem hb_w207 : lw_tbl[1695]? = some (Cond.code hb_h207.1 hb_h207.2.1 hb_h207.2.2.1 hb_h207.2.2.2.1) := by rfl
theorem hb_g207 : px_bM hb_h207 107 = true := by decide +kernel
set_option maxRecDepth 100000 in
theorem hb_o207 : px_okM px_Ts px_Ns hb_cl hb_SL hb_P hb_m207 := ⟨px_bM_ok hb_w207 hb_g207, List.forall_mem_append.mpr ⟨hb_d207_0, List.forall_mem_append.mpr ⟨hb_d207_1, List.forall_mem_append.mpr ⟨hb_d207_2, List.forall_mem_append.mpr ⟨hb_d207_3, List.forall_mem_append.mpr ⟨hb_d207_4, List.forall_mem_append.mpr ⟨hb_d207_5, List.forall_mem_append.mpr ⟨hb_d207_6, List.forall_mem_append.mpr ⟨hb_d207_7, List.forall_mem_append.mpr ⟨hb_d207_8, hb_d207_9⟩⟩⟩⟩⟩⟩⟩⟩⟩, px_bL_ok hb_l12⟩
theorem hb_d208_0 : ∀ q ∈ hb_c208_0, decode hb_h208.2.1 q.1 = .ok q.2 := px_rwc_ok (by decide +kernel)
theorem hb_d208_1 : ∀ q ∈ hb_c208_1, decode hb_h208.2.1 q.1 = .ok q.2 := px_rwc_ok (by decide +kernel)
set_option maxRecDepth 100000 in
theorem hb_w208 : lw_tbl[1703]? = some (Cond.code hb_h208.1 hb_h208.2.1 hb_h208.2.2.1 hb_h208.2.2.2.1) := by rfl
theorem hb_g208 : px_bM hb_h208 107 = true := by decide +kernel
set_option maxRecDepth 100000 in
theorem hb_o208 : px_okM px_Ts px_Ns hb_cl hb_SL hb_P hb_m208 := ⟨px_bM_ok hb_w208 hb_g208, List.forall_mem_append.mpr ⟨hb_d208_0, hb_d208_1⟩, px_bL_ok hb_l12⟩
theorem hb_d209_0 : ∀ q ∈ hb_c209_0, decode hb_h209.2.1 q.1 = .ok q.2 := px_rwc_ok (by decide +kernel)
theorem hb_d209_1 : ∀ q ∈ hb_c209_1, decode hb_h209.2.1 q.1 = .ok q.2 := px_rwc_ok (by decide +kernel)
theorem hb_d209_2 : ∀ q ∈ hb_c209_2, decode hb_h209.2.1 q.1 = .ok q.2 := px_rwc_ok (by decide +kernel)
theorem hb_d209_3 : ∀ q ∈ hb_c209_3, decode hb_h209.2.1 q.1 = .ok q.2 := px_rwc_ok (by decide +kernel)
theorem hb_d209_4 : ∀ q ∈ hb_c209_4, decode hb_h209.2.1 q.1 = .ok q.2 := px_rwc_ok (by decide +kernel)
theorem hb_d209_5 : ∀ q ∈ hb_c209_5, decode hb_h209.2.1 q.1 = .ok q.2 := px_rwc_ok (by decide +kernel)
theorem hb_d209_6 : ∀ q ∈ hb_c209_6, decode hb_h209.2.1 q.1 = .ok q.2 := px_rwc_ok (by decide +kernel)
theorem hb_d209_7 : ∀ q ∈ hb_c209_7, decode hb_h209.2.1 q.1 = .ok q.2 := px_rwc_ok (by decide +kernel)
theorem hb_d209_8 : ∀ q ∈ hb_c209_8, decode hb_h209.2.1 q.1 = .ok q.2 := px_rwc_ok (by decide +kernel)
theorem hb_d209_9 : ∀ q ∈ hb_c209_9, decode hb_h209.2.1 q.1 = .ok q.2 := px_rwc_ok (by decide +kernel)
theorem hb_d209_10 : ∀ q ∈ hb_c209_10, decode hb_h209.2.1 q.1 = .ok q.2 := px_rwc_ok (by decide +kernel)
theorem hb_d209_11 : ∀ q ∈ hb_c209_11, decode hb_h209.2.1 q.1 = .ok q.2 := px_rwc_ok (by decide +kernel)
theorem hb_d209_12 : ∀ q ∈ hb_c209_12, decode hb_h209.2.1 q.1 = .ok q.2 := px_rwc_ok (by decide +kernel)
theorem hb_d209_13 : ∀ q ∈ hb_c209_13, decode hb_h209.2.1 q.1 = .ok q.2 := px_rwc_ok (by decide +kernel)
set_option maxRecDepth 100000 in
theorem hb_w209 : lw_tbl[1707]? = some (Cond.code hb_h209.1 hb_h209.2.1 hb_h209.2.2.1 hb_h209.2.2.2.1) := by rfl
theorem hb_g209 : px_bM hb_h209 107 = true := by decide +kernel
set_option maxRecDepth 100000 in
theorem hb_o209 : px_okM px_Ts px_Ns hb_cl hb_SL hb_P hb_m209 := ⟨px_bM_ok hb_w209 hb_g209, List.forall_mem_append.mpr ⟨hb_d209_0, List.forall_mem_append.mpr ⟨hb_d209_1, List.forall_mem_append.mpr ⟨hb_d209_2, List.forall_mem_append.mpr ⟨hb_d209_3, List.forall_mem_append.mpr ⟨hb_d209_4, List.forall_mem_append.mpr ⟨hb_d209_5, List.forall_mem_append.mpr ⟨hb_d209_6, List.forall_mem_append.mpr ⟨hb_d209_7, List.forall_mem_append.mpr ⟨hb_d209_8, List.forall_mem_append.mpr ⟨hb_d209_9, List.forall_mem_append.mpr ⟨hb_d209_10, List.forall_mem_append.mpr ⟨hb_d209_11, List.forall_mem_append.mpr ⟨hb_d209_12, hb_d209_13⟩⟩⟩⟩⟩⟩⟩⟩⟩⟩⟩⟩⟩, px_bL_ok hb_l12⟩
theorem hb_d210_0 : ∀ q ∈ hb_c210_0, decode hb_h210.2.1 q.1 = .ok q.2 := px_rwc_ok (by decide +kernel)
theorem hb_d210_1 : ∀ q ∈ hb_c210_1, decode hb_h210.2.1 q.1 = .ok q.2 := px_rwc_ok (by decide +kernel)
theorem hb_d210_2 : ∀ q ∈ hb_c210_2, decode hb_h210.2.1 q.1 = .ok q.2 := px_rwc_ok (by decide +kernel)
theorem hb_d210_3 : ∀ q ∈ hb_c210_3, decode hb_h210.2.1 q.1 = .ok q.2 := px_rwc_ok (by decide +kernel)
theorem hb_d210_4 : ∀ q ∈ hb_c210_4, decode hb_h210.2.1 q.1 = .ok q.2 := px_rwc_ok (by decide +kernel)
set_option maxRecDepth 100000 in
theorem hb_w210 : lw_tbl[1712]? = some (Cond.code hb_h210.1 hb_h210.2.1 hb_h210.2.2.1 hb_h210.2.2.2.1) := by rfl
theorem hb_g210 : px_bM hb_h210 107 = true := by decide +kernel
set_option maxRecDepth 100000 in
theorem hb_o210 : px_okM px_Ts px_Ns hb_cl hb_SL hb_P hb_m210 := ⟨px_bM_ok hb_w210 hb_g210, List.forall_mem_append.mpr ⟨hb_d210_0, List.forall_mem_append.mpr ⟨hb_d210_1, List.forall_mem_append.mpr ⟨hb_d210_2, List.forall_mem_append.mpr ⟨hb_d210_3, hb_d210_4⟩⟩⟩⟩, px_bL_ok hb_l12⟩
theorem hb_d211_0 : ∀ q ∈ hb_c211_0, decode hb_h211.2.1 q.1 = .ok q.2 := px_rwc_ok (by decide +kernel)
theorem hb_d211_1 : ∀ q ∈ hb_c211_1, decode hb_h211.2.1 q.1 = .ok q.2 := px_rwc_ok (by decide +kernel)
theorem hb_d211_2 : ∀ q ∈ hb_c211_2, decode hb_h211.2.1 q.1 = .ok q.2 := px_rwc_ok (by decide +kernel)
theorem hb_d211_3 : ∀ q ∈ hb_c211_3, decode hb_h211.2.1 q.1 = .ok q.2 := px_rwc_ok (by decide +kernel)
set_option maxRecDepth 100000 in
theorem hb_w211 : lw_tbl[1699]? = some (Cond.code hb_h211.1 hb_h211.2.1 hb_h211.2.2.1 hb_h211.2.2.2.1) := by rfl
theorem hb_g211 : px_bM hb_h211 107 = true := by decide +kernel
set_option maxRecDepth 100000 in
theorem hb_o211 : px_okM px_Ts px_Ns hb_cl hb_SL hb_P hb_m211 := ⟨px_bM_ok hb_w211 hb_g211, List.forall_mem_append.mpr ⟨hb_d211_0, List.forall_mem_append.mpr ⟨hb_d211_1, List.forall_mem_append.mpr ⟨hb_d211_2, hb_d211_3⟩⟩⟩, px_bL_ok hb_l12⟩
theorem hb_d212_0 : ∀ q ∈ hb_c212_0, decode hb_h212.2.1 q.1 = .ok q.2 := px_rwc_ok (by decide +kernel)
theorem hb_d212_1 : ∀ q ∈ hb_c212_1, decode hb_h212.2.1 q.1 = .ok q.2 := px_rwc_ok (by decide +kernel)
theorem hb_d212_2 : ∀ q ∈ hb_c212_2, decode hb_h212.2.1 q.1 = .ok q.2 := px_rwc_ok (by decide +kernel)
theorem hb_d212_3 : ∀ q ∈ hb_c212_3, decode hb_h212.2.1 q.1 = .ok q.2 := px_rwc_ok (by decide +kernel)
theorem hb_d212_4 : ∀ q ∈ hb_c212_4, decode hb_h212.2.1 q.1 = .ok q.2 := px_rwc_ok (by decide +kernel)
theorem hb_d212_5 : ∀ q ∈ hb_c212_5, decode hb_h212.2.1 q.1 = .ok q.2 := px_rwc_ok (by decide +kernel)
theorem hb_d212_6 : ∀ q ∈ hb_c212_6, decode hb_h212.2.1 q.1 = .ok q.2 := px_rwc_ok (by decide +kernel)
theorem hb_d212_7 : ∀ q ∈ hb_c212_7, decode hb_h212.2.1 q.1 = .ok q.2 := px_rwc_ok (by decide +kernel)
theorem hb_d212_8 : ∀ q ∈ hb_c212_8, decode hb_h212.2.1 q.1 = .ok q.2 := px_rwc_ok (by decide +kernel)
theorem hb_d212_9 : ∀ q ∈ hb_c212_9, decode hb_h212.2.1 q.1 = .ok q.2 := px_rwc_ok (by decide +kernel)
set_option maxRecDepth 100000 in
theorem hb_w212 : lw_tbl[1716]? = some (Cond.code hb_h212.1 hb_h212.2.1 hb_h212.2.2.1 hb_h212.2.2.2.1) := by rfl
theorem hb_g212 : px_bM hb_h212 107 = true := by decide +kernel
set_option maxRecDepth 100000 in
theorem hb_o212 : px_okM px_Ts px_Ns hb_cl hb_SL hb_P hb_m212 := ⟨px_bM_ok hb_w212 hb_g212, List.forall_mem_append.mpr ⟨hb_d212_0, List.forall_mem_append.mpr ⟨hb_d212_1, List.forall_mem_append.mpr ⟨hb_d212_2, List.forall_mem_append.mpr ⟨hb_d212_3, List.forall_mem_append.mpr ⟨hb_d212_4, List.forall_mem_append.mpr ⟨hb_d212_5, List.forall_mem_append.mpr ⟨hb_d212_6, List.forall_mem_append.mpr ⟨hb_d212_7, List.forall_mem_append.mpr ⟨hb_d212_8, hb_d212_9⟩⟩⟩⟩⟩⟩⟩⟩⟩, px_bL_ok hb_l12⟩
theorem hb_d213_0 : ∀ q ∈ hb_c213_0, decode hb_h213.2.1 q.1 = .ok q.2 := px_rwc_ok (by decide +kernel)
theorem hb_d213_1 : ∀ q ∈ hb_c213_1, decode hb_h213.2.1 q.1 = .ok q.2 := px_rwc_ok (by decide +kernel)
set_option maxRecDepth 100000 in
theorem hb_w213 : lw_tbl[1764]? = some (Cond.code hb_h213.1 hb_h213.2.1 hb_h213.2.2.1 hb_h213.2.2.2.1) := by rfl
theorem hb_g213 : px_bM hb_h213 107 = true := by decide +kernel
set_option maxRecDepth 100000 in
theorem hb_o213 : px_okM px_Ts px_Ns hb_cl hb_SL hb_P hb_m213 := ⟨px_bM_ok hb_w213 hb_g213, List.forall_mem_append.mpr ⟨hb_d213_0, hb_d213_1⟩, px_bL_ok hb_l12⟩
theorem hb_d214_0 : ∀ q ∈ hb_c214_0, decode hb_h214.2.1 q.1 = .ok q.2 := px_rwc_ok (by decide +kernel)
theorem hb_d214_1 : ∀ q ∈ hb_c214_1, decode hb_h214.2.1 q.1 = .ok q.2 := px_rwc_ok (by decide +kernel)
theorem hb_d214_2 : ∀ q ∈ hb_c214_2, decode hb_h214.2.1 q.1 = .ok q.2 := px_rwc_ok (by decide +kernel)
theorem hb_d214_3 : ∀ q ∈ hb_c214_3, decode hb_h214.2.1 q.1 = .ok q.2 := px_rwc_ok (by decide +kernel)
set_option maxRecDepth 100000 in
theorem hb_w214 : lw_tbl[1724]? = some (Cond.code hb_h214.1 hb_h214.2.1 hb_h214.2.2.1 hb_h214.2.2.2.1) := by rfl
theorem hb_g214 : px_bM hb_h214 107 = true := by decide +kernel
set_option maxRecDepth 100000 in
theorem hb_o214 : px_okM px_Ts px_Ns hb_cl hb_SL hb_P hb_m214 := ⟨px_bM_ok hb_w214 hb_g214, List.forall_mem_append.mpr ⟨hb_d214_0, List.forall_mem_append.mpr ⟨hb_d214_1, List.forall_mem_append.mpr ⟨hb_d214_2, hb_d214_3⟩⟩⟩, px_bL_ok hb_l12⟩
theorem hb_d215_0 : ∀ q ∈ hb_c215_0, decode hb_h215.2.1 q.1 = .ok q.2 := px_rwc_ok (by decide +kernel)
theorem hb_d215_1 : ∀ q ∈ hb_c215_1, decode hb_h215.2.1 q.1 = .ok q.2 := px_rwc_ok (by decide +kernel)
theorem hb_d215_2 : ∀ q ∈ hb_c215_2, decode hb_h215.2.1 q.1 = .ok q.2 := px_rwc_ok (by decide +kernel)
theorem hb_d215_3 : ∀ q ∈ hb_c215_3, decode hb_h215.2.1 q.1 = .ok q.2 := px_rwc_ok (by decide +kernel)
theorem hb_d215_4 : ∀ q ∈ hb_c215_4, decode hb_h215.2.1 q.1 = .ok q.2 := px_rwc_ok (by decide +kernel)
theorem hb_d215_5 : ∀ q ∈ hb_c215_5, decode hb_h215.2.1 q.1 = .ok q.2 := px_rwc_ok (by decide +kernel)
theorem hb_d215_6 : ∀ q ∈ hb_c215_6, decode hb_h215.2.1 q.1 = .ok q.2 := px_rwc_ok (by decide +kernel)
theorem hb_d215_7 : ∀ q ∈ hb_c215_7, decode hb_h215.2.1 q.1 = .ok q.2 := px_rwc_ok (by decide +kernel)
theorem hb_d215_8 : ∀ q ∈ hb_c215_8, decode hb_h215.2.1 q.1 = .ok q.2 := px_rwc_ok (by decide +kernel)
theorem hb_d215_9 : ∀ q ∈ hb_c215_9, decode hb_h215.2.1 q.1 = .ok q.2 := px_rwc_ok (by decide +kernel)
theorem hb_d215_10 : ∀ q ∈ hb_c215_10, decode hb_h215.2.1 q.1 = .ok q.2 := px_rwc_ok (by decide +kernel)
theorem hb_d215_11 : ∀ q ∈ hb_c215_11, decode hb_h215.2.1 q.1 = .ok q.2 := px_rwc_ok (by decide +kernel)
theorem hb_d215_12 : ∀ q ∈ hb_c215_12, decode hb_h215.2.1 q.1 = .ok q.2 := px_rwc_ok (by decide +kernel)
theorem hb_d215_13 : ∀ q ∈ hb_c215_13, decode hb_h215.2.1 q.1 = .ok q.2 := px_rwc_ok (by decide +kernel)
theorem hb_d215_14 : ∀ q ∈ hb_c215_14, decode hb_h215.2.1 q.1 = .ok q.2 := px_rwc_ok (by decide +kernel)
theorem hb_d215_15 : ∀ q ∈ hb_c215_15, decode hb_h215.2.1 q.1 = .ok q.2 := px_rwc_ok (by decide +kernel)
set_option maxRecDepth 100000 in
theorem hb_w215 : lw_tbl[1728]? = some (Cond.code hb_h215.1 hb_h215.2.1 hb_h215.2.2.1 hb_h215.2.2.2.1) := by rfl
theorem hb_g215 : px_bM hb_h215 107 = true := by decide +kernel
set_option maxRecDepth 100000 in
theorem hb_o215 : px_okM px_Ts px_Ns hb_cl hb_SL hb_P hb_m215 := ⟨px_bM_ok hb_w215 hb_g215, List.forall_mem_append.mpr ⟨hb_d215_0, List.forall_mem_append.mpr ⟨hb_d215_1, List.forall_mem_append.mpr ⟨hb_d215_2, List.forall_mem_append.mpr ⟨hb_d215_3, List.forall_mem_append.mpr ⟨hb_d215_4, List.forall_mem_append.mpr ⟨hb_d215_5, List.forall_mem_append.mpr ⟨hb_d215_6, List.forall_mem_append.mpr ⟨hb_d215_7, List.forall_mem_append.mpr ⟨hb_d215_8, List.forall_mem_append.mpr ⟨hb_d215_9, List.forall_mem_append.mpr ⟨hb_d215_10, List.forall_mem_append.mpr ⟨hb_d215_11, List.forall_mem_append.mpr ⟨hb_d215_12, List.forall_mem_append.mpr ⟨hb_d215_13, List.forall_mem_append.mpr ⟨hb_d215_14, hb_d215_15⟩⟩⟩⟩⟩⟩⟩⟩⟩⟩⟩⟩⟩⟩⟩, px_bL_ok hb_l12⟩
theorem hb_d216_0 : ∀ q ∈ hb_c216_0, decode hb_h216.2.1 q.1 = .ok q.2 := px_rwc_ok (by decide +kernel)
theorem hb_d216_1 : ∀ q ∈ hb_c216_1, decode hb_h216.2.1 q.1 = .ok q.2 := px_rwc_ok (by decide +kernel)
set_option maxRecDepth 100000 in
theorem hb_w216 : lw_tbl[1720]? = some (Cond.code hb_h216.1 hb_h216.2.1 hb_h216.2.2.1 hb_h216.2.2.2.1) := by rfl
theorem hb_g216 : px_bM hb_h216 107 = true := by decide +kernel
set_option maxRecDepth 100000 in
theorem hb_o216 : px_okM px_Ts px_Ns hb_cl hb_SL hb_P hb_m216 := ⟨px_bM_ok hb_w216 hb_g216, List.forall_mem_append.mpr ⟨hb_d216_0, hb_d216_1⟩, px_bL_ok hb_l12⟩
theorem hb_d217_0 : ∀ q ∈ hb_c217_0, decode hb_h217.2.1 q.1 = .ok q.2 := px_rwc_ok (by decide +kernel)
theorem hb_d217_1 : ∀ q ∈ hb_c217_1, decode hb_h217.2.1 q.1 = .ok q.2 := px_rwc_ok (by decide +kernel)
theorem hb_d217_2 : ∀ q ∈ hb_c217_2, decode hb_h217.2.1 q.1 = .ok q.2 := px_rwc_ok (by decide +kernel)
theorem hb_d217_3 : ∀ q ∈ hb_c217_3, decode hb_h217.2.1 q.1 = .ok q.2 := px_rwc_ok (by decide +kernel)
theorem hb_d217_4 : ∀ q ∈ hb_c217_4, decode hb_h217.2.1 q.1 = .ok q.2 := px_rwc_ok (by decide +kernel)
theorem hb_d217_5 : ∀ q ∈ hb_c217_5, decode hb_h217.2.1 q.1 = .ok q.2 := px_rwc_ok (by decide +kernel)
theorem hb_d217_6 : ∀ q ∈ hb_c217_6, decode hb_h217.2.1 q.1 = .ok q.2 := px_rwc_ok (by decide +kernel)
theorem hb_d217_7 : ∀ q ∈ hb_c217_7, decode hb_h217.2.1 q.1 = .ok q.2 := px_rwc_ok (by decide +kernel)
theorem hb_d217_8 : ∀ q ∈ hb_c217_8, decode hb_h217.2.1 q.1 = .ok q.2 := px_rwc_ok (by decide +kernel)
theorem hb_d217_9 : ∀ q ∈ hb_c217_9, decode hb_h217.2.1 q.1 = .ok q.2 := px_rwc_ok (by decide +kernel)
theorem hb_d217_10 : ∀ q ∈ hb_c217_10, decode hb_h217.2.1 q.1 = .ok q.2 := px_rwc_ok (by decide +kernel)
theorem hb_d217_11 : ∀ q ∈ hb_c217_11, decode hb_h217.2.1 q.1 = .ok q.2 := px_rwc_ok (by decide +kernel)
set_option maxRecDepth 100000 in
theorem hb_w217 : lw_tbl[1736]? = some (Cond.code hb_h217.1 hb_h217.2.1 hb_h217.2.2.1 hb_h217.2.2.2.1) := by rfl
theorem hb_g217 : px_bM hb_h217 107 = true := by decide +kernel
set_option maxRecDepth 100000 in
theorem hb_o217 : px_okM px_Ts px_Ns hb_cl hb_SL hb_P hb_m217 := ⟨px_bM_ok hb_w217 hb_g217, List.forall_mem_append.mpr ⟨hb_d217_0, List.forall_mem_append.mpr ⟨hb_d217_1, List.forall_mem_append.mpr ⟨hb_d217_2, List.forall_mem_append.mpr ⟨hb_d217_3, List.forall_mem_append.mpr ⟨hb_d217_4, List.forall_mem_append.mpr ⟨hb_d217_5, List.forall_mem_append.mpr ⟨hb_d217_6, List.forall_mem_append.mpr ⟨hb_d217_7, List.forall_mem_append.mpr ⟨hb_d217_8, List.forall_mem_append.mpr ⟨hb_d217_9, List.forall_mem_append.mpr ⟨hb_d217_10, hb_d217_11⟩⟩⟩⟩⟩⟩⟩⟩⟩⟩⟩, px_bL_ok hb_l12⟩
theorem hb_d218_0 : ∀ q ∈ hb_c218_0, decode hb_h218.2.1 q.1 = .ok q.2 := px_rwc_ok (by decide +kernel)
set_option maxRecDepth 100000 in
theorem hb_w218 : lw_tbl[1732]? = some (Cond.code hb_h218.1 hb_h218.2.1 hb_h218.2.2.1 hb_h218.2.2.2.1) := by rfl
theorem hb_g218 : px_bM hb_h218 107 = true := by decide +kernel
set_option maxRecDepth 100000 in
theorem hb_o218 : px_okM px_Ts px_Ns hb_cl hb_SL hb_P hb_m218 := ⟨px_bM_ok hb_w218 hb_g218, hb_d218_0, px_bL_ok hb_l12⟩
theorem hb_d219_0 : ∀ q ∈ hb_c219_0, decode hb_h219.2.1 q.1 = .ok q.2 := px_rwc_ok (by decide +kernel)
theorem hb_d219_1 : ∀ q ∈ hb_c219_1, decode hb_h219.2.1 q.1 = .ok q.2 := px_rwc_ok (by decide +kernel)
theorem hb_d219_2 : ∀ q ∈ hb_c219_2, decode hb_h219.2.1 q.1 = .ok q.2 := px_rwc_ok (by decide +kernel)
theorem hb_d219_3 : ∀ q ∈ hb_c219_3, decode hb_h219.2.1 q.1 = .ok q.2 := px_rwc_ok (by decide +kernel)
theorem hb_d219_4 : ∀ q ∈ hb_c219_4, decode hb_h219.2.1 q.1 = .ok q.2 := px_rwc_ok (by decide +kernel)
theorem hb_d219_5 : ∀ q ∈ hb_c219_5, decode hb_h219.2.1 q.1 = .ok q.2 := px_rwc_ok (by decide +kernel)
theorem hb_d219_6 : ∀ q ∈ hb_c219_6, decode hb_h219.2.1 q.1 = .ok q.2 := px_rwc_ok (by decide +kernel)
theorem hb_d219_7 : ∀ q ∈ hb_c219_7, decode hb_h219.2.1 q.1 = .ok q.2 := px_rwc_ok (by decide +kernel)
theorem hb_d219_8 : ∀ q ∈ hb_c219_8, decode hb_h219.2.1 q.1 = .ok q.2 := px_rwc_ok (by decide +kernel)
theorem hb_d219_9 : ∀ q ∈ hb_c219_9, decode hb_h219.2.1 q.1 = .ok q.2 := px_rwc_ok (by decide +kernel)
theorem hb_d219_10 : ∀ q ∈ hb_c219_10, decode hb_h219.2.1 q.1 = .ok q.2 := px_rwc_ok (by decide +kernel)
theorem hb_d219_11 : ∀ q ∈ hb_c219_11, decode hb_h219.2.1 q.1 = .ok q.2 := px_rwc_ok (by decide +kernel)
set_option maxRecDepth 100000 in
theorem hb_w219 : lw_tbl[1744]? = some (Cond.code hb_h219.1 hb_h219.2.1 hb_h219.2.2.1 hb_h219.2.2.2.1) := by rfl
theorem hb_g219 : px_bM hb_h219 107 = true := by decide +kernel
set_option maxRecDepth 100000 in
theorem hb_o219 : px_okM px_Ts px_Ns hb_cl hb_SL hb_P hb_m219 := ⟨px_bM_ok hb_w219 hb_g219, List.forall_mem_append.mpr ⟨hb_d219_0, List.forall_mem_append.mpr ⟨hb_d219_1, List.forall_mem_append.mpr ⟨hb_d219_2, List.forall_mem_append.mpr ⟨hb_d219_3, List.forall_mem_append.mpr ⟨hb_d219_4, List.forall_mem_append.mpr ⟨hb_d219_5, List.forall_mem_append.mpr ⟨hb_d219_6, List.forall_mem_append.mpr ⟨hb_d219_7, List.forall_mem_append.mpr ⟨hb_d219_8, List.forall_mem_append.mpr ⟨hb_d219_9, List.forall_mem_append.mpr ⟨hb_d219_10, hb_d219_11⟩⟩⟩⟩⟩⟩⟩⟩⟩⟩⟩, px_bL_ok hb_l12⟩

end

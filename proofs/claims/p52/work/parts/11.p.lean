theorem hb_d300_0 : ∀ q ∈ hb_c300_0, decode hb_h300.2.1 q.1 = .ok q.2 := by decide +kernel
set_option maxRecDepth 100000 in
theorem hb_w300 : lw_tbl[1052]? = some (Cond.code hb_h300.1 hb_h300.2.1 hb_h300.2.2.1 hb_h300.2.2.2.1) := by rfl
theorem hb_g300 : px_bM hb_h300 111 = true := by decide +kernel
theorem hb_o300 : px_okM px_Ts px_Ns hb_cl hb_SL hb_P hb_m300 := ⟨px_bM_ok hb_w300 hb_g300, hb_d300_0, px_bL_ok hb_l15⟩
theorem hb_d301_0 : ∀ q ∈ hb_c301_0, decode hb_h301.2.1 q.1 = .ok q.2 := by decide +kernel
set_option maxRecDepth 100000 in
theorem hb_w301 : lw_tbl[1062]? = some (Cond.code hb_h301.1 hb_h301.2.1 hb_h301.2.2.1 hb_h301.2.2.2.1) := by rfl
theorem hb_g301 : px_bM hb_h301 111 = true := by decide +kernel
theorem hb_o301 : px_okM px_Ts px_Ns hb_cl hb_SL hb_P hb_m301 := ⟨px_bM_ok hb_w301 hb_g301, hb_d301_0, px_bL_ok hb_l15⟩
theorem hb_d302_0 : ∀ q ∈ hb_c302_0, decode hb_h302.2.1 q.1 = .ok q.2 := by decide +kernel
set_option maxRecDepth 100000 in
theorem hb_w302 : lw_tbl[1068]? = some (Cond.code hb_h302.1 hb_h302.2.1 hb_h302.2.2.1 hb_h302.2.2.2.1) := by rfl
theorem hb_g302 : px_bM hb_h302 111 = true := by decide +kernel
theorem hb_o302 : px_okM px_Ts px_Ns hb_cl hb_SL hb_P hb_m302 := ⟨px_bM_ok hb_w302 hb_g302, hb_d302_0, px_bL_ok hb_l15⟩
theorem hb_d303_0 : ∀ q ∈ hb_c303_0, decode hb_h303.2.1 q.1 = .ok q.2 := by decide +kernel
set_option maxRecDepth 100000 in
theorem hb_w303 : lw_tbl[1065]? = some (Cond.code hb_h303.1 hb_h303.2.1 hb_h303.2.2.1 hb_h303.2.2.2.1) := by rfl
theorem hb_g303 : px_bM hb_h303 112 = true := by decide +kernel
theorem hb_o303 : px_okM px_Ts px_Ns hb_cl hb_SL hb_P hb_m303 := ⟨px_bM_ok hb_w303 hb_g303, hb_d303_0, px_bL_ok hb_l16⟩
theorem hb_d304_0 : ∀ q ∈ hb_c304_0, decode hb_h304.2.1 q.1 = .ok q.2 := by decide +kernel
set_option maxRecDepth 100000 in
theorem hb_w304 : lw_tbl[1073]? = some (Cond.code hb_h304.1 hb_h304.2.1 hb_h304.2.2.1 hb_h304.2.2.2.1) := by rfl
theorem hb_g304 : px_bM hb_h304 113 = true := by decide +kernel
theorem hb_o304 : px_okM px_Ts px_Ns hb_cl hb_SL hb_P hb_m304 := ⟨px_bM_ok hb_w304 hb_g304, hb_d304_0, px_bL_ok hb_l17⟩
theorem hb_d305_0 : ∀ q ∈ hb_c305_0, decode hb_h305.2.1 q.1 = .ok q.2 := by decide +kernel
theorem hb_d305_1 : ∀ q ∈ hb_c305_1, decode hb_h305.2.1 q.1 = .ok q.2 := by decide +kernel
theorem hb_d305_2 : ∀ q ∈ hb_c305_2, decode hb_h305.2.1 q.1 = .ok q.2 := by decide +kernel
theorem hb_d305_3 : ∀ q ∈ hb_c305_3, decode hb_h305.2.1 q.1 = .ok q.2 := by decide +kernel
theorem hb_d305_4 : ∀ q ∈ hb_c305_4, decode hb_h305.2.1 q.1 = .ok q.2 := by decide +kernel
theorem hb_d305_5 : ∀ q ∈ hb_c305_5, decode hb_h305.2.1 q.1 = .ok q.2 := by decide +kernel
theorem hb_d305_6 : ∀ q ∈ hb_c305_6, decode hb_h305.2.1 q.1 = .ok q.2 := by decide +kernel
theorem hb_d305_7 : ∀ q ∈ hb_c305_7, decode hb_h305.2.1 q.1 = .ok q.2 := by decide +kernel
theorem hb_d305_8 : ∀ q ∈ hb_c305_8, decode hb_h305.2.1 q.1 = .ok q.2 := by decide +kernel
theorem hb_d305_9 : ∀ q ∈ hb_c305_9, decode hb_h305.2.1 q.1 = .ok q.2 := by decide +kernel
theorem hb_d305_10 : ∀ q ∈ hb_c305_10, decode hb_h305.2.1 q.1 = .ok q.2 := by decide +kernel
theorem hb_d305_11 : ∀ q ∈ hb_c305_11, decode hb_h305.2.1 q.1 = .ok q.2 := by decide +kernel
theorem hb_d305_12 : ∀ q ∈ hb_c305_12, decode hb_h305.2.1 q.1 = .ok q.2 := by decide +kernel
theorem hb_d305_13 : ∀ q ∈ hb_c305_13, decode hb_h305.2.1 q.1 = .ok q.2 := by decide +kernel
theorem hb_d305_14 : ∀ q ∈ hb_c305_14, decode hb_h305.2.1 q.1 = .ok q.2 := by decide +kernel
theorem hb_d305_15 : ∀ q ∈ hb_c305_15, decode hb_h305.2.1 q.1 = .ok q.2 := by decide +kernel
theorem hb_d305_16 : ∀ q ∈ hb_c305_16, decode hb_h305.2.1 q.1 = .ok q.2 := by decide +kernel
theorem hb_d305_17 : ∀ q ∈ hb_c305_17, decode hb_h305.2.1 q.1 = .ok q.2 := by decide +kernel
theorem hb_d305_18 : ∀ q ∈ hb_c305_18, decode hb_h305.2.1 q.1 = .ok q.2 := by decide +kernel
theorem hb_d305_19 : ∀ q ∈ hb_c305_19, decode hb_h305.2.1 q.1 = .ok q.2 := by decide +kernel
theorem hb_d305_20 : ∀ q ∈ hb_c305_20, decode hb_h305.2.1 q.1 = .ok q.2 := by decide +kernel
theorem hb_d305_21 : ∀ q ∈ hb_c305_21, decode hb_h305.2.1 q.1 = .ok q.2 := by decide +kernel
theorem hb_d305_22 : ∀ q ∈ hb_c305_22, decode hb_h305.2.1 q.1 = .ok q.2 := by decide +kernel
theorem hb_d305_23 : ∀ q ∈ hb_c305_23, decode hb_h305.2.1 q.1 = .ok q.2 := by decide +kernel
theorem hb_d305_24 : ∀ q ∈ hb_c305_24, decode hb_h305.2.1 q.1 = .ok q.2 := by decide +kernel
theorem hb_d305_25 : ∀ q ∈ hb_c305_25, decode hb_h305.2.1 q.1 = .ok q.2 := by decide +kernel
theorem hb_d305_26 : ∀ q ∈ hb_c305_26, decode hb_h305.2.1 q.1 = .ok q.2 := by decide +kernel
theorem hb_d305_27 : ∀ q ∈ hb_c305_27, decode hb_h305.2.1 q.1 = .ok q.2 := by decide +kernel
theorem hb_d305_28 : ∀ q ∈ hb_c305_28, decode hb_h305.2.1 q.1 = .ok q.2 := by decide +kernel
theorem hb_d305_29 : ∀ q ∈ hb_c305_29, decode hb_h305.2.1 q.1 = .ok q.2 := by decide +kernel
theorem hb_d305_30 : ∀ q ∈ hb_c305_30, decode hb_h305.2.1 q.1 = .ok q.2 := by decide +kernel
theorem hb_d305_31 : ∀ q ∈ hb_c305_31, decode hb_h305.2.1 q.1 = .ok q.2 := by decide +kernel
theorem hb_d305_32 : ∀ q ∈ hb_c305_32, decode hb_h305.2.1 q.1 = .ok q.2 := by decide +kernel
theorem hb_d305_33 : ∀ q ∈ hb_c305_33, decode hb_h305.2.1 q.1 = .ok q.2 := by decide +kernel
theorem hb_d305_34 : ∀ q ∈ hb_c305_34, decode hb_h305.2.1 q.1 = .ok q.2 := by decide +kernel
theorem hb_dL : ∀ q ∈ hb_m305.2.1, decode hb_m305.1.2.1 q.1 = .ok q.2 := List.forall_mem_append.mpr ⟨hb_d305_0, List.forall_mem_append.mpr ⟨hb_d305_1, List.forall_mem_append.mpr ⟨hb_d305_2, List.forall_mem_append.mpr ⟨hb_d305_3, List.forall_mem_append.mpr ⟨hb_d305_4, List.forall_mem_append.mpr ⟨hb_d305_5, List.forall_mem_append.mpr ⟨hb_d305_6, List.forall_mem_append.mpr ⟨hb_d305_7, List.forall_mem_append.mpr ⟨hb_d305_8, List.forall_mem_append.mpr ⟨hb_d305_9, List.forall_mem_append.mpr ⟨hb_d305_10, List.forall_mem_append.mpr ⟨hb_d305_11, List.forall_mem_append.mpr ⟨hb_d305_12, List.forall_mem_append.mpr ⟨hb_d305_13, List.forall_mem_append.mpr ⟨hb_d305_14, List.forall_mem_append.mpr ⟨hb_d305_15, List.forall_mem_append.mpr ⟨hb_d305_16, List.forall_mem_append.mpr ⟨hb_d305_17, List.forall_mem_append.mpr ⟨hb_d305_18, List.forall_mem_append.mpr ⟨hb_d305_19, List.forall_mem_append.mpr ⟨hb_d305_20, List.forall_mem_append.mpr ⟨hb_d305_21, List.forall_mem_append.mpr ⟨hb_d305_22, List.forall_mem_append.mpr ⟨hb_d305_23, List.forall_mem_append.mpr ⟨hb_d305_24, List.forall_mem_append.mpr ⟨hb_d305_25, List.forall_mem_append.mpr ⟨hb_d305_26, List.forall_mem_append.mpr ⟨hb_d305_27, List.forall_mem_append.mpr ⟨hb_d305_28, List.forall_mem_append.mpr ⟨hb_d305_29, List.forall_mem_append.mpr ⟨hb_d305_30, List.forall_mem_append.mpr ⟨hb_d305_31, List.forall_mem_append.mpr ⟨hb_d305_32, List.forall_mem_append.mpr ⟨hb_d305_33, hb_d305_34⟩⟩⟩⟩⟩⟩⟩⟩⟩⟩⟩⟩⟩⟩⟩⟩⟩⟩⟩⟩⟩⟩⟩⟩⟩⟩⟩⟩⟩⟩⟩⟩⟩⟩

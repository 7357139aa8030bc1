theorem hb_d300_0 : ∀ q ∈ hb_c300_0, decode hb_h300.2.1 q.1 = .ok q.2 := by decide +kernel
set_option maxRecDepth 100000 in
theorem hb_w300 : lw_tbl[1065]? = some (Cond.code hb_h300.1 hb_h300.2.1 hb_h300.2.2.1 hb_h300.2.2.2.1) := by rfl
theorem hb_g300 : px_bM hb_h300 112 = true := by decide +kernel
theorem hb_o300 : px_okM px_Ts px_Ns hb_cl hb_SL hb_P hb_m300 := ⟨px_bM_ok hb_w300 hb_g300, hb_d300_0, px_bL_ok hb_l15⟩
theorem hb_d301_0 : ∀ q ∈ hb_c301_0, decode hb_h301.2.1 q.1 = .ok q.2 := by decide +kernel
set_option maxRecDepth 100000 in
theorem hb_w301 : lw_tbl[1073]? = some (Cond.code hb_h301.1 hb_h301.2.1 hb_h301.2.2.1 hb_h301.2.2.2.1) := by rfl
theorem hb_g301 : px_bM hb_h301 113 = true := by decide +kernel
theorem hb_o301 : px_okM px_Ts px_Ns hb_cl hb_SL hb_P hb_m301 := ⟨px_bM_ok hb_w301 hb_g301, hb_d301_0, px_bL_ok hb_l16⟩
theorem hb_d302_0 : ∀ q ∈ hb_c302_0, decode hb_h302.2.1 q.1 = .ok q.2 := by decide +kernel
theorem hb_d302_1 : ∀ q ∈ hb_c302_1, decode hb_h302.2.1 q.1 = .ok q.2 := by decide +kernel
theorem hb_d302_2 : ∀ q ∈ hb_c302_2, decode hb_h302.2.1 q.1 = .ok q.2 := by decide +kernel
theorem hb_d302_3 : ∀ q ∈ hb_c302_3, decode hb_h302.2.1 q.1 = .ok q.2 := by decide +kernel
theorem hb_d302_4 : ∀ q ∈ hb_c302_4, decode hb_h302.2.1 q.1 = .ok q.2 := by decide +kernel
theorem hb_d302_5 : ∀ q ∈ hb_c302_5, decode hb_h302.2.1 q.1 = .ok q.2 := by decide +kernel
theorem hb_d302_6 : ∀ q ∈ hb_c302_6, decode hb_h302.2.1 q.1 = .ok q.2 := by decide +kernel
theorem hb_d302_7 : ∀ q ∈ hb_c302_7, decode hb_h302.2.1 q.1 = .ok q.2 := by decide +kernel
theorem hb_d302_8 : ∀ q ∈ hb_c302_8, decode hb_h302.2.1 q.1 = .ok q.2 := by decide +kernel
theorem hb_d302_9 : ∀ q ∈ hb_c302_9, decode hb_h302.2.1 q.1 = .ok q.2 := by decide +kernel
theorem hb_d302_10 : ∀ q ∈ hb_c302_10, decode hb_h302.2.1 q.1 = .ok q.2 := by decide +kernel
theorem hb_d302_11 : ∀ q ∈ hb_c302_11, decode hb_h302.2.1 q.1 = .ok q.2 := by decide +kernel
theorem hb_d302_12 : ∀ q ∈ hb_c302_12, decode hb_h302.2.1 q.1 = .ok q.2 := by decide +kernel
theorem hb_d302_13 : ∀ q ∈ hb_c302_13, decode hb_h302.2.1 q.1 = .ok q.2 := by decide +kernel
theorem hb_d302_14 : ∀ q ∈ hb_c302_14, decode hb_h302.2.1 q.1 = .ok q.2 := by decide +kernel
theorem hb_d302_15 : ∀ q ∈ hb_c302_15, decode hb_h302.2.1 q.1 = .ok q.2 := by decide +kernel
theorem hb_d302_16 : ∀ q ∈ hb_c302_16, decode hb_h302.2.1 q.1 = .ok q.2 := by decide +kernel
theorem hb_d302_17 : ∀ q ∈ hb_c302_17, decode hb_h302.2.1 q.1 = .ok q.2 := by decide +kernel
theorem hb_d302_18 : ∀ q ∈ hb_c302_18, decode hb_h302.2.1 q.1 = .ok q.2 := by decide +kernel
theorem hb_d302_19 : ∀ q ∈ hb_c302_19, decode hb_h302.2.1 q.1 = .ok q.2 := by decide +kernel
theorem hb_d302_20 : ∀ q ∈ hb_c302_20, decode hb_h302.2.1 q.1 = .ok q.2 := by decide +kernel
theorem hb_d302_21 : ∀ q ∈ hb_c302_21, decode hb_h302.2.1 q.1 = .ok q.2 := by decide +kernel
theorem hb_d302_22 : ∀ q ∈ hb_c302_22, decode hb_h302.2.1 q.1 = .ok q.2 := by decide +kernel
theorem hb_d302_23 : ∀ q ∈ hb_c302_23, decode hb_h302.2.1 q.1 = .ok q.2 := by decide +kernel
theorem hb_d302_24 : ∀ q ∈ hb_c302_24, decode hb_h302.2.1 q.1 = .ok q.2 := by decide +kernel
theorem hb_d302_25 : ∀ q ∈ hb_c302_25, decode hb_h302.2.1 q.1 = .ok q.2 := by decide +kernel
theorem hb_d302_26 : ∀ q ∈ hb_c302_26, decode hb_h302.2.1 q.1 = .ok q.2 := by decide +kernel
theorem hb_d302_27 : ∀ q ∈ hb_c302_27, decode hb_h302.2.1 q.1 = .ok q.2 := by decide +kernel
theorem hb_d302_28 : ∀ q ∈ hb_c302_28, decode hb_h302.2.1 q.1 = .ok q.2 := by decide +kernel
theorem hb_d302_29 : ∀ q ∈ hb_c302_29, decode hb_h302.2.1 q.1 = .ok q.2 := by decide +kernel
theorem hb_d302_30 : ∀ q ∈ hb_c302_30, decode hb_h302.2.1 q.1 = .ok q.2 := by decide +kernel
theorem hb_d302_31 : ∀ q ∈ hb_c302_31, decode hb_h302.2.1 q.1 = .ok q.2 := by decide +kernel
theorem hb_d302_32 : ∀ q ∈ hb_c302_32, decode hb_h302.2.1 q.1 = .ok q.2 := by decide +kernel
theorem hb_d302_33 : ∀ q ∈ hb_c302_33, decode hb_h302.2.1 q.1 = .ok q.2 := by decide +kernel
theorem hb_d302_34 : ∀ q ∈ hb_c302_34, decode hb_h302.2.1 q.1 = .ok q.2 := by decide +kernel
theorem hb_dL : ∀ q ∈ hb_m302.2.1, decode hb_m302.1.2.1 q.1 = .ok q.2 := List.forall_mem_append.mpr ⟨hb_d302_0, List.forall_mem_append.mpr ⟨hb_d302_1, List.forall_mem_append.mpr ⟨hb_d302_2, List.forall_mem_append.mpr ⟨hb_d302_3, List.forall_mem_append.mpr ⟨hb_d302_4, List.forall_mem_append.mpr ⟨hb_d302_5, List.forall_mem_append.mpr ⟨hb_d302_6, List.forall_mem_append.mpr ⟨hb_d302_7, List.forall_mem_append.mpr ⟨hb_d302_8, List.forall_mem_append.mpr ⟨hb_d302_9, List.forall_mem_append.mpr ⟨hb_d302_10, List.forall_mem_append.mpr ⟨hb_d302_11, List.forall_mem_append.mpr ⟨hb_d302_12, List.forall_mem_append.mpr ⟨hb_d302_13, List.forall_mem_append.mpr ⟨hb_d302_14, List.forall_mem_append.mpr ⟨hb_d302_15, List.forall_mem_append.mpr ⟨hb_d302_16, List.forall_mem_append.mpr ⟨hb_d302_17, List.forall_mem_append.mpr ⟨hb_d302_18, List.forall_mem_append.mpr ⟨hb_d302_19, List.forall_mem_append.mpr ⟨hb_d302_20, List.forall_mem_append.mpr ⟨hb_d302_21, List.forall_mem_append.mpr ⟨hb_d302_22, List.forall_mem_append.mpr ⟨hb_d302_23, List.forall_mem_append.mpr ⟨hb_d302_24, List.forall_mem_append.mpr ⟨hb_d302_25, List.forall_mem_append.mpr ⟨hb_d302_26, List.forall_mem_append.mpr ⟨hb_d302_27, List.forall_mem_append.mpr ⟨hb_d302_28, List.forall_mem_append.mpr ⟨hb_d302_29, List.forall_mem_append.mpr ⟨hb_d302_30, List.forall_mem_append.mpr ⟨hb_d302_31, List.forall_mem_append.mpr ⟨hb_d302_32, List.forall_mem_append.mpr ⟨hb_d302_33, hb_d302_34⟩⟩⟩⟩⟩⟩⟩⟩⟩⟩⟩⟩⟩⟩⟩⟩⟩⟩⟩⟩⟩⟩⟩⟩⟩⟩⟩⟩⟩⟩⟩⟩⟩⟩

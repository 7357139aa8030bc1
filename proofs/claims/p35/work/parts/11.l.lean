noncomputable section
theorem hb_d220_0 : ∀ q ∈ hb_c220_0, decode hb_h220.2.1 q.1 = .ok q.2 := px_rwc_ok (by decide +kernel)
theorem hb_d220_1 : ∀ q ∈ hb_c220_1, decode hb_h220.2.1 q.1 = .ok q.2 := px_rwc_ok (by decide +kernel)
theorem hb_d220_2 : ∀ q ∈ hb_c220_2, decode hb_h220.2.1 q.1 = .ok q.2 := px_rwc_ok (by decide +kernel)
theorem hb_d220_3 : ∀ q ∈ hb_c220_3, decode hb_h220.2.1 q.1 = .ok q.2 := px_rwc_ok (by decide +kernel)
theorem hb_d220_4 : ∀ q ∈ hb_c220_4, decode hb_h220.2.1 q.1 = .ok q.2 := px_rwc_ok (by decide +kernel)
theorem hb_d220_5 : ∀ q ∈ hb_c220_5, decode hb_h220.2.1 q.1 = .ok q.2 := px_rwc_ok (by decide +kernel)
theorem hb_d220_6 : ∀ q ∈ hb_c220_6, decode hb_h220.2.1 q.1 = .ok q.2 := px_rwc_ok (by decide +kernel)
theorem hb_d220_7 : ∀ q ∈ hb_c220_7, decode hb_h220.2.1 q.1 = .ok q.2 := px_rwc_ok (by decide +kernel)
theorem hb_d220_8 : ∀ q ∈ hb_c220_8, decode hb_h220.2.1 q.1 = .ok q.2 := px_rwc_ok (by decide +kernel)
theorem hb_d220_9 : ∀ q ∈ hb_c220_9, decode hb_h220.2.1 q.1 = .ok q.2 := px_rwc_ok (by decide +kernel)
theorem hb_d220_10 : ∀ q ∈ hb_c220_10, decode hb_h220.2.1 q.1 = .ok q.2 := px_rwc_ok (by decide +kernel)
theorem hb_d220_11 : ∀ q ∈ hb_c220_11, decode hb_h220.2.1 q.1 = .ok q.2 := px_rwc_ok (by decide +kernel)
theorem hb_d220_12 : ∀ q ∈ hb_c220_12, decode hb_h220.2.1 q.1 = .ok q.2 := px_rwc_ok (by decide +kernel)
theorem hb_d220_13 : ∀ q ∈ hb_c220_13, decode hb_h220.2.1 q.1 = .ok q.2 := px_rwc_ok (by decide +kernel)
theorem hb_d220_14 : ∀ q ∈ hb_c220_14, decode hb_h220.2.1 q.1 = .ok q.2 := px_rwc_ok (by decide +kernel)
set_option maxRecDepth 100000 in
theorem hb_w220 : lw_tbl[1740]? = some (Cond.code hb_h220.1 hb_h220.2.1 hb_h220.2.2.1 hb_h220.2.2.2.1) := by rfl
theorem hb_g220 : px_bM hb_h220 107 = true := by decide +kernel
set_option maxRecDepth 100000 in
theorem hb_o220 : px_okM px_Ts px_Ns hb_cl hb_SL hb_P hb_m220 := ⟨px_bM_ok hb_w220 hb_g220, List.forall_mem_append.mpr ⟨hb_d220_0, List.forall_mem_append.mpr ⟨hb_d220_1, List.forall_mem_append.mpr ⟨hb_d220_2, List.forall_mem_append.mpr ⟨hb_d220_3, List.forall_mem_append.mpr ⟨hb_d220_4, List.forall_mem_append.mpr ⟨hb_d220_5, List.forall_mem_append.mpr ⟨hb_d220_6, List.forall_mem_append.mpr ⟨hb_d220_7, List.forall_mem_append.mpr ⟨hb_d220_8, List.forall_mem_append.mpr ⟨hb_d220_9, List.forall_mem_append.mpr ⟨hb_d220_10, List.forall_mem_append.mpr ⟨hb_d220_11, List.forall_mem_append.mpr ⟨hb_d220_12, List.forall_mem_append.mpr ⟨hb_d220_13, hb_d220_14⟩⟩⟩⟩⟩⟩⟩⟩⟩⟩⟩⟩⟩⟩, px_bL_ok hb_l12⟩
theorem hb_d221_0 : ∀ q ∈ hb_c221_0, decode hb_h221.2.1 q.1 = .ok q.2 := px_rwc_ok (by decide +kernel)
theorem hb_d221_1 : ∀ q ∈ hb_c221_1, decode hb_h221.2.1 q.1 = .ok q.2 := px_rwc_ok (by decide +kernel)
theorem hb_d221_2 : ∀ q ∈ hb_c221_2, decode hb_h221.2.1 q.1 = .ok q.2 := px_rwc_ok (by decide +kernel)
set_option maxRecDepth 100000 in
theorem hb_w221 : lw_tbl[1752]? = some (Cond.code hb_h221.1 hb_h221.2.1 hb_h221.2.2.1 hb_h221.2.2.2.1) := by rfl
theorem hb_g221 : px_bM hb_h221 107 = true := by decide +kernel
set_option maxRecDepth 100000 in
theorem hb_o221 : px_okM px_Ts px_Ns hb_cl hb_SL hb_P hb_m221 := ⟨px_bM_ok hb_w221 hb_g221, List.forall_mem_append.mpr ⟨hb_d221_0, List.forall_mem_append.mpr ⟨hb_d221_1, hb_d221_2⟩⟩, px_bL_ok hb_l12⟩
theorem hb_d222_0 : ∀ q ∈ hb_c222_0, decode hb_h222.2.1 q.1 = .ok q.2 := px_rwc_ok (by decide +kernel)
theorem hb_d222_1 : ∀ q ∈ hb_c222_1, decode hb_h222.2.1 q.1 = .ok q.2 := px_rwc_ok (by decide +kernel)
set_option maxRecDepth 100000 in
theorem hb_w222 : lw_tbl[1748]? = some (Cond.code hb_h222.1 hb_h222.2.1 hb_h222.2.2.1 hb_h222.2.2.2.1) := by rfl
theorem hb_g222 : px_bM hb_h222 107 = true := by decide +kernel
set_option maxRecDepth 100000 in
theorem hb_o222 : px_okM px_Ts px_Ns hb_cl hb_SL hb_P hb_m222 := ⟨px_bM_ok hb_w222 hb_g222, List.forall_mem_append.mpr ⟨hb_d222_0, hb_d222_1⟩, px_bL_ok hb_l12⟩
theorem hb_d223_0 : ∀ q ∈ hb_c223_0, decode hb_h223.2.1 q.1 = .ok q.2 := px_rwc_ok (by decide +kernel)
theorem hb_d223_1 : ∀ q ∈ hb_c223_1, decode hb_h223.2.1 q.1 = .ok q.2 := px_rwc_ok (by decide +kernel)
theorem hb_d223_2 : ∀ q ∈ hb_c223_2, decode hb_h223.2.1 q.1 = .ok q.2 := px_rwc_ok (by decide +kernel)
theorem hb_d223_3 : ∀ q ∈ hb_c223_3, decode hb_h223.2.1 q.1 = .ok q.2 := px_rwc_ok (by decide +kernel)
set_option maxRecDepth 100000 in
theorem hb_w223 : lw_tbl[1756]? = some (Cond.code hb_h223.1 hb_h223.2.1 hb_h223.2.2.1 hb_h223.2.2.2.1) := by rfl
theorem hb_g223 : px_bM hb_h223 107 = true := by decide +kernel
set_option maxRecDepth 100000 in
theorem hb_o223 : px_okM px_Ts px_Ns hb_cl hb_SL hb_P hb_m223 := ⟨px_bM_ok hb_w223 hb_g223, List.forall_mem_append.mpr ⟨hb_d223_0, List.forall_mem_append.mpr ⟨hb_d223_1, List.forall_mem_append.mpr ⟨hb_d223_2, hb_d223_3⟩⟩⟩, px_bL_ok hb_l12⟩
theorem hb_d224_0 : ∀ q ∈ hb_c224_0, decode hb_h224.2.1 q.1 = .ok q.2 := px_rwc_ok (by decide +kernel)
theorem hb_d224_1 : ∀ q ∈ hb_c224_1, decode hb_h224.2.1 q.1 = .ok q.2 := px_rwc_ok (by decide +kernel)
theorem hb_d224_2 : ∀ q ∈ hb_c224_2, decode hb_h224.2.1 q.1 = .ok q.2 := px_rwc_ok (by decide +kernel)
theorem hb_d224_3 : ∀ q ∈ hb_c224_3, decode hb_h224.2.1 q.1 = .ok q.2 := px_rwc_ok (by decide +kernel)
theorem hb_d224_4 : ∀ q ∈ hb_c224_4, decode hb_h224.2.1 q.1 = .ok q.2 := px_rwc_ok (by decide +kernel)
theorem hb_d224_5 : ∀ q ∈ hb_c224_5, decode hb_h224.2.1 q.1 = .ok q.2 := px_rwc_ok (by decide +kernel)
theorem hb_d224_6 : ∀ q ∈ hb_c224_6, decode hb_h224.2.1 q.1 = .ok q.2 := px_rwc_ok (by decide +kernel)
theorem hb_d224_7 : ∀ q ∈ hb_c224_7, decode hb_h224.2.1 q.1 = .ok q.2 := px_rwc_ok (by decide +kernel)
theorem hb_d224_8 : ∀ q ∈ hb_c224_8, decode hb_h224.2.1 q.1 = .ok q.2 := px_rwc_ok (by decide +kernel)
theorem hb_d224_9 : ∀ q ∈ hb_c224_9, decode hb_h224.2.1 q.1 = .ok q.2 := px_rwc_ok (by decide +kernel)
theorem hb_d224_10 : ∀ q ∈ hb_c224_10, decode hb_h224.2.1 q.1 = .ok q.2 := px_rwc_ok (by decide +kernel)
theorem hb_d224_11 : ∀ q ∈ hb_c224_11, decode hb_h224.2.1 q.1 = .ok q.2 := px_rwc_ok (by decide +kernel)
theorem hb_d224_12 : ∀ q ∈ hb_c224_12, decode hb_h224.2.1 q.1 = .ok q.2 := px_rwc_ok (by decide +kernel)
theorem hb_d224_13 : ∀ q ∈ hb_c224_13, decode hb_h224.2.1 q.1 = .ok q.2 := px_rwc_ok (by decide +kernel)
theorem hb_d224_14 : ∀ q ∈ hb_c224_14, decode hb_h224.2.1 q.1 = .ok q.2 := px_rwc_ok (by decide +kernel)
theorem hb_d224_15 : ∀ q ∈ hb_c224_15, decode hb_h224.2.1 q.1 = .ok q.2 := px_rwc_ok (by decide +kernel)
theorem hb_d224_16 : ∀ q ∈ hb_c224_16, decode hb_h224.2.1 q.1 = .ok q.2 := px_rwc_ok (by decide +kernel)
set_option maxRecDepth 100000 in
theorem hb_w224 : lw_tbl[1760]? = some (Cond.code hb_h224.1 hb_h224.2.1 hb_h224.2.2.1 hb_h224.2.2.2.1) := by rfl
theorem hb_g224 : px_bM hb_h224 107 = true := by decide +kernel
set_option maxRecDepth 100000 in
theorem hb_o224 : px_okM px_Ts px_Ns hb_cl hb_SL hb_P hb_m224 := ⟨px_bM_ok hb_w224 hb_g224, List.forall_mem_append.mpr ⟨hb_d224_0, List.forall_mem_append.mpr ⟨hb_d224_1, List.forall_mem_append.mpr ⟨hb_d224_2, List.forall_mem_append.mpr ⟨hb_d224_3, List.forall_mem_append.mpr ⟨hb_d224_4, List.forall_mem_append.mpr ⟨hb_d224_5, List.forall_mem_append.mpr ⟨hb_d224_6, List.forall_mem_append.mpr ⟨hb_d224_7, List.forall_mem_append.mpr ⟨hb_d224_8, List.forall_mem_append.mpr ⟨hb_d224_9, List.forall_mem_append.mpr ⟨hb_d224_10, List.forall_mem_append.mpr ⟨hb_d224_11, List.forall_mem_append.mpr ⟨hb_d224_12, List.forall_mem_append.mpr ⟨hb_d224_13, List.forall_mem_append.mpr ⟨hb_d224_14, List.forall_mem_append.mpr ⟨hb_d224_15, hb_d224_16⟩⟩⟩⟩⟩⟩⟩⟩⟩⟩⟩⟩⟩⟩⟩⟩, px_bL_ok hb_l12⟩
theorem hb_d225_0 : ∀ q ∈ hb_c225_0, decode hb_h225.2.1 q.1 = .ok q.2 := px_rwc_ok (by decide +kernel)
theorem hb_d225_1 : ∀ q ∈ hb_c225_1, decode hb_h225.2.1 q.1 = .ok q.2 := px_rwc_ok (by decide +kernel)
theorem hb_d225_2 : ∀ q ∈ hb_c225_2, decode hb_h225.2.1 q.1 = .ok q.2 := px_rwc_ok (by decide +kernel)
theorem hb_d225_3 : ∀ q ∈ hb_c225_3, decode hb_h225.2.1 q.1 = .ok q.2 := px_rwc_ok (by decide +kernel)
theorem hb_d225_4 : ∀ q ∈ hb_c225_4, decode hb_h225.2.1 q.1 = .ok q.2 := px_rwc_ok (by decide +kernel)
theorem hb_d225_5 : ∀ q ∈ hb_c225_5, decode hb_h225.2.1 q.1 = .ok q.2 := px_rwc_ok (by decide +kernel)
theorem hb_d225_6 : ∀ q ∈ hb_c225_6, decode hb_h225.2.1 q.1 = .ok q.2 := px_rwc_ok (by decide +kernel)
theorem hb_d225_7 : ∀ q ∈ hb_c225_7, decode hb_h225.2.1 q.1 = .ok q.2 := px_rwc_ok (by decide +kernel)
theorem hb_d225_8 : ∀ q ∈ hb_c225_8, decode hb_h225.2.1 q.1 = .ok q.2 := px_rwc_ok (by decide +kernel)
theorem hb_d225_9 : ∀ q ∈ hb_c225_9, decode hb_h225.2.1 q.1 = .ok q.2 := px_rwc_ok (by decide +kernel)
set_option maxRecDepth 100000 in
theorem hb_w225 : lw_tbl[1772]? = some (Cond.code hb_h225.1 hb_h225.2.1 hb_h225.2.2.1 hb_h225.2.2.2.1) := by rfl
theorem hb_g225 : px_bM hb_h225 107 = true := by decide +kernel
set_option maxRecDepth 100000 in
theorem hb_o225 : px_okM px_Ts px_Ns hb_cl hb_SL hb_P hb_m225 := ⟨px_bM_ok hb_w225 hb_g225, List.forall_mem_append.mpr ⟨hb_d225_0, List.forall_mem_append.mpr ⟨hb_d225_1, List.forall_mem_append.mpr ⟨hb_d225_2, List.forall_mem_append.mpr ⟨hb_d225_3, List.forall_mem_append.mpr ⟨hb_d225_4, List.forall_mem_append.mpr ⟨hb_d225_5, List.forall_mem_append.mpr ⟨hb_d225_6, List.forall_mem_append.mpr ⟨hb_d225_7, List.forall_mem_append.mpr ⟨hb_d225_8, hb_d225_9⟩⟩⟩⟩⟩⟩⟩⟩⟩, px_bL_ok hb_l12⟩
theorem hb_d226_0 : ∀ q ∈ hb_c226_0, decode hb_h226.2.1 q.1 = .ok q.2 := px_rwc_ok (by decide +kernel)
theorem hb_d226_1 : ∀ q ∈ hb_c226_1, decode hb_h226.2.1 q.1 = .ok q.2 := px_rwc_ok (by decide +kernel)
theorem hb_d226_2 : ∀ q ∈ hb_c226_2, decode hb_h226.2.1 q.1 = .ok q.2 := px_rwc_ok (by decide +kernel)
theorem hb_d226_3 : ∀ q ∈ hb_c226_3, decode hb_h226.2.1 q.1 = .ok q.2 := px_rwc_ok (by decide +kernel)
theorem hb_d226_4 : ∀ q ∈ hb_c226_4, decode hb_h226.2.1 q.1 = .ok q.2 := px_rwc_ok (by decide +kernel)
theorem hb_d226_5 : ∀ q ∈ hb_c226_5, decode hb_h226.2.1 q.1 = .ok q.2 := px_rwc_ok (by decide +kernel)
theorem hb_d226_6 : ∀ q ∈ hb_c226_6, decode hb_h226.2.1 q.1 = .ok q.2 := px_rwc_ok (by decide +kernel)
theorem hb_d226_7 : ∀ q ∈ hb_c226_7, decode hb_h226.2.1 q.1 = .ok q.2 := px_rwc_ok (by decide +kernel)
theorem hb_d226_8 : ∀ q ∈ hb_c226_8, decode hb_h226.2.1 q.1 = .ok q.2 := px_rwc_ok (by decide +kernel)
theorem hb_d226_9 : ∀ q ∈ hb_c226_9, decode hb_h226.2.1 q.1 = .ok q.2 := px_rwc_ok (by decide +kernel)
theorem hb_d226_10 : ∀ q ∈ hb_c226_10, decode hb_h226.2.1 q.1 = .ok q.2 := px_rwc_ok (by decide +kernel)
theorem hb_d226_11 : ∀ q ∈ hb_c226_11, decode hb_h226.2.1 q.1 = .ok q.2 := px_rwc_ok (by decide +kernel)
theorem hb_d226_12 : ∀ q ∈ hb_c226_12, decode hb_h226.2.1 q.1 = .ok q.2 := px_rwc_ok (by decide +kernel)
theorem hb_d226_13 : ∀ q ∈ hb_c226_13, decode hb_h226.2.1 q.1 = .ok q.2 := px_rwc_ok (by decide +kernel)
theorem hb_d226_14 : ∀ q ∈ hb_c226_14, decode hb_h226.2.1 q.1 = .ok q.2 := px_rwc_ok (by decide +kernel)
theorem hb_d226_15 : ∀ q ∈ hb_c226_15, decode hb_h226.2.1 q.1 = .ok q.2 := px_rwc_ok (by decide +kernel)
theorem hb_d226_16 : ∀ q ∈ hb_c226_16, decode hb_h226.2.1 q.1 = .ok q.2 := px_rwc_ok (by decide +kernel)
theorem hb_d226_17 : ∀ q ∈ hb_c226_17, decode hb_h226.2.1 q.1 = .ok q.2 := px_rwc_ok (by decide +kernel)
set_option maxRecDepth 100000 in
theorem hb_w226 : lw_tbl[1768]? = some (Cond.code hb_h226.1 hb_h226.2.1 hb_h226.2.2.1 hb_h226.2.2.2.1) := by rfl
theorem hb_g226 : px_bM hb_h226 107 = true := by decide +kernel
set_option maxRecDepth 100000 in
theorem hb_o226 : px_okM px_Ts px_Ns hb_cl hb_SL hb_P hb_m226 := ⟨px_bM_ok hb_w226 hb_g226, List.forall_mem_append.mpr ⟨hb_d226_0, List.forall_mem_append.mpr ⟨hb_d226_1, List.forall_mem_append.mpr ⟨hb_d226_2, List.forall_mem_append.mpr ⟨hb_d226_3, List.forall_mem_append.mpr ⟨hb_d226_4, List.forall_mem_append.mpr ⟨hb_d226_5, List.forall_mem_append.mpr ⟨hb_d226_6, List.forall_mem_append.mpr ⟨hb_d226_7, List.forall_mem_append.mpr ⟨hb_d226_8, List.forall_mem_append.mpr ⟨hb_d226_9, List.forall_mem_append.mpr ⟨hb_d226_10, List.forall_mem_append.mpr ⟨hb_d226_11, List.forall_mem_append.mpr ⟨hb_d226_12, List.forall_mem_append.mpr ⟨hb_d226_13, List.forall_mem_append.mpr ⟨hb_d226_14, List.forall_mem_append.mpr ⟨hb_d226_15, List.forall_mem_append.mpr ⟨hb_d226_16, hb_d226_17⟩⟩⟩⟩⟩⟩⟩⟩⟩⟩⟩⟩⟩⟩⟩⟩⟩, px_bL_ok hb_l12⟩
theorem hb_d227_0 : ∀ q ∈ hb_c227_0, decode hb_h227.2.1 q.1 = .ok q.2 := px_rwc_ok (by decide +kernel)
theorem hb_d227_1 : ∀ q ∈ hb_c227_1, decode hb_h227.2.1 q.1 = .ok q.2 := px_rwc_ok (by decide +kernel)
theorem hb_d227_2 : ∀ q ∈ hb_c227_2, decode hb_h227.2.1 q.1 = .ok q.2 := px_rwc_ok (by decide +kernel)
theorem hb_d227_3 : ∀ q ∈ hb_c227_3, decode hb_h227.2.1 q.1 = .ok q.2 := px_rwc_ok (by decide +kernel)
theorem hb_d227_4 : ∀ q ∈ hb_c227_4, decode hb_h227.2.1 q.1 = .ok q.2 := px_rwc_ok (by decide +kernel)
theorem hb_d227_5 : ∀ q ∈ hb_c227_5, decode hb_h227.2.1 q.1 = .ok q.2 := px_rwc_ok (by decide +kernel)
theorem hb_d227_6 : ∀ q ∈ hb_c227_6, decode hb_h227.2.1 q.1 = .ok q.2 := px_rwc_ok (by decide +kernel)
theorem hb_d227_7 : ∀ q ∈ hb_c227_7, decode hb_h227.2.1 q.1 = .ok q.2 := px_rwc_ok (by decide +kernel)
theorem hb_d227_8 : ∀ q ∈ hb_c227_8, decode hb_h227.2.1 q.1 = .ok q.2 := px_rwc_ok (by decide +kernel)
theorem hb_d227_9 : ∀ q ∈ hb_c227_9, decode hb_h227.2.1 q.1 = .ok q.2 := px_rwc_ok (by decide +kernel)
theorem hb_d227_10 : ∀ q ∈ hb_c227_10, decode hb_h227.2.1 q.1 = .ok q.2 := px_rwc_ok (by decide +kernel)
theorem hb_d227_11 : ∀ q ∈ hb_c227_11, decode hb_h227.2.1 q.1 = .ok q.2 := px_rwc_ok (by decide +kernel)
theorem hb_d227_12 : ∀ q ∈ hb_c227_12, decode hb_h227.2.1 q.1 = .ok q.2 := px_rwc_ok (by decide +kernel)
theorem hb_d227_13 : ∀ q ∈ hb_c227_13, decode hb_h227.2.1 q.1 = .ok q.2 := px_rwc_ok (by decide +kernel)
set_option maxRecDepth 100000 in
theorem hb_w227 : lw_tbl[1776]? = some (Cond.code hb_h227.1 hb_h227.2.1 hb_h227.2.2.1 hb_h227.2.2.2.1) := by rfl
theorem hb_g227 : px_bM hb_h227 107 = true := by decide +kernel
set_option maxRecDepth 100000 in
theorem hb_o227 : px_okM px_Ts px_Ns hb_cl hb_SL hb_P hb_m227 := ⟨px_bM_ok hb_w227 hb_g227, List.forall_mem_append.mpr ⟨hb_d227_0, List.forall_mem_append.mpr ⟨hb_d227_1, List.forall_mem_append.mpr ⟨hb_d227_2, List.forall_mem_append.mpr ⟨hb_d227_3, List.forall_mem_append.mpr ⟨hb_d227_4, List.forall_mem_append.mpr ⟨hb_d227_5, List.forall_mem_append.mpr ⟨hb_d227_6, List.forall_mem_append.mpr ⟨hb_d227_7, List.forall_mem_append.mpr ⟨hb_d227_8, List.forall_mem_append.mpr ⟨hb_d227_9, List.forall_mem_append.mpr ⟨hb_d227_10, List.forall_mem_append.mpr ⟨hb_d227_11, List.forall_mem_append.mpr ⟨hb_d227_12, hb_d227_13⟩⟩⟩⟩⟩⟩⟩⟩⟩⟩⟩⟩⟩, px_bL_ok hb_l12⟩
theorem hb_d228_0 : ∀ q ∈ hb_c228_0, decode hb_h228.2.1 q.1 = .ok q.2 := px_rwc_ok (by decide +kernel)
theorem hb_d228_1 : ∀ q ∈ hb_c228_1, decode hb_h228.2.1 q.1 = .ok q.2 := px_rwc_ok (by decide +kernel)
set_option maxRecDepth 100000 in
theorem hb_w228 : lw_tbl[1805]? = some (Cond.code hb_h228.1 hb_h228.2.1 hb_h228.2.2.1 hb_h228.2.2.2.1) := by rfl
theorem hb_g228 : px_bM hb_h228 107 = true := by decide +kernel
set_option maxRecDepth 100000 in
theorem hb_o228 : px_okM px_Ts px_Ns hb_cl hb_SL hb_P hb_m228 := ⟨px_bM_ok hb_w228 hb_g228, List.forall_mem_append.mpr ⟨hb_d228_0, hb_d228_1⟩, px_bL_ok hb_l12⟩
theorem hb_d229_0 : ∀ q ∈ hb_c229_0, decode hb_h229.2.1 q.1 = .ok q.2 := px_rwc_ok (by decide +kernel)
theorem hb_d229_1 : ∀ q ∈ hb_c229_1, decode hb_h229.2.1 q.1 = .ok q.2 := px_rwc_ok (by decide +kernel)
theorem hb_d229_2 : ∀ q ∈ hb_c229_2, decode hb_h229.2.1 q.1 = .ok q.2 := px_rwc_ok (by decide +kernel)
theorem hb_d229_3 : ∀ q ∈ hb_c229_3, decode hb_h229.2.1 q.1 = .ok q.2 := px_rwc_ok (by decide +kernel)
theorem hb_d229_4 : ∀ q ∈ hb_c229_4, decode hb_h229.2.1 q.1 = .ok q.2 := px_rwc_ok (by decide +kernel)
set_option maxRecDepth 100000 in
theorem hb_w229 : lw_tbl[1797]? = some (Cond.code hb_h229.1 hb_h229.2.1 hb_h229.2.2.1 hb_h229.2.2.2.1) := by rfl
theorem hb_g229 : px_bM hb_h229 107 = true := by decide +kernel
set_option maxRecDepth 100000 in
theorem hb_o229 : px_okM px_Ts px_Ns hb_cl hb_SL hb_P hb_m229 := ⟨px_bM_ok hb_w229 hb_g229, List.forall_mem_append.mpr ⟨hb_d229_0, List.forall_mem_append.mpr ⟨hb_d229_1, List.forall_mem_append.mpr ⟨hb_d229_2, List.forall_mem_append.mpr ⟨hb_d229_3, hb_d229_4⟩⟩⟩⟩, px_bL_ok hb_l12⟩
theorem hb_d230_0 : ∀ q ∈ hb_c230_0, decode hb_h230.2.1 q.1 = .ok q.2 := px_rwc_ok (by decide +kernel)
theorem hb_d230_1 : ∀ q ∈ hb_c230_1, decode hb_h230.2.1 q.1 = .ok q.2 := px_rwc_ok (by decide +kernel)
theorem hb_d230_2 : ∀ q ∈ hb_c230_2, decode hb_h230.2.1 q.1 = .ok q.2 := px_rwc_ok (by decide +kernel)
set_option maxRecDepth 100000 in
theorem hb_w230 : lw_tbl[1781]? = some (Cond.code hb_h230.1 hb_h230.2.1 hb_h230.2.2.1 hb_h230.2.2.2.1) := by rfl
theorem hb_g230 : px_bM hb_h230 107 = true := by decide +kernel
set_option maxRecDepth 100000 in
theorem hb_o230 : px_okM px_Ts px_Ns hb_cl hb_SL hb_P hb_m230 := ⟨px_bM_ok hb_w230 hb_g230, List.forall_mem_append.mpr ⟨hb_d230_0, List.forall_mem_append.mpr ⟨hb_d230_1, hb_d230_2⟩⟩, px_bL_ok hb_l12⟩
theorem hb_d231_0 : ∀ q ∈ hb_c231_0, decode hb_h231.2.1 q.1 = .ok q.2 := px_rwc_ok (by decide +kernel)
theorem hb_d231_1 : ∀ q ∈ hb_c231_1, decode hb_h231.2.1 q.1 = .ok q.2 := px_rwc_ok (by decide +kernel)
theorem hb_d231_2 : ∀ q ∈ hb_c231_2, decode hb_h231.2.1 q.1 = .ok q.2 := px_rwc_ok (by decide +kernel)
theorem hb_d231_3 : ∀ q ∈ hb_c231_3, decode hb_h231.2.1 q.1 = .ok q.2 := px_rwc_ok (by decide +kernel)
theorem hb_d231_4 : ∀ q ∈ hb_c231_4, decode hb_h231.2.1 q.1 = .ok q.2 := px_rwc_ok (by decide +kernel)
set_option maxRecDepth 100000 in
theorem hb_w231 : lw_tbl[1785]? = some (Cond.code hb_h231.1 hb_h231.2.1 hb_h231.2.2.1 hb_h231.2.2.2.1) := by rfl
theorem hb_g231 : px_bM hb_h231 107 = true := by decide +kernel
set_option maxRecDepth 100000 in
theorem hb_o231 : px_okM px_Ts px_Ns hb_cl hb_SL hb_P hb_m231 := ⟨px_bM_ok hb_w231 hb_g231, List.forall_mem_append.mpr ⟨hb_d231_0, List.forall_mem_append.mpr ⟨hb_d231_1, List.forall_mem_append.mpr ⟨hb_d231_2, List.forall_mem_append.mpr ⟨hb_d231_3, hb_d231_4⟩⟩⟩⟩, px_bL_ok hb_l12⟩
theorem hb_d232_0 : ∀ q ∈ hb_c232_0, decode hb_h232.2.1 q.1 = .ok q.2 := px_rwc_ok (by decide +kernel)
theorem hb_d232_1 : ∀ q ∈ hb_c232_1, decode hb_h232.2.1 q.1 = .ok q.2 := px_rwc_ok (by decide +kernel)
theorem hb_d232_2 : ∀ q ∈ hb_c232_2, decode hb_h232.2.1 q.1 = .ok q.2 := px_rwc_ok (by decide +kernel)
theorem hb_d232_3 : ∀ q ∈ hb_c232_3, decode hb_h232.2.1 q.1 = .ok q.2 := px_rwc_ok (by decide +kernel)
theorem hb_d232_4 : ∀ q ∈ hb_c232_4, decode hb_h232.2.1 q.1 = .ok q.2 := px_rwc_ok (by decide +kernel)
set_option maxRecDepth 100000 in
theorem hb_w232 : lw_tbl[1793]? = some (Cond.code hb_h232.1 hb_h232.2.1 hb_h232.2.2.1 hb_h232.2.2.2.1) := by rfl
theorem hb_g232 : px_bM hb_h232 107 = true := by decide +kernel
set_option maxRecDepth 100000 in
theorem hb_o232 : px_okM px_Ts px_Ns hb_cl hb_SL hb_P hb_m232 := ⟨px_bM_ok hb_w232 hb_g232, List.forall_mem_append.mpr ⟨hb_d232_0, List.forall_mem_append.mpr ⟨hb_d232_1, List.forall_mem_append.mpr ⟨hb_d232_2, List.forall_mem_append.mpr ⟨hb_d232_3, hb_d232_4⟩⟩⟩⟩, px_bL_ok hb_l12⟩
theorem hb_d233_0 : ∀ q ∈ hb_c233_0, decode hb_h233.2.1 q.1 = .ok q.2 := px_rwc_ok (by decide +kernel)
theorem hb_d233_1 : ∀ q ∈ hb_c233_1, decode hb_h233.2.1 q.1 = .ok q.2 := px_rwc_ok (by decide +kernel)
theorem hb_d233_2 : ∀ q ∈ hb_c233_2, decode hb_h233.2.1 q.1 = .ok q.2 := px_rwc_ok (by decide +kernel)
theorem hb_d233_3 : ∀ q ∈ hb_c233_3, decode hb_h233.2.1 q.1 = .ok q.2 := px_rwc_ok (by decide +kernel)
theorem hb_d233_4 : ∀ q ∈ hb_c233_4, decode hb_h233.2.1 q.1 = .ok q.2 := px_rwc_ok (by decide +kernel)
theorem hb_d233_5 : ∀ q ∈ hb_c233_5, decode hb_h233.2.1 q.1 = .ok q.2 := px_rwc_ok (by decide +kernel)
set_option maxRecDepth 100000 in
theorem hb_w233 : lw_tbl[1789]? = some (Cond.code hb_h233.1 hb_h233.2.1 hb_h233.2.2.1 hb_h233.2.2.2.1) := by rfl
theorem hb_g233 : px_bM hb_h233 107 = true := by decide +kernel
set_option maxRecDepth 100000 in
theorem hb_o233 : px_okM px_Ts px_Ns hb_cl hb_SL hb_P hb_m233 := ⟨px_bM_ok hb_w233 hb_g233, List.forall_mem_append.mpr ⟨hb_d233_0, List.forall_mem_append.mpr ⟨hb_d233_1, List.forall_mem_append.mpr ⟨hb_d233_2, List.forall_mem_append.mpr ⟨hb_d233_3, List.forall_mem_append.mpr ⟨hb_d233_4, hb_d233_5⟩⟩⟩⟩⟩, px_bL_ok hb_l12⟩
theorem hb_d234_0 : ∀ q ∈ hb_c234_0, decode hb_h234.2.1 q.1 = .ok q.2 := px_rwc_ok (by decide +kernel)
theorem hb_d234_1 : ∀ q ∈ hb_c234_1, decode hb_h234.2.1 q.1 = .ok q.2 := px_rwc_ok (by decide +kernel)
theorem hb_d234_2 : ∀ q ∈ hb_c234_2, decode hb_h234.2.1 q.1 = .ok q.2 := px_rwc_ok (by decide +kernel)
theorem hb_d234_3 : ∀ q ∈ hb_c234_3, decode hb_h234.2.1 q.1 = .ok q.2 := px_rwc_ok (by decide +kernel)
theorem hb_d234_4 : ∀ q ∈ hb_c234_4, decode hb_h234.2.1 q.1 = .ok q.2 := px_rwc_ok (by decide +kernel)
set_option maxRecDepth 100000 in
theorem hb_w234 : lw_tbl[1809]? = some (Cond.code hb_h234.1 hb_h234.2.1 hb_h234.2.2.1 hb_h234.2.2.2.1) := by rfl
theorem hb_g234 : px_bM hb_h234 107 = true := by decide +kernel
set_option maxRecDepth 100000 in
theorem hb_o234 : px_okM px_Ts px_Ns hb_cl hb_SL hb_P hb_m234 := ⟨px_bM_ok hb_w234 hb_g234, List.forall_mem_append.mpr ⟨hb_d234_0, List.forall_mem_append.mpr ⟨hb_d234_1, List.forall_mem_append.mpr ⟨hb_d234_2, List.forall_mem_append.mpr ⟨hb_d234_3, hb_d234_4⟩⟩⟩⟩, px_bL_ok hb_l12⟩
theorem hb_d235_0 : ∀ q ∈ hb_c235_0, decode hb_h235.2.1 q.1 = .ok q.2 := px_rwc_ok (by decide +kernel)
theorem hb_d235_1 : ∀ q ∈ hb_c235_1, decode hb_h235.2.1 q.1 = .ok q.2 := px_rwc_ok (by decide +kernel)
theorem hb_d235_2 : ∀ q ∈ hb_c235_2, decode hb_h235.2.1 q.1 = .ok q.2 := px_rwc_ok (by decide +kernel)
theorem hb_d235_3 : ∀ q ∈ hb_c235_3, decode hb_h235.2.1 q.1 = .ok q.2 := px_rwc_ok (by decide +kernel)
theorem hb_d235_4 : ∀ q ∈ hb_c235_4, decode hb_h235.2.1 q.1 = .ok q.2 := px_rwc_ok (by decide +kernel)
theorem hb_d235_5 : ∀ q ∈ hb_c235_5, decode hb_h235.2.1 q.1 = .ok q.2 := px_rwc_ok (by decide +kernel)
set_option maxRecDepth 100000 in
theorem hb_w235 : lw_tbl[1801]? = some (Cond.code hb_h235.1 hb_h235.2.1 hb_h235.2.2.1 hb_h235.2.2.2.1) := by rfl
theorem hb_g235 : px_bM hb_h235 107 = true := by decide +kernel
set_option maxRecDepth 100000 in
theorem hb_o235 : px_okM px_Ts px_Ns hb_cl hb_SL hb_P hb_m235 := ⟨px_bM_ok hb_w235 hb_g235, List.forall_mem_append.mpr ⟨hb_d235_0, List.forall_mem_append.mpr ⟨hb_d235_1, List.forall_mem_append.mpr ⟨hb_d235_2, List.forall_mem_append.mpr ⟨hb_d235_3, List.forall_mem_append.mpr ⟨hb_d235_4, hb_d235_5⟩⟩⟩⟩⟩, px_bL_ok hb_l12⟩
theorem hb_d236_0 : ∀ q ∈ hb_c236_0, decode hb_h236.2.1 q.1 = .ok q.2 := px_rwc_ok (by decide +kernel)
theorem hb_d236_1 : ∀ q ∈ hb_c236_1, decode hb_h236.2.1 q.1 = .ok q.2 := px_rwc_ok (by decide +kernel)
theorem hb_d236_2 : ∀ q ∈ hb_c236_2, decode hb_h236.2.1 q.1 = .ok q.2 := px_rwc_ok (by decide +kernel)
theorem hb_d236_3 : ∀ q ∈ hb_c236_3, decode hb_h236.2.1 q.1 = .ok q.2 := px_rwc_ok (by decide +kernel)
theorem hb_d236_4 : ∀ q ∈ hb_c236_4, decode hb_h236.2.1 q.1 = .ok q.2 := px_rwc_ok (by decide +kernel)
theorem hb_d236_5 : ∀ q ∈ hb_c236_5, decode hb_h236.2.1 q.1 = .ok q.2 := px_rwc_ok (by decide +kernel)
theorem hb_d236_6 : ∀ q ∈ hb_c236_6, decode hb_h236.2.1 q.1 = .ok q.2 := px_rwc_ok (by decide +kernel)
theorem hb_d236_7 : ∀ q ∈ hb_c236_7, decode hb_h236.2.1 q.1 = .ok q.2 := px_rwc_ok (by decide +kernel)
theorem hb_d236_8 : ∀ q ∈ hb_c236_8, decode hb_h236.2.1 q.1 = .ok q.2 := px_rwc_ok (by decide +kernel)
set_option maxRecDepth 100000 in
theorem hb_w236 : lw_tbl[1813]? = some (Cond.code hb_h236.1 hb_h236.2.1 hb_h236.2.2.1 hb_h236.2.2.2.1) := by rfl
theorem hb_g236 : px_bM hb_h236 107 = true := by decide +kernel
set_option maxRecDepth 100000 in
theorem hb_o236 : px_okM px_Ts px_Ns hb_cl hb_SL hb_P hb_m236 := ⟨px_bM_ok hb_w236 hb_g236, List.forall_mem_append.mpr ⟨hb_d236_0, List.forall_mem_append.mpr ⟨hb_d236_1, List.forall_mem_append.mpr ⟨hb_d236_2, List.forall_mem_append.mpr ⟨hb_d236_3, List.forall_mem_append.mpr ⟨hb_d236_4, List.forall_mem_append.mpr ⟨hb_d236_5, List.forall_mem_append.mpr ⟨hb_d236_6, List.forall_mem_append.mpr ⟨hb_d236_7, hb_d236_8⟩⟩⟩⟩⟩⟩⟩⟩, px_bL_ok hb_l12⟩
theorem hb_d237_0 : ∀ q ∈ hb_c237_0, decode hb_h237.2.1 q.1 = .ok q.2 := px_rwc_ok (by decide +kernel)
theorem hb_d237_1 : ∀ q ∈ hb_c237_1, decode hb_h237.2.1 q.1 = .ok q.2 := px_rwc_ok (by decide +kernel)
set_option maxRecDepth 100000 in
theorem hb_w237 : lw_tbl[1821]? = some (Cond.code hb_h237.1 hb_h237.2.1 hb_h237.2.2.1 hb_h237.2.2.2.1) := by rfl
theorem hb_g237 : px_bM hb_h237 107 = true := by decide +kernel
set_option maxRecDepth 100000 in
theorem hb_o237 : px_okM px_Ts px_Ns hb_cl hb_SL hb_P hb_m237 := ⟨px_bM_ok hb_w237 hb_g237, List.forall_mem_append.mpr ⟨hb_d237_0, hb_d237_1⟩, px_bL_ok hb_l12⟩
theorem hb_d238_0 : ∀ q ∈ hb_c238_0, decode hb_h238.2.1 q.1 = .ok q.2 := px_rwc_ok (by decide +kernel)
theorem hb_d238_1 : ∀ q ∈ hb_c238_1, decode hb_h238.2.1 q.1 = .ok q.2 := px_rwc_ok (by decide +kernel)
theorem hb_d238_2 : ∀ q ∈ hb_c238_2, decode hb_h238.2.1 q.1 = .ok q.2 := px_rwc_ok (by decide +kernel)
theorem hb_d238_3 : ∀ q ∈ hb_c238_3, decode hb_h238.2.1 q.1 = .ok q.2 := px_rwc_ok (by decide +kernel)
theorem hb_d238_4 : ∀ q ∈ hb_c238_4, decode hb_h238.2.1 q.1 = .ok q.2 := px_rwc_ok (by decide +kernel)
theorem hb_d238_5 : ∀ q ∈ hb_c238_5, decode hb_h238.2.1 q.1 = .ok q.2 := px_rwc_ok (by decide +kernel)
theorem hb_d238_6 : ∀ q ∈ hb_c238_6, decode hb_h238.2.1 q.1 = .ok q.2 := px_rwc_ok (by decide +kernel)
theorem hb_d238_7 : ∀ q ∈ hb_c238_7, decode hb_h238.2.1 q.1 = .ok q.2 := px_rwc_ok (by decide +kernel)
theorem hb_d238_8 : ∀ q ∈ hb_c238_8, decode hb_h238.2.1 q.1 = .ok q.2 := px_rwc_ok (by decide +kernel)
theorem hb_d238_9 : ∀ q ∈ hb_c238_9, decode hb_h238.2.1 q.1 = .ok q.2 := px_rwc_ok (by decide +kernel)
theorem hb_d238_10 : ∀ q ∈ hb_c238_10, decode hb_h238.2.1 q.1 = .ok q.2 := px_rwc_ok (by decide +kernel)
theorem hb_d238_11 : ∀ q ∈ hb_c238_11, decode hb_h238.2.1 q.1 = .ok q.2 := px_rwc_ok (by decide +kernel)
set_option maxRecDepth 100000 in
theorem hb_w238 : lw_tbl[1825]? = some (Cond.code hb_h238.1 hb_h238.2.1 hb_h238.2.2.1 hb_h238.2.2.2.1) := by rfl
theorem hb_g238 : px_bM hb_h238 107 = true := by decide +kernel
set_option maxRecDepth 100000 in
theorem hb_o238 : px_okM px_Ts px_Ns hb_cl hb_SL hb_P hb_m238 := ⟨px_bM_ok hb_w238 hb_g238, List.forall_mem_append.mpr ⟨hb_d238_0, List.forall_mem_append.mpr ⟨hb_d238_1, List.forall_mem_append.mpr ⟨hb_d238_2, List.forall_mem_append.mpr ⟨hb_d238_3, List.forall_mem_append.mpr ⟨hb_d238_4, List.forall_mem_append.mpr ⟨hb_d238_5, List.forall_mem_append.mpr ⟨hb_d238_6, List.forall_mem_append.mpr ⟨hb_d238_7, List.forall_mem_append.mpr ⟨hb_d238_8, List.forall_mem_append.mpr ⟨hb_d238_9, List.forall_mem_append.mpr ⟨hb_d238_10, hb_d238_11⟩⟩⟩⟩⟩⟩⟩⟩⟩⟩⟩, px_bL_ok hb_l12⟩
theorem hb_d239_0 : ∀ q ∈ hb_c239_0, decode hb_h239.2.1 q.1 = .ok q.2 := px_rwc_ok (by decide +kernel)
theorem hb_d239_1 : ∀ q ∈ hb_c239_1, decode hb_h239.2.1 q.1 = .ok q.2 := px_rwc_ok (by decide +kernel)
set_option maxRecDepth 100000 in
theorem hb_w239 : lw_tbl[1817]? = some (Cond.code hb_h239.1 hb_h239.2.1 hb_h239.2.2.1 hb_h239.2.2.2.1) := by rfl
theorem hb_g239 : px_bM hb_h239 107 = true := by decide +kernel
set_option maxRecDepth 100000 in
theorem hb_o239 : px_okM px_Ts px_Ns hb_cl hb_SL hb_P hb_m239 := ⟨px_bM_ok hb_w239 hb_g239, List.forall_mem_append.mpr ⟨hb_d239_0, hb_d239_1⟩, px_bL_ok hb_l12⟩

end

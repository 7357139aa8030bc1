noncomputable section
theorem hb_d100_0 : ∀ q ∈ hb_c100_0, decode hb_h100.2.1 q.1 = .ok q.2 := px_rwc_ok (by decide +kernel)
theorem hb_d100_1 : ∀ q ∈ hb_c100_1, decode hb_h100.2.1 q.1 = .ok q.2 := px_rwc_ok (by decide +kernel)
theorem hb_d100_2 : ∀ q ∈ hb_c100_2, decode hb_h100.2.1 q.1 = .ok q.2 := px_rwc_ok (by decide +kernel)
theorem hb_d100_3 : ∀ q ∈ hb_c100_3, decode hb_h100.2.1 q.1 = .ok q.2 := px_rwc_ok (by decide +kernel)
theorem hb_d100_4 : ∀ q ∈ hb_c100_4, decode hb_h100.2.1 q.1 = .ok q.2 := px_rwc_ok (by decide +kernel)
theorem hb_d100_5 : ∀ q ∈ hb_c100_5, decode hb_h100.2.1 q.1 = .ok q.2 := px_rwc_ok (by decide +kernel)
theorem hb_d100_6 : ∀ q ∈ hb_c100_6, decode hb_h100.2.1 q.1 = .ok q.2 := px_rwc_ok (by decide +kernel)
theorem hb_d100_7 : ∀ q ∈ hb_c100_7, decode hb_h100.2.1 q.1 = .ok q.2 := px_rwc_ok (by decide +kernel)
set_option maxRecDepth 100000 in
theorem hb_w100 : lw_tbl[842]? = some (Cond.code hb_h100.1 hb_h100.2.1 hb_h100.2.2.1 hb_h100.2.2.2.1) := by rfl
theorem hb_g100 : px_bM hb_h100 103 = true := by decide +kernel
set_option maxRecDepth 100000 in
theorem hb_o100 : px_okM px_Ts px_Ns hb_cl hb_SL hb_P hb_m100 := ⟨px_bM_ok hb_w100 hb_g100, List.forall_mem_append.mpr ⟨hb_d100_0, List.forall_mem_append.mpr ⟨hb_d100_1, List.forall_mem_append.mpr ⟨hb_d100_2, List.forall_mem_append.mpr ⟨hb_d100_3, List.forall_mem_append.mpr ⟨hb_d100_4, List.forall_mem_append.mpr ⟨hb_d100_5, List.forall_mem_append.mpr ⟨hb_d100_6, hb_d100_7⟩⟩⟩⟩⟩⟩⟩, px_bL_ok hb_l8⟩
theorem hb_d101_0 : ∀ q ∈ hb_c101_0, decode hb_h101.2.1 q.1 = .ok q.2 := px_rwc_ok (by decide +kernel)
theorem hb_d101_1 : ∀ q ∈ hb_c101_1, decode hb_h101.2.1 q.1 = .ok q.2 := px_rwc_ok (by decide +kernel)
theorem hb_d101_2 : ∀ q ∈ hb_c101_2, decode hb_h101.2.1 q.1 = .ok q.2 := px_rwc_ok (by decide +kernel)
theorem hb_d101_3 : ∀ q ∈ hb_c101_3, decode hb_h101.2.1 q.1 = .ok q.2 := px_rwc_ok (by decide +kernel)
theorem hb_d101_4 : ∀ q ∈ hb_c101_4, decode hb_h101.2.1 q.1 = .ok q.2 := px_rwc_ok (by decide +kernel)
theorem hb_d101_5 : ∀ q ∈ hb_c101_5, decode hb_h101.2.1 q.1 = .ok q.2 := px_rwc_ok (by decide +kernel)
theorem hb_d101_6 : ∀ q ∈ hb_c101_6, decode hb_h101.2.1 q.1 = .ok q.2 := px_rwc_ok (by decide +kernel)
set_option maxRecDepth 100000 in
theorem hb_w101 : lw_tbl[851]? = some (Cond.code hb_h101.1 hb_h101.2.1 hb_h101.2.2.1 hb_h101.2.2.2.1) := by rfl
theorem hb_g101 : px_bM hb_h101 103 = true := by decide +kernel
set_option maxRecDepth 100000 in
theorem hb_o101 : px_okM px_Ts px_Ns hb_cl hb_SL hb_P hb_m101 := ⟨px_bM_ok hb_w101 hb_g101, List.forall_mem_append.mpr ⟨hb_d101_0, List.forall_mem_append.mpr ⟨hb_d101_1, List.forall_mem_append.mpr ⟨hb_d101_2, List.forall_mem_append.mpr ⟨hb_d101_3, List.forall_mem_append.mpr ⟨hb_d101_4, List.forall_mem_append.mpr ⟨hb_d101_5, hb_d101_6⟩⟩⟩⟩⟩⟩, px_bL_ok hb_l8⟩
theorem hb_d102_0 : ∀ q ∈ hb_c102_0, decode hb_h102.2.1 q.1 = .ok q.2 := px_rwc_ok (by decide +kernel)
theorem hb_d102_1 : ∀ q ∈ hb_c102_1, decode hb_h102.2.1 q.1 = .ok q.2 := px_rwc_ok (by decide +kernel)
theorem hb_d102_2 : ∀ q ∈ hb_c102_2, decode hb_h102.2.1 q.1 = .ok q.2 := px_rwc_ok (by decide +kernel)
theorem hb_d102_3 : ∀ q ∈ hb_c102_3, decode hb_h102.2.1 q.1 = .ok q.2 := px_rwc_ok (by decide +kernel)
theorem hb_d102_4 : ∀ q ∈ hb_c102_4, decode hb_h102.2.1 q.1 = .ok q.2 := px_rwc_ok (by decide +kernel)
theorem hb_d102_5 : ∀ q ∈ hb_c102_5, decode hb_h102.2.1 q.1 = .ok q.2 := px_rwc_ok (by decide +kernel)
set_option maxRecDepth 100000 in
theorem hb_w102 : lw_tbl[856]? = some (Cond.code hb_h102.1 hb_h102.2.1 hb_h102.2.2.1 hb_h102.2.2.2.1) := by rfl
theorem hb_g102 : px_bM hb_h102 103 = true := by decide +kernel
set_option maxRecDepth 100000 in
theorem hb_o102 : px_okM px_Ts px_Ns hb_cl hb_SL hb_P hb_m102 := ⟨px_bM_ok hb_w102 hb_g102, List.forall_mem_append.mpr ⟨hb_d102_0, List.forall_mem_append.mpr ⟨hb_d102_1, List.forall_mem_append.mpr ⟨hb_d102_2, List.forall_mem_append.mpr ⟨hb_d102_3, List.forall_mem_append.mpr ⟨hb_d102_4, hb_d102_5⟩⟩⟩⟩⟩, px_bL_ok hb_l8⟩
theorem hb_d103_0 : ∀ q ∈ hb_c103_0, decode hb_h103.2.1 q.1 = .ok q.2 := px_rwc_ok (by decide +kernel)
theorem hb_d103_1 : ∀ q ∈ hb_c103_1, decode hb_h103.2.1 q.1 = .ok q.2 := px_rwc_ok (by decide +kernel)
theorem hb_d103_2 : ∀ q ∈ hb_c103_2, decode hb_h103.2.1 q.1 = .ok q.2 := px_rwc_ok (by decide +kernel)
theorem hb_d103_3 : ∀ q ∈ hb_c103_3, decode hb_h103.2.1 q.1 = .ok q.2 := px_rwc_ok (by decide +kernel)
theorem hb_d103_4 : ∀ q ∈ hb_c103_4, decode hb_h103.2.1 q.1 = .ok q.2 := px_rwc_ok (by decide +kernel)
theorem hb_d103_5 : ∀ q ∈ hb_c103_5, decode hb_h103.2.1 q.1 = .ok q.2 := px_rwc_ok (by decide +kernel)
theorem hb_d103_6 : ∀ q ∈ hb_c103_6, decode hb_h103.2.1 q.1 = .ok q.2 := px_rwc_ok (by decide +kernel)
theorem hb_d103_7 : ∀ q ∈ hb_c103_7, decode hb_h103.2.1 q.1 = .ok q.2 := px_rwc_ok (by decide +kernel)
theorem hb_d103_8 : ∀ q ∈ hb_c103_8, decode hb_h103.2.1 q.1 = .ok q.2 := px_rwc_ok (by decide +kernel)
theorem hb_d103_9 : ∀ q ∈ hb_c103_9, decode hb_h103.2.1 q.1 = .ok q.2 := px_rwc_ok (by decide +kernel)
theorem hb_d103_10 : ∀ q ∈ hb_c103_10, decode hb_h103.2.1 q.1 = .ok q.2 := px_rwc_ok (by decide +kernel)
theorem hb_d103_11 : ∀ q ∈ hb_c103_11, decode hb_h103.2.1 q.1 = .ok q.2 := px_rwc_ok (by decide +kernel)
theorem hb_d103_12 : ∀ q ∈ hb_c103_12, decode hb_h103.2.1 q.1 = .ok q.2 := px_rwc_ok (by decide +kernel)
set_option maxRecDepth 100000 in
theorem hb_w103 : lw_tbl[860]? = some (Cond.code hb_h103.1 hb_h103.2.1 hb_h103.2.2.1 hb_h103.2.2.2.1) := by rfl
theorem hb_g103 : px_bM hb_h103 103 = true := by decide +kernel
set_option maxRecDepth 100000 in
theorem hb_o103 : px_okM px_Ts px_Ns hb_cl hb_SL hb_P hb_m103 := ⟨px_bM_ok hb_w103 hb_g103, List.forall_mem_append.mpr ⟨hb_d103_0, List.forall_mem_append.mpr ⟨hb_d103_1, List.forall_mem_append.mpr ⟨hb_d103_2, List.forall_mem_append.mpr ⟨hb_d103_3, List.forall_mem_append.mpr ⟨hb_d103_4, List.forall_mem_append.mpr ⟨hb_d103_5, List.forall_mem_append.mpr ⟨hb_d103_6, List.forall_mem_append.mpr ⟨hb_d103_7, List.forall_mem_append.mpr ⟨hb_d103_8, List.forall_mem_append.mpr ⟨hb_d103_9, List.forall_mem_append.mpr ⟨hb_d103_10, List.forall_mem_append.mpr ⟨hb_d103_11, hb_d103_12⟩⟩⟩⟩⟩⟩⟩⟩⟩⟩⟩⟩, px_bL_ok hb_l8⟩
theorem hb_d104_0 : ∀ q ∈ hb_c104_0, decode hb_h104.2.1 q.1 = .ok q.2 := px_rwc_ok (by decide +kernel)
theorem hb_d104_1 : ∀ q ∈ hb_c104_1, decode hb_h104.2.1 q.1 = .ok q.2 := px_rwc_ok (by decide +kernel)
theorem hb_d104_2 : ∀ q ∈ hb_c104_2, decode hb_h104.2.1 q.1 = .ok q.2 := px_rwc_ok (by decide +kernel)
theorem hb_d104_3 : ∀ q ∈ hb_c104_3, decode hb_h104.2.1 q.1 = .ok q.2 := px_rwc_ok (by decide +kernel)
theorem hb_d104_4 : ∀ q ∈ hb_c104_4, decode hb_h104.2.1 q.1 = .ok q.2 := px_rwc_ok (by decide +kernel)
theorem hb_d104_5 : ∀ q ∈ hb_c104_5, decode hb_h104.2.1 q.1 = .ok q.2 := px_rwc_ok (by decide +kernel)
theorem hb_d104_6 : ∀ q ∈ hb_c104_6, decode hb_h104.2.1 q.1 = .ok q.2 := px_rwc_ok (by decide +kernel)
theorem hb_d104_7 : ∀ q ∈ hb_c104_7, decode hb_h104.2.1 q.1 = .ok q.2 := px_rwc_ok (by decide +kernel)
set_option maxRecDepth 100000 in
theorem hb_w104 : lw_tbl[876]? = some (Cond.code hb_h104.1 hb_h104.2.1 hb_h104.2.2.1 hb_h104.2.2.2.1) := by rfl
theorem hb_g104 : px_bM hb_h104 103 = true := by decide +kernel
set_option maxRecDepth 100000 in
theorem hb_o104 : px_okM px_Ts px_Ns hb_cl hb_SL hb_P hb_m104 := ⟨px_bM_ok hb_w104 hb_g104, List.forall_mem_append.mpr ⟨hb_d104_0, List.forall_mem_append.mpr ⟨hb_d104_1, List.forall_mem_append.mpr ⟨hb_d104_2, List.forall_mem_append.mpr ⟨hb_d104_3, List.forall_mem_append.mpr ⟨hb_d104_4, List.forall_mem_append.mpr ⟨hb_d104_5, List.forall_mem_append.mpr ⟨hb_d104_6, hb_d104_7⟩⟩⟩⟩⟩⟩⟩, px_bL_ok hb_l8⟩
theorem hb_d105_0 : ∀ q ∈ hb_c105_0, decode hb_h105.2.1 q.1 = .ok q.2 := px_rwc_ok (by decide +kernel)
theorem hb_d105_1 : ∀ q ∈ hb_c105_1, decode hb_h105.2.1 q.1 = .ok q.2 := px_rwc_ok (by decide +kernel)
theorem hb_d105_2 : ∀ q ∈ hb_c105_2, decode hb_h105.2.1 q.1 = .ok q.2 := px_rwc_ok (by decide +kernel)
theorem hb_d105_3 : ∀ q ∈ hb_c105_3, decode hb_h105.2.1 q.1 = .ok q.2 := px_rwc_ok (by decide +kernel)
theorem hb_d105_4 : ∀ q ∈ hb_c105_4, decode hb_h105.2.1 q.1 = .ok q.2 := px_rwc_ok (by decide +kernel)
theorem hb_d105_5 : ∀ q ∈ hb_c105_5, decode hb_h105.2.1 q.1 = .ok q.2 := px_rwc_ok (by decide +kernel)
theorem hb_d105_6 : ∀ q ∈ hb_c105_6, decode hb_h105.2.1 q.1 = .ok q.2 := px_rwc_ok (by decide +kernel)
theorem hb_d105_7 : ∀ q ∈ hb_c105_7, decode hb_h105.2.1 q.1 = .ok q.2 := px_rwc_ok (by decide +kernel)
theorem hb_d105_8 : ∀ q ∈ hb_c105_8, decode hb_h105.2.1 q.1 = .ok q.2 := px_rwc_ok (by decide +kernel)
theorem hb_d105_9 : ∀ q ∈ hb_c105_9, decode hb_h105.2.1 q.1 = .ok q.2 := px_rwc_ok (by decide +kernel)
theorem hb_d105_10 : ∀ q ∈ hb_c105_10, decode hb_h105.2.1 q.1 = .ok q.2 := px_rwc_ok (by decide +kernel)
theorem hb_d105_11 : ∀ q ∈ hb_c105_11, decode hb_h105.2.1 q.1 = .ok q.2 := px_rwc_ok (by decide +kernel)
theorem hb_d105_12 : ∀ q ∈ hb_c105_12, decode hb_h105.2.1 q.1 = .ok q.2 := px_rwc_ok (by decide +kernel)
set_option maxRecDepth 100000 in
theorem hb_w105 : lw_tbl[880]? = some (Cond.code hb_h105.1 hb_h105.2.1 hb_h105.2.2.1 hb_h105.2.2.2.1) := by rfl
theorem hb_g105 : px_bM hb_h105 103 = true := by decide +kernel
set_option maxRecDepth 100000 in
theorem hb_o105 : px_okM px_Ts px_Ns hb_cl hb_SL hb_P hb_m105 := ⟨px_bM_ok hb_w105 hb_g105, List.forall_mem_append.mpr ⟨hb_d105_0, List.forall_mem_append.mpr ⟨hb_d105_1, List.forall_mem_append.mpr ⟨hb_d105_2, List.forall_mem_append.mpr ⟨hb_d105_3, List.forall_mem_append.mpr ⟨hb_d105_4, List.forall_mem_append.mpr ⟨hb_d105_5, List.forall_mem_append.mpr ⟨hb_d105_6, List.forall_mem_append.mpr ⟨hb_d105_7, List.forall_mem_append.mpr ⟨hb_d105_8, List.forall_mem_append.mpr ⟨hb_d105_9, List.forall_mem_append.mpr ⟨hb_d105_10, List.forall_mem_append.mpr ⟨hb_d105_11, hb_d105_12⟩⟩⟩⟩⟩⟩⟩⟩⟩⟩⟩⟩, px_bL_ok hb_l8⟩
theorem hb_d106_0 : ∀ q ∈ hb_c106_0, decode hb_h106.2.1 q.1 = .ok q.2 := px_rwc_ok (by decide +kernel)
theorem hb_d106_1 : ∀ q ∈ hb_c106_1, decode hb_h106.2.1 q.1 = .ok q.2 := px_rwc_ok (by decide +kernel)
theorem hb_d106_2 : ∀ q ∈ hb_c106_2, decode hb_h106.2.1 q.1 = .ok q.2 := px_rwc_ok (by decide +kernel)
theorem hb_d106_3 : ∀ q ∈ hb_c106_3, decode hb_h106.2.1 q.1 = .ok q.2 := px_rwc_ok (by decide +kernel)
theorem hb_d106_4 : ∀ q ∈ hb_c106_4, decode hb_h106.2.1 q.1 = .ok q.2 := px_rwc_ok (by decide +kernel)
theorem hb_d106_5 : ∀ q ∈ hb_c106_5, decode hb_h106.2.1 q.1 = .ok q.2 := px_rwc_ok (by decide +kernel)
set_option maxRecDepth 100000 in
theorem hb_w106 : lw_tbl[890]? = some (Cond.code hb_h106.1 hb_h106.2.1 hb_h106.2.2.1 hb_h106.2.2.2.1) := by rfl
theorem hb_g106 : px_bM hb_h106 103 = true := by decide +kernel
set_option maxRecDepth 100000 in
theorem hb_o106 : px_okM px_Ts px_Ns hb_cl hb_SL hb_P hb_m106 := ⟨px_bM_ok hb_w106 hb_g106, List.forall_mem_append.mpr ⟨hb_d106_0, List.forall_mem_append.mpr ⟨hb_d106_1, List.forall_mem_append.mpr ⟨hb_d106_2, List.forall_mem_append.mpr ⟨hb_d106_3, List.forall_mem_append.mpr ⟨hb_d106_4, hb_d106_5⟩⟩⟩⟩⟩, px_bL_ok hb_l8⟩
theorem hb_d107_0 : ∀ q ∈ hb_c107_0, decode hb_h107.2.1 q.1 = .ok q.2 := px_rwc_ok (by decide +kernel)
theorem hb_d107_1 : ∀ q ∈ hb_c107_1, decode hb_h107.2.1 q.1 = .ok q.2 := px_rwc_ok (by decide +kernel)
theorem hb_d107_2 : ∀ q ∈ hb_c107_2, decode hb_h107.2.1 q.1 = .ok q.2 := px_rwc_ok (by decide +kernel)
theorem hb_d107_3 : ∀ q ∈ hb_c107_3, decode hb_h107.2.1 q.1 = .ok q.2 := px_rwc_ok (by decide +kernel)
theorem hb_d107_4 : ∀ q ∈ hb_c107_4, decode hb_h107.2.1 q.1 = .ok q.2 := px_rwc_ok (by decide +kernel)
theorem hb_d107_5 : ∀ q ∈ hb_c107_5, decode hb_h107.2.1 q.1 = .ok q.2 := px_rwc_ok (by decide +kernel)
theorem hb_d107_6 : ∀ q ∈ hb_c107_6, decode hb_h107.2.1 q.1 = .ok q.2 := px_rwc_ok (by decide +kernel)
theorem hb_d107_7 : ∀ q ∈ hb_c107_7, decode hb_h107.2.1 q.1 = .ok q.2 := px_rwc_ok (by decide +kernel)
theorem hb_d107_8 : ∀ q ∈ hb_c107_8, decode hb_h107.2.1 q.1 = .ok q.2 := px_rwc_ok (by decide +kernel)
theorem hb_d107_9 : ∀ q ∈ hb_c107_9, decode hb_h107.2.1 q.1 = .ok q.2 := px_rwc_ok (by decide +kernel)
theorem hb_d107_10 : ∀ q ∈ hb_c107_10, decode hb_h107.2.1 q.1 = .ok q.2 := px_rwc_ok (by decide +kernel)
theorem hb_d107_11 : ∀ q ∈ hb_c107_11, decode hb_h107.2.1 q.1 = .ok q.2 := px_rwc_ok (by decide +kernel)
theorem hb_d107_12 : ∀ q ∈ hb_c107_12, decode hb_h107.2.1 q.1 = .ok q.2 := px_rwc_ok (by decide +kernel)
set_option maxRecDepth 100000 in
theorem hb_w107 : lw_tbl[895]? = some (Cond.code hb_h107.1 hb_h107.2.1 hb_h107.2.2.1 hb_h107.2.2.2.1) := by rfl
theorem hb_g107 : px_bM hb_h107 103 = true := by decide +kernel
set_option maxRecDepth 100000 in
theorem hb_o107 : px_okM px_Ts px_Ns hb_cl hb_SL hb_P hb_m107 := ⟨px_bM_ok hb_w107 hb_g107, List.forall_mem_append.mpr ⟨hb_d107_0, List.forall_mem_append.mpr ⟨hb_d107_1, List.forall_mem_append.mpr ⟨hb_d107_2, List.forall_mem_append.mpr ⟨hb_d107_3, List.forall_mem_append.mpr ⟨hb_d107_4, List.forall_mem_append.mpr ⟨hb_d107_5, List.forall_mem_append.mpr ⟨hb_d107_6, List.forall_mem_append.mpr ⟨hb_d107_7, List.forall_mem_append.mpr ⟨hb_d107_8, List.forall_mem_append.mpr ⟨hb_d107_9, List.forall_mem_append.mpr ⟨hb_d107_10, List.forall_mem_append.mpr ⟨hb_d107_11, hb_d107_12⟩⟩⟩⟩⟩⟩⟩⟩⟩⟩⟩⟩, px_bL_ok hb_l8⟩
theorem hb_d108_0 : ∀ q ∈ hb_c108_0, decode hb_h108.2.1 q.1 = .ok q.2 := px_rwc_ok (by decide +kernel)
theorem hb_d108_1 : ∀ q ∈ hb_c108_1, decode hb_h108.2.1 q.1 = .ok q.2 := px_rwc_ok (by decide +kernel)
theorem hb_d108_2 : ∀ q ∈ hb_c108_2, decode hb_h108.2.1 q.1 = .ok q.2 := px_rwc_ok (by decide +kernel)
theorem hb_d108_3 : ∀ q ∈ hb_c108_3, decode hb_h108.2.1 q.1 = .ok q.2 := px_rwc_ok (by decide +kernel)
set_option maxRecDepth 100000 in
theorem hb_w108 : lw_tbl[179]? = some (Cond.code hb_h108.1 hb_h108.2.1 hb_h108.2.2.1 hb_h108.2.2.2.1) := by rfl
theorem hb_g108 : px_bM hb_h108 97 = true := by decide +kernel
set_option maxRecDepth 100000 in
theorem hb_o108 : px_okM px_Ts px_Ns hb_cl hb_SL hb_P hb_m108 := ⟨px_bM_ok hb_w108 hb_g108, List.forall_mem_append.mpr ⟨hb_d108_0, List.forall_mem_append.mpr ⟨hb_d108_1, List.forall_mem_append.mpr ⟨hb_d108_2, hb_d108_3⟩⟩⟩, px_bL_ok hb_l9⟩
theorem hb_d109_0 : ∀ q ∈ hb_c109_0, decode hb_h109.2.1 q.1 = .ok q.2 := px_rwc_ok (by decide +kernel)
theorem hb_d109_1 : ∀ q ∈ hb_c109_1, decode hb_h109.2.1 q.1 = .ok q.2 := px_rwc_ok (by decide +kernel)
theorem hb_d109_2 : ∀ q ∈ hb_c109_2, decode hb_h109.2.1 q.1 = .ok q.2 := px_rwc_ok (by decide +kernel)
theorem hb_d109_3 : ∀ q ∈ hb_c109_3, decode hb_h109.2.1 q.1 = .ok q.2 := px_rwc_ok (by decide +kernel)
set_option maxRecDepth 100000 in
theorem hb_w109 : lw_tbl[1406]? = some (Cond.code hb_h109.1 hb_h109.2.1 hb_h109.2.2.1 hb_h109.2.2.2.1) := by rfl
theorem hb_g109 : px_bM hb_h109 97 = true := by decide +kernel
set_option maxRecDepth 100000 in
theorem hb_o109 : px_okM px_Ts px_Ns hb_cl hb_SL hb_P hb_m109 := ⟨px_bM_ok hb_w109 hb_g109, List.forall_mem_append.mpr ⟨hb_d109_0, List.forall_mem_append.mpr ⟨hb_d109_1, List.forall_mem_append.mpr ⟨hb_d109_2, hb_d109_3⟩⟩⟩, px_bL_ok hb_l9⟩
theorem hb_d110_0 : ∀ q ∈ hb_c110_0, decode hb_h110.2.1 q.1 = .ok q.2 := px_rwc_ok (by decide +kernel)
set_option maxRecDepth 100000 in
theorem hb_w110 : lw_tbl[704]? = some (Cond.code hb_h110.1 hb_h110.2.1 hb_h110.2.2.1 hb_h110.2.2.2.1) := by rfl
theorem hb_g110 : px_bM hb_h110 97 = true := by decide +kernel
set_option maxRecDepth 100000 in
theorem hb_o110 : px_okM px_Ts px_Ns hb_cl hb_SL hb_P hb_m110 := ⟨px_bM_ok hb_w110 hb_g110, hb_d110_0, px_bL_ok hb_l9⟩
theorem hb_d111_0 : ∀ q ∈ hb_c111_0, decode hb_h111.2.1 q.1 = .ok q.2 := px_rwc_ok (by decide +kernel)
theorem hb_d111_1 : ∀ q ∈ hb_c111_1, decode hb_h111.2.1 q.1 = .ok q.2 := px_rwc_ok (by decide +kernel)
theorem hb_d111_2 : ∀ q ∈ hb_c111_2, decode hb_h111.2.1 q.1 = .ok q.2 := px_rwc_ok (by decide +kernel)
theorem hb_d111_3 : ∀ q ∈ hb_c111_3, decode hb_h111.2.1 q.1 = .ok q.2 := px_rwc_ok (by decide +kernel)
theorem hb_d111_4 : ∀ q ∈ hb_c111_4, decode hb_h111.2.1 q.1 = .ok q.2 := px_rwc_ok (by decide +kernel)
theorem hb_d111_5 : ∀ q ∈ hb_c111_5, decode hb_h111.2.1 q.1 = .ok q.2 := px_rwc_ok (by decide +kernel)
theorem hb_d111_6 : ∀ q ∈ hb_c111_6, decode hb_h111.2.1 q.1 = .ok q.2 := px_rwc_ok (by decide +kernel)
theorem hb_d111_7 : ∀ q ∈ hb_c111_7, decode hb_h111.2.1 q.1 = .ok q.2 := px_rwc_ok (by decide +kernel)
theorem hb_d111_8 : ∀ q ∈ hb_c111_8, decode hb_h111.2.1 q.1 = .ok q.2 := px_rwc_ok (by decide +kernel)
theorem hb_d111_9 : ∀ q ∈ hb_c111_9, decode hb_h111.2.1 q.1 = .ok q.2 := px_rwc_ok (by decide +kernel)
theorem hb_d111_10 : ∀ q ∈ hb_c111_10, decode hb_h111.2.1 q.1 = .ok q.2 := px_rwc_ok (by decide +kernel)
set_option maxRecDepth 100000 in
theorem hb_w111 : lw_tbl[749]? = some (Cond.code hb_h111.1 hb_h111.2.1 hb_h111.2.2.1 hb_h111.2.2.2.1) := by rfl
theorem hb_g111 : px_bM hb_h111 97 = true := by decide +kernel
set_option maxRecDepth 100000 in
theorem hb_o111 : px_okM px_Ts px_Ns hb_cl hb_SL hb_P hb_m111 := ⟨px_bM_ok hb_w111 hb_g111, List.forall_mem_append.mpr ⟨hb_d111_0, List.forall_mem_append.mpr ⟨hb_d111_1, List.forall_mem_append.mpr ⟨hb_d111_2, List.forall_mem_append.mpr ⟨hb_d111_3, List.forall_mem_append.mpr ⟨hb_d111_4, List.forall_mem_append.mpr ⟨hb_d111_5, List.forall_mem_append.mpr ⟨hb_d111_6, List.forall_mem_append.mpr ⟨hb_d111_7, List.forall_mem_append.mpr ⟨hb_d111_8, List.forall_mem_append.mpr ⟨hb_d111_9, hb_d111_10⟩⟩⟩⟩⟩⟩⟩⟩⟩⟩, px_bL_ok hb_l9⟩
theorem hb_d112_0 : ∀ q ∈ hb_c112_0, decode hb_h112.2.1 q.1 = .ok q.2 := px_rwc_ok (by decide +kernel)
theorem hb_d112_1 : ∀ q ∈ hb_c112_1, decode hb_h112.2.1 q.1 = .ok q.2 := px_rwc_ok (by decide +kernel)
theorem hb_d112_2 : ∀ q ∈ hb_c112_2, decode hb_h112.2.1 q.1 = .ok q.2 := px_rwc_ok (by decide +kernel)
theorem hb_d112_3 : ∀ q ∈ hb_c112_3, decode hb_h112.2.1 q.1 = .ok q.2 := px_rwc_ok (by decide +kernel)
theorem hb_d112_4 : ∀ q ∈ hb_c112_4, decode hb_h112.2.1 q.1 = .ok q.2 := px_rwc_ok (by decide +kernel)
theorem hb_d112_5 : ∀ q ∈ hb_c112_5, decode hb_h112.2.1 q.1 = .ok q.2 := px_rwc_ok (by decide +kernel)
theorem hb_d112_6 : ∀ q ∈ hb_c112_6, decode hb_h112.2.1 q.1 = .ok q.2 := px_rwc_ok (by decide +kernel)
set_option maxRecDepth 100000 in
theorem hb_w112 : lw_tbl[757]? = some (Cond.code hb_h112.1 hb_h112.2.1 hb_h112.2.2.1 hb_h112.2.2.2.1) := by rfl
theorem hb_g112 : px_bM hb_h112 97 = true := by decide +kernel
set_option maxRecDepth 100000 in
theorem hb_o112 : px_okM px_Ts px_Ns hb_cl hb_SL hb_P hb_m112 := ⟨px_bM_ok hb_w112 hb_g112, List.forall_mem_append.mpr ⟨hb_d112_0, List.forall_mem_append.mpr ⟨hb_d112_1, List.forall_mem_append.mpr ⟨hb_d112_2, List.forall_mem_append.mpr ⟨hb_d112_3, List.forall_mem_append.mpr ⟨hb_d112_4, List.forall_mem_append.mpr ⟨hb_d112_5, hb_d112_6⟩⟩⟩⟩⟩⟩, px_bL_ok hb_l9⟩
theorem hb_d113_0 : ∀ q ∈ hb_c113_0, decode hb_h113.2.1 q.1 = .ok q.2 := px_rwc_ok (by decide +kernel)
theorem hb_d113_1 : ∀ q ∈ hb_c113_1, decode hb_h113.2.1 q.1 = .ok q.2 := px_rwc_ok (by decide +kernel)
theorem hb_d113_2 : ∀ q ∈ hb_c113_2, decode hb_h113.2.1 q.1 = .ok q.2 := px_rwc_ok (by decide +kernel)
theorem hb_d113_3 : ∀ q ∈ hb_c113_3, decode hb_h113.2.1 q.1 = .ok q.2 := px_rwc_ok (by decide +kernel)
theorem hb_d113_4 : ∀ q ∈ hb_c113_4, decode hb_h113.2.1 q.1 = .ok q.2 := px_rwc_ok (by decide +kernel)
theorem hb_d113_5 : ∀ q ∈ hb_c113_5, decode hb_h113.2.1 q.1 = .ok q.2 := px_rwc_ok (by decide +kernel)
theorem hb_d113_6 : ∀ q ∈ hb_c113_6, decode hb_h113.2.1 q.1 = .ok q.2 := px_rwc_ok (by decide +kernel)
theorem hb_d113_7 : ∀ q ∈ hb_c113_7, decode hb_h113.2.1 q.1 = .ok q.2 := px_rwc_ok (by decide +kernel)
set_option maxRecDepth 100000 in
theorem hb_w113 : lw_tbl[768]? = some (Cond.code hb_h113.1 hb_h113.2.1 hb_h113.2.2.1 hb_h113.2.2.2.1) := by rfl
theorem hb_g113 : px_bM hb_h113 97 = true := by decide +kernel
set_option maxRecDepth 100000 in
theorem hb_o113 : px_okM px_Ts px_Ns hb_cl hb_SL hb_P hb_m113 := ⟨px_bM_ok hb_w113 hb_g113, List.forall_mem_append.mpr ⟨hb_d113_0, List.forall_mem_append.mpr ⟨hb_d113_1, List.forall_mem_append.mpr ⟨hb_d113_2, List.forall_mem_append.mpr ⟨hb_d113_3, List.forall_mem_append.mpr ⟨hb_d113_4, List.forall_mem_append.mpr ⟨hb_d113_5, List.forall_mem_append.mpr ⟨hb_d113_6, hb_d113_7⟩⟩⟩⟩⟩⟩⟩, px_bL_ok hb_l9⟩
theorem hb_d114_0 : ∀ q ∈ hb_c114_0, decode hb_h114.2.1 q.1 = .ok q.2 := px_rwc_ok (by decide +kernel)
theorem hb_d114_1 : ∀ q ∈ hb_c114_1, decode hb_h114.2.1 q.1 = .ok q.2 := px_rwc_ok (by decide +kernel)
theorem hb_d114_2 : ∀ q ∈ hb_c114_2, decode hb_h114.2.1 q.1 = .ok q.2 := px_rwc_ok (by decide +kernel)
set_option maxRecDepth 100000 in
theorem hb_w114 : lw_tbl[337]? = some (Cond.code hb_h114.1 hb_h114.2.1 hb_h114.2.2.1 hb_h114.2.2.2.1) := by rfl
theorem hb_g114 : px_bM hb_h114 100 = true := by decide +kernel
set_option maxRecDepth 100000 in
theorem hb_o114 : px_okM px_Ts px_Ns hb_cl hb_SL hb_P hb_m114 := ⟨px_bM_ok hb_w114 hb_g114, List.forall_mem_append.mpr ⟨hb_d114_0, List.forall_mem_append.mpr ⟨hb_d114_1, hb_d114_2⟩⟩, px_bL_ok hb_l10⟩
theorem hb_d115_0 : ∀ q ∈ hb_c115_0, decode hb_h115.2.1 q.1 = .ok q.2 := px_rwc_ok (by decide +kernel)
theorem hb_d115_1 : ∀ q ∈ hb_c115_1, decode hb_h115.2.1 q.1 = .ok q.2 := px_rwc_ok (by decide +kernel)
theorem hb_d115_2 : ∀ q ∈ hb_c115_2, decode hb_h115.2.1 q.1 = .ok q.2 := px_rwc_ok (by decide +kernel)
theorem hb_d115_3 : ∀ q ∈ hb_c115_3, decode hb_h115.2.1 q.1 = .ok q.2 := px_rwc_ok (by decide +kernel)
set_option maxRecDepth 100000 in
theorem hb_w115 : lw_tbl[1421]? = some (Cond.code hb_h115.1 hb_h115.2.1 hb_h115.2.2.1 hb_h115.2.2.2.1) := by rfl
theorem hb_g115 : px_bM hb_h115 100 = true := by decide +kernel
set_option maxRecDepth 100000 in
theorem hb_o115 : px_okM px_Ts px_Ns hb_cl hb_SL hb_P hb_m115 := ⟨px_bM_ok hb_w115 hb_g115, List.forall_mem_append.mpr ⟨hb_d115_0, List.forall_mem_append.mpr ⟨hb_d115_1, List.forall_mem_append.mpr ⟨hb_d115_2, hb_d115_3⟩⟩⟩, px_bL_ok hb_l10⟩
theorem hb_d116_0 : ∀ q ∈ hb_c116_0, decode hb_h116.2.1 q.1 = .ok q.2 := px_rwc_ok (by decide +kernel)
theorem hb_d116_1 : ∀ q ∈ hb_c116_1, decode hb_h116.2.1 q.1 = .ok q.2 := px_rwc_ok (by decide +kernel)
theorem hb_d116_2 : ∀ q ∈ hb_c116_2, decode hb_h116.2.1 q.1 = .ok q.2 := px_rwc_ok (by decide +kernel)
theorem hb_d116_3 : ∀ q ∈ hb_c116_3, decode hb_h116.2.1 q.1 = .ok q.2 := px_rwc_ok (by decide +kernel)
set_option maxRecDepth 100000 in
theorem hb_w116 : lw_tbl[986]? = some (Cond.code hb_h116.1 hb_h116.2.1 hb_h116.2.2.1 hb_h116.2.2.2.1) := by rfl
theorem hb_g116 : px_bM hb_h116 100 = true := by decide +kernel
set_option maxRecDepth 100000 in
theorem hb_o116 : px_okM px_Ts px_Ns hb_cl hb_SL hb_P hb_m116 := ⟨px_bM_ok hb_w116 hb_g116, List.forall_mem_append.mpr ⟨hb_d116_0, List.forall_mem_append.mpr ⟨hb_d116_1, List.forall_mem_append.mpr ⟨hb_d116_2, hb_d116_3⟩⟩⟩, px_bL_ok hb_l10⟩
theorem hb_d117_0 : ∀ q ∈ hb_c117_0, decode hb_h117.2.1 q.1 = .ok q.2 := px_rwc_ok (by decide +kernel)
theorem hb_d117_1 : ∀ q ∈ hb_c117_1, decode hb_h117.2.1 q.1 = .ok q.2 := px_rwc_ok (by decide +kernel)
theorem hb_d117_2 : ∀ q ∈ hb_c117_2, decode hb_h117.2.1 q.1 = .ok q.2 := px_rwc_ok (by decide +kernel)
set_option maxRecDepth 100000 in
theorem hb_w117 : lw_tbl[990]? = some (Cond.code hb_h117.1 hb_h117.2.1 hb_h117.2.2.1 hb_h117.2.2.2.1) := by rfl
theorem hb_g117 : px_bM hb_h117 100 = true := by decide +kernel
set_option maxRecDepth 100000 in
theorem hb_o117 : px_okM px_Ts px_Ns hb_cl hb_SL hb_P hb_m117 := ⟨px_bM_ok hb_w117 hb_g117, List.forall_mem_append.mpr ⟨hb_d117_0, List.forall_mem_append.mpr ⟨hb_d117_1, hb_d117_2⟩⟩, px_bL_ok hb_l10⟩
theorem hb_d118_0 : ∀ q ∈ hb_c118_0, decode hb_h118.2.1 q.1 = .ok q.2 := px_rwc_ok (by decide +kernel)
theorem hb_d118_1 : ∀ q ∈ hb_c118_1, decode hb_h118.2.1 q.1 = .ok q.2 := px_rwc_ok (by decide +kernel)
theorem hb_d118_2 : ∀ q ∈ hb_c118_2, decode hb_h118.2.1 q.1 = .ok q.2 := px_rwc_ok (by decide +kernel)
theorem hb_d118_3 : ∀ q ∈ hb_c118_3, decode hb_h118.2.1 q.1 = .ok q.2 := px_rwc_ok (by decide +kernel)
set_option maxRecDepth 100000 in
theorem hb_w118 : lw_tbl[999]? = some (Cond.code hb_h118.1 hb_h118.2.1 hb_h118.2.2.1 hb_h118.2.2.2.1) := by rfl
theorem hb_g118 : px_bM hb_h118 100 = true := by decide +kernel
set_option maxRecDepth 100000 in
theorem hb_o118 : px_okM px_Ts px_Ns hb_cl hb_SL hb_P hb_m118 := ⟨px_bM_ok hb_w118 hb_g118, List.forall_mem_append.mpr ⟨hb_d118_0, List.forall_mem_append.mpr ⟨hb_d118_1, List.forall_mem_append.mpr ⟨hb_d118_2, hb_d118_3⟩⟩⟩, px_bL_ok hb_l10⟩
theorem hb_d119_0 : ∀ q ∈ hb_c119_0, decode hb_h119.2.1 q.1 = .ok q.2 := px_rwc_ok (by decide +kernel)
theorem hb_d119_1 : ∀ q ∈ hb_c119_1, decode hb_h119.2.1 q.1 = .ok q.2 := px_rwc_ok (by decide +kernel)
theorem hb_d119_2 : ∀ q ∈ hb_c119_2, decode hb_h119.2.1 q.1 = .ok q.2 := px_rwc_ok (by decide +kernel)
theorem hb_d119_3 : ∀ q ∈ hb_c119_3, decode hb_h119.2.1 q.1 = .ok q.2 := px_rwc_ok (by decide +kernel)
theorem hb_d119_4 : ∀ q ∈ hb_c119_4, decode hb_h119.2.1 q.1 = .ok q.2 := px_rwc_ok (by decide +kernel)
theorem hb_d119_5 : ∀ q ∈ hb_c119_5, decode hb_h119.2.1 q.1 = .ok q.2 := px_rwc_ok (by decide +kernel)
theorem hb_d119_6 : ∀ q ∈ hb_c119_6, decode hb_h119.2.1 q.1 = .ok q.2 := px_rwc_ok (by decide +kernel)
set_option maxRecDepth 100000 in
theorem hb_w119 : lw_tbl[1007]? = some (Cond.code hb_h119.1 hb_h119.2.1 hb_h119.2.2.1 hb_h119.2.2.2.1) := by rfl
theorem hb_g119 : px_bM hb_h119 100 = true := by decide +kernel
set_option maxRecDepth 100000 in
theorem hb_o119 : px_okM px_Ts px_Ns hb_cl hb_SL hb_P hb_m119 := ⟨px_bM_ok hb_w119 hb_g119, List.forall_mem_append.mpr ⟨hb_d119_0, List.forall_mem_append.mpr ⟨hb_d119_1, List.forall_mem_append.mpr ⟨hb_d119_2, List.forall_mem_append.mpr ⟨hb_d119_3, List.forall_mem_append.mpr ⟨hb_d119_4, List.forall_mem_append.mpr ⟨hb_d119_5, hb_d119_6⟩⟩⟩⟩⟩⟩, px_bL_ok hb_l10⟩

end

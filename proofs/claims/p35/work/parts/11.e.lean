noncomputable section
theorem hb_d80_0 : ∀ q ∈ hb_c80_0, decode hb_h80.2.1 q.1 = .ok q.2 := px_rwc_ok (by decide +kernel)
theorem hb_d80_1 : ∀ q ∈ hb_c80_1, decode hb_h80.2.1 q.1 = .ok q.2 := px_rwc_ok (by decide +kernel)
theorem hb_d80_2 : ∀ q ∈ hb_c80_2, decode hb_h80.2.1 q.1 = .ok q.2 := px_rwc_ok (by decide +kernel)
theorem hb_d80_3 : ∀ q ∈ hb_c80_3, decode hb_h80.2.1 q.1 = .ok q.2 := px_rwc_ok (by decide +kernel)
set_option maxRecDepth 100000 in
theorem hb_w80 : lw_tbl[1221]? = some (Cond.code hb_h80.1 hb_h80.2.1 hb_h80.2.2.1 hb_h80.2.2.2.1) := by rfl
theorem hb_g80 : px_bM hb_h80 101 = true := by decide +kernel
set_option maxRecDepth 100000 in
theorem hb_o80 : px_okM px_Ts px_Ns hb_cl hb_SL hb_P hb_m80 := ⟨px_bM_ok hb_w80 hb_g80, List.forall_mem_append.mpr ⟨hb_d80_0, List.forall_mem_append.mpr ⟨hb_d80_1, List.forall_mem_append.mpr ⟨hb_d80_2, hb_d80_3⟩⟩⟩, px_bL_ok hb_l6⟩
theorem hb_d81_0 : ∀ q ∈ hb_c81_0, decode hb_h81.2.1 q.1 = .ok q.2 := px_rwc_ok (by decide +kernel)
theorem hb_d81_1 : ∀ q ∈ hb_c81_1, decode hb_h81.2.1 q.1 = .ok q.2 := px_rwc_ok (by decide +kernel)
theorem hb_d81_2 : ∀ q ∈ hb_c81_2, decode hb_h81.2.1 q.1 = .ok q.2 := px_rwc_ok (by decide +kernel)
theorem hb_d81_3 : ∀ q ∈ hb_c81_3, decode hb_h81.2.1 q.1 = .ok q.2 := px_rwc_ok (by decide +kernel)
theorem hb_d81_4 : ∀ q ∈ hb_c81_4, decode hb_h81.2.1 q.1 = .ok q.2 := px_rwc_ok (by decide +kernel)
set_option maxRecDepth 100000 in
theorem hb_w81 : lw_tbl[1229]? = some (Cond.code hb_h81.1 hb_h81.2.1 hb_h81.2.2.1 hb_h81.2.2.2.1) := by rfl
theorem hb_g81 : px_bM hb_h81 101 = true := by decide +kernel
set_option maxRecDepth 100000 in
theorem hb_o81 : px_okM px_Ts px_Ns hb_cl hb_SL hb_P hb_m81 := ⟨px_bM_ok hb_w81 hb_g81, List.forall_mem_append.mpr ⟨hb_d81_0, List.forall_mem_append.mpr ⟨hb_d81_1, List.forall_mem_append.mpr ⟨hb_d81_2, List.forall_mem_append.mpr ⟨hb_d81_3, hb_d81_4⟩⟩⟩⟩, px_bL_ok hb_l6⟩
theorem hb_d82_0 : ∀ q ∈ hb_c82_0, decode hb_h82.2.1 q.1 = .ok q.2 := px_rwc_ok (by decide +kernel)
theorem hb_d82_1 : ∀ q ∈ hb_c82_1, decode hb_h82.2.1 q.1 = .ok q.2 := px_rwc_ok (by decide +kernel)
theorem hb_d82_2 : ∀ q ∈ hb_c82_2, decode hb_h82.2.1 q.1 = .ok q.2 := px_rwc_ok (by decide +kernel)
set_option maxRecDepth 100000 in
theorem hb_w82 : lw_tbl[1208]? = some (Cond.code hb_h82.1 hb_h82.2.1 hb_h82.2.2.1 hb_h82.2.2.2.1) := by rfl
theorem hb_g82 : px_bM hb_h82 101 = true := by decide +kernel
set_option maxRecDepth 100000 in
theorem hb_o82 : px_okM px_Ts px_Ns hb_cl hb_SL hb_P hb_m82 := ⟨px_bM_ok hb_w82 hb_g82, List.forall_mem_append.mpr ⟨hb_d82_0, List.forall_mem_append.mpr ⟨hb_d82_1, hb_d82_2⟩⟩, px_bL_ok hb_l6⟩
theorem hb_d83_0 : ∀ q ∈ hb_c83_0, decode hb_h83.2.1 q.1 = .ok q.2 := px_rwc_ok (by decide +kernel)
theorem hb_d83_1 : ∀ q ∈ hb_c83_1, decode hb_h83.2.1 q.1 = .ok q.2 := px_rwc_ok (by decide +kernel)
theorem hb_d83_2 : ∀ q ∈ hb_c83_2, decode hb_h83.2.1 q.1 = .ok q.2 := px_rwc_ok (by decide +kernel)
theorem hb_d83_3 : ∀ q ∈ hb_c83_3, decode hb_h83.2.1 q.1 = .ok q.2 := px_rwc_ok (by decide +kernel)
theorem hb_d83_4 : ∀ q ∈ hb_c83_4, decode hb_h83.2.1 q.1 = .ok q.2 := px_rwc_ok (by decide +kernel)
set_option maxRecDepth 100000 in
theorem hb_w83 : lw_tbl[1204]? = some (Cond.code hb_h83.1 hb_h83.2.1 hb_h83.2.2.1 hb_h83.2.2.2.1) := by rfl
theorem hb_g83 : px_bM hb_h83 101 = true := by decide +kernel
set_option maxRecDepth 100000 in
theorem hb_o83 : px_okM px_Ts px_Ns hb_cl hb_SL hb_P hb_m83 := ⟨px_bM_ok hb_w83 hb_g83, List.forall_mem_append.mpr ⟨hb_d83_0, List.forall_mem_append.mpr ⟨hb_d83_1, List.forall_mem_append.mpr ⟨hb_d83_2, List.forall_mem_append.mpr ⟨hb_d83_3, hb_d83_4⟩⟩⟩⟩, px_bL_ok hb_l6⟩
theorem hb_d84_0 : ∀ q ∈ hb_c84_0, decode hb_h84.2.1 q.1 = .ok q.2 := px_rwc_ok (by decide +kernel)
theorem hb_d84_1 : ∀ q ∈ hb_c84_1, decode hb_h84.2.1 q.1 = .ok q.2 := px_rwc_ok (by decide +kernel)
theorem hb_d84_2 : ∀ q ∈ hb_c84_2, decode hb_h84.2.1 q.1 = .ok q.2 := px_rwc_ok (by decide +kernel)
theorem hb_d84_3 : ∀ q ∈ hb_c84_3, decode hb_h84.2.1 q.1 = .ok q.2 := px_rwc_ok (by decide +kernel)
theorem hb_d84_4 : ∀ q ∈ hb_c84_4, decode hb_h84.2.1 q.1 = .ok q.2 := px_rwc_ok (by decide +kernel)
theorem hb_d84_5 : ∀ q ∈ hb_c84_5, decode hb_h84.2.1 q.1 = .ok q.2 := px_rwc_ok (by decide +kernel)
theorem hb_d84_6 : ∀ q ∈ hb_c84_6, decode hb_h84.2.1 q.1 = .ok q.2 := px_rwc_ok (by decide +kernel)
theorem hb_d84_7 : ∀ q ∈ hb_c84_7, decode hb_h84.2.1 q.1 = .ok q.2 := px_rwc_ok (by decide +kernel)
theorem hb_d84_8 : ∀ q ∈ hb_c84_8, decode hb_h84.2.1 q.1 = .ok q.2 := px_rwc_ok (by decide +kernel)
theorem hb_d84_9 : ∀ q ∈ hb_c84_9, decode hb_h84.2.1 q.1 = .ok q.2 := px_rwc_ok (by decide +kernel)
theorem hb_d84_10 : ∀ q ∈ hb_c84_10, decode hb_h84.2.1 q.1 = .ok q.2 := px_rwc_ok (by decide +kernel)
theorem hb_d84_11 : ∀ q ∈ hb_c84_11, decode hb_h84.2.1 q.1 = .ok q.2 := px_rwc_ok (by decide +kernel)
theorem hb_d84_12 : ∀ q ∈ hb_c84_12, decode hb_h84.2.1 q.1 = .ok q.2 := px_rwc_ok (by decide +kernel)
theorem hb_d84_13 : ∀ q ∈ hb_c84_13, decode hb_h84.2.1 q.1 = .ok q.2 := px_rwc_ok (by decide +kernel)
set_option maxRecDepth 100000 in
theorem hb_w84 : lw_tbl[1233]? = some (Cond.code hb_h84.1 hb_h84.2.1 hb_h84.2.2.1 hb_h84.2.2.2.1) := by rfl
theorem hb_g84 : px_bM hb_h84 101 = true := by decide +kernel
set_option maxRecDepth 100000 in
theorem hb_o84 : px_okM px_Ts px_Ns hb_cl hb_SL hb_P hb_m84 := ⟨px_bM_ok hb_w84 hb_g84, List.forall_mem_append.mpr ⟨hb_d84_0, List.forall_mem_append.mpr ⟨hb_d84_1, List.forall_mem_append.mpr ⟨hb_d84_2, List.forall_mem_append.mpr ⟨hb_d84_3, List.forall_mem_append.mpr ⟨hb_d84_4, List.forall_mem_append.mpr ⟨hb_d84_5, List.forall_mem_append.mpr ⟨hb_d84_6, List.forall_mem_append.mpr ⟨hb_d84_7, List.forall_mem_append.mpr ⟨hb_d84_8, List.forall_mem_append.mpr ⟨hb_d84_9, List.forall_mem_append.mpr ⟨hb_d84_10, List.forall_mem_append.mpr ⟨hb_d84_11, List.forall_mem_append.mpr ⟨hb_d84_12, hb_d84_13⟩⟩⟩⟩⟩⟩⟩⟩⟩⟩⟩⟩⟩, px_bL_ok hb_l6⟩
theorem hb_d85_0 : ∀ q ∈ hb_c85_0, decode hb_h85.2.1 q.1 = .ok q.2 := px_rwc_ok (by decide +kernel)
theorem hb_d85_1 : ∀ q ∈ hb_c85_1, decode hb_h85.2.1 q.1 = .ok q.2 := px_rwc_ok (by decide +kernel)
theorem hb_d85_2 : ∀ q ∈ hb_c85_2, decode hb_h85.2.1 q.1 = .ok q.2 := px_rwc_ok (by decide +kernel)
theorem hb_d85_3 : ∀ q ∈ hb_c85_3, decode hb_h85.2.1 q.1 = .ok q.2 := px_rwc_ok (by decide +kernel)
theorem hb_d85_4 : ∀ q ∈ hb_c85_4, decode hb_h85.2.1 q.1 = .ok q.2 := px_rwc_ok (by decide +kernel)
theorem hb_d85_5 : ∀ q ∈ hb_c85_5, decode hb_h85.2.1 q.1 = .ok q.2 := px_rwc_ok (by decide +kernel)
theorem hb_d85_6 : ∀ q ∈ hb_c85_6, decode hb_h85.2.1 q.1 = .ok q.2 := px_rwc_ok (by decide +kernel)
theorem hb_d85_7 : ∀ q ∈ hb_c85_7, decode hb_h85.2.1 q.1 = .ok q.2 := px_rwc_ok (by decide +kernel)
theorem hb_d85_8 : ∀ q ∈ hb_c85_8, decode hb_h85.2.1 q.1 = .ok q.2 := px_rwc_ok (by decide +kernel)
theorem hb_d85_9 : ∀ q ∈ hb_c85_9, decode hb_h85.2.1 q.1 = .ok q.2 := px_rwc_ok (by decide +kernel)
set_option maxRecDepth 100000 in
theorem hb_w85 : lw_tbl[1236]? = some (Cond.code hb_h85.1 hb_h85.2.1 hb_h85.2.2.1 hb_h85.2.2.2.1) := by rfl
theorem hb_g85 : px_bM hb_h85 101 = true := by decide +kernel
set_option maxRecDepth 100000 in
theorem hb_o85 : px_okM px_Ts px_Ns hb_cl hb_SL hb_P hb_m85 := ⟨px_bM_ok hb_w85 hb_g85, List.forall_mem_append.mpr ⟨hb_d85_0, List.forall_mem_append.mpr ⟨hb_d85_1, List.forall_mem_append.mpr ⟨hb_d85_2, List.forall_mem_append.mpr ⟨hb_d85_3, List.forall_mem_append.mpr ⟨hb_d85_4, List.forall_mem_append.mpr ⟨hb_d85_5, List.forall_mem_append.mpr ⟨hb_d85_6, List.forall_mem_append.mpr ⟨hb_d85_7, List.forall_mem_append.mpr ⟨hb_d85_8, hb_d85_9⟩⟩⟩⟩⟩⟩⟩⟩⟩, px_bL_ok hb_l6⟩
theorem hb_d86_0 : ∀ q ∈ hb_c86_0, decode hb_h86.2.1 q.1 = .ok q.2 := px_rwc_ok (by decide +kernel)
theorem hb_d86_1 : ∀ q ∈ hb_c86_1, decode hb_h86.2.1 q.1 = .ok q.2 := px_rwc_ok (by decide +kernel)
theorem hb_d86_2 : ∀ q ∈ hb_c86_2, decode hb_h86.2.1 q.1 = .ok q.2 := px_rwc_ok (by decide +kernel)
theorem hb_d86_3 : ∀ q ∈ hb_c86_3, decode hb_h86.2.1 q.1 = .ok q.2 := px_rwc_ok (by decide +kernel)
theorem hb_d86_4 : ∀ q ∈ hb_c86_4, decode hb_h86.2.1 q.1 = .ok q.2 := px_rwc_ok (by decide +kernel)
theorem hb_d86_5 : ∀ q ∈ hb_c86_5, decode hb_h86.2.1 q.1 = .ok q.2 := px_rwc_ok (by decide +kernel)
theorem hb_d86_6 : ∀ q ∈ hb_c86_6, decode hb_h86.2.1 q.1 = .ok q.2 := px_rwc_ok (by decide +kernel)
set_option maxRecDepth 100000 in
theorem hb_w86 : lw_tbl[283]? = some (Cond.code hb_h86.1 hb_h86.2.1 hb_h86.2.2.1 hb_h86.2.2.2.1) := by rfl
theorem hb_g86 : px_bM hb_h86 99 = true := by decide +kernel
set_option maxRecDepth 100000 in
theorem hb_o86 : px_okM px_Ts px_Ns hb_cl hb_SL hb_P hb_m86 := ⟨px_bM_ok hb_w86 hb_g86, List.forall_mem_append.mpr ⟨hb_d86_0, List.forall_mem_append.mpr ⟨hb_d86_1, List.forall_mem_append.mpr ⟨hb_d86_2, List.forall_mem_append.mpr ⟨hb_d86_3, List.forall_mem_append.mpr ⟨hb_d86_4, List.forall_mem_append.mpr ⟨hb_d86_5, hb_d86_6⟩⟩⟩⟩⟩⟩, px_bL_ok hb_l7⟩
theorem hb_d87_0 : ∀ q ∈ hb_c87_0, decode hb_h87.2.1 q.1 = .ok q.2 := px_rwc_ok (by decide +kernel)
theorem hb_d87_1 : ∀ q ∈ hb_c87_1, decode hb_h87.2.1 q.1 = .ok q.2 := px_rwc_ok (by decide +kernel)
theorem hb_d87_2 : ∀ q ∈ hb_c87_2, decode hb_h87.2.1 q.1 = .ok q.2 := px_rwc_ok (by decide +kernel)
theorem hb_d87_3 : ∀ q ∈ hb_c87_3, decode hb_h87.2.1 q.1 = .ok q.2 := px_rwc_ok (by decide +kernel)
theorem hb_d87_4 : ∀ q ∈ hb_c87_4, decode hb_h87.2.1 q.1 = .ok q.2 := px_rwc_ok (by decide +kernel)
theorem hb_d87_5 : ∀ q ∈ hb_c87_5, decode hb_h87.2.1 q.1 = .ok q.2 := px_rwc_ok (by decide +kernel)
theorem hb_d87_6 : ∀ q ∈ hb_c87_6, decode hb_h87.2.1 q.1 = .ok q.2 := px_rwc_ok (by decide +kernel)
theorem hb_d87_7 : ∀ q ∈ hb_c87_7, decode hb_h87.2.1 q.1 = .ok q.2 := px_rwc_ok (by decide +kernel)
set_option maxRecDepth 100000 in
theorem hb_w87 : lw_tbl[1416]? = some (Cond.code hb_h87.1 hb_h87.2.1 hb_h87.2.2.1 hb_h87.2.2.2.1) := by rfl
theorem hb_g87 : px_bM hb_h87 99 = true := by decide +kernel
set_option maxRecDepth 100000 in
theorem hb_o87 : px_okM px_Ts px_Ns hb_cl hb_SL hb_P hb_m87 := ⟨px_bM_ok hb_w87 hb_g87, List.forall_mem_append.mpr ⟨hb_d87_0, List.forall_mem_append.mpr ⟨hb_d87_1, List.forall_mem_append.mpr ⟨hb_d87_2, List.forall_mem_append.mpr ⟨hb_d87_3, List.forall_mem_append.mpr ⟨hb_d87_4, List.forall_mem_append.mpr ⟨hb_d87_5, List.forall_mem_append.mpr ⟨hb_d87_6, hb_d87_7⟩⟩⟩⟩⟩⟩⟩, px_bL_ok hb_l7⟩
theorem hb_d88_0 : ∀ q ∈ hb_c88_0, decode hb_h88.2.1 q.1 = .ok q.2 := px_rwc_ok (by decide +kernel)
theorem hb_d88_1 : ∀ q ∈ hb_c88_1, decode hb_h88.2.1 q.1 = .ok q.2 := px_rwc_ok (by decide +kernel)
theorem hb_d88_2 : ∀ q ∈ hb_c88_2, decode hb_h88.2.1 q.1 = .ok q.2 := px_rwc_ok (by decide +kernel)
theorem hb_d88_3 : ∀ q ∈ hb_c88_3, decode hb_h88.2.1 q.1 = .ok q.2 := px_rwc_ok (by decide +kernel)
theorem hb_d88_4 : ∀ q ∈ hb_c88_4, decode hb_h88.2.1 q.1 = .ok q.2 := px_rwc_ok (by decide +kernel)
theorem hb_d88_5 : ∀ q ∈ hb_c88_5, decode hb_h88.2.1 q.1 = .ok q.2 := px_rwc_ok (by decide +kernel)
theorem hb_d88_6 : ∀ q ∈ hb_c88_6, decode hb_h88.2.1 q.1 = .ok q.2 := px_rwc_ok (by decide +kernel)
set_option maxRecDepth 100000 in
theorem hb_w88 : lw_tbl[907]? = some (Cond.code hb_h88.1 hb_h88.2.1 hb_h88.2.2.1 hb_h88.2.2.2.1) := by rfl
theorem hb_g88 : px_bM hb_h88 99 = true := by decide +kernel
set_option maxRecDepth 100000 in
theorem hb_o88 : px_okM px_Ts px_Ns hb_cl hb_SL hb_P hb_m88 := ⟨px_bM_ok hb_w88 hb_g88, List.forall_mem_append.mpr ⟨hb_d88_0, List.forall_mem_append.mpr ⟨hb_d88_1, List.forall_mem_append.mpr ⟨hb_d88_2, List.forall_mem_append.mpr ⟨hb_d88_3, List.forall_mem_append.mpr ⟨hb_d88_4, List.forall_mem_append.mpr ⟨hb_d88_5, hb_d88_6⟩⟩⟩⟩⟩⟩, px_bL_ok hb_l7⟩
theorem hb_d89_0 : ∀ q ∈ hb_c89_0, decode hb_h89.2.1 q.1 = .ok q.2 := px_rwc_ok (by decide +kernel)
theorem hb_d89_1 : ∀ q ∈ hb_c89_1, decode hb_h89.2.1 q.1 = .ok q.2 := px_rwc_ok (by decide +kernel)
set_option maxRecDepth 100000 in
theorem hb_w89 : lw_tbl[922]? = some (Cond.code hb_h89.1 hb_h89.2.1 hb_h89.2.2.1 hb_h89.2.2.2.1) := by rfl
theorem hb_g89 : px_bM hb_h89 99 = true := by decide +kernel
set_option maxRecDepth 100000 in
theorem hb_o89 : px_okM px_Ts px_Ns hb_cl hb_SL hb_P hb_m89 := ⟨px_bM_ok hb_w89 hb_g89, List.forall_mem_append.mpr ⟨hb_d89_0, hb_d89_1⟩, px_bL_ok hb_l7⟩
theorem hb_d90_0 : ∀ q ∈ hb_c90_0, decode hb_h90.2.1 q.1 = .ok q.2 := px_rwc_ok (by decide +kernel)
theorem hb_d90_1 : ∀ q ∈ hb_c90_1, decode hb_h90.2.1 q.1 = .ok q.2 := px_rwc_ok (by decide +kernel)
theorem hb_d90_2 : ∀ q ∈ hb_c90_2, decode hb_h90.2.1 q.1 = .ok q.2 := px_rwc_ok (by decide +kernel)
theorem hb_d90_3 : ∀ q ∈ hb_c90_3, decode hb_h90.2.1 q.1 = .ok q.2 := px_rwc_ok (by decide +kernel)
set_option maxRecDepth 100000 in
theorem hb_w90 : lw_tbl[955]? = some (Cond.code hb_h90.1 hb_h90.2.1 hb_h90.2.2.1 hb_h90.2.2.2.1) := by rfl
theorem hb_g90 : px_bM hb_h90 99 = true := by decide +kernel
set_option maxRecDepth 100000 in
theorem hb_o90 : px_okM px_Ts px_Ns hb_cl hb_SL hb_P hb_m90 := ⟨px_bM_ok hb_w90 hb_g90, List.forall_mem_append.mpr ⟨hb_d90_0, List.forall_mem_append.mpr ⟨hb_d90_1, List.forall_mem_append.mpr ⟨hb_d90_2, hb_d90_3⟩⟩⟩, px_bL_ok hb_l7⟩
theorem hb_d91_0 : ∀ q ∈ hb_c91_0, decode hb_h91.2.1 q.1 = .ok q.2 := px_rwc_ok (by decide +kernel)
theorem hb_d91_1 : ∀ q ∈ hb_c91_1, decode hb_h91.2.1 q.1 = .ok q.2 := px_rwc_ok (by decide +kernel)
theorem hb_d91_2 : ∀ q ∈ hb_c91_2, decode hb_h91.2.1 q.1 = .ok q.2 := px_rwc_ok (by decide +kernel)
theorem hb_d91_3 : ∀ q ∈ hb_c91_3, decode hb_h91.2.1 q.1 = .ok q.2 := px_rwc_ok (by decide +kernel)
set_option maxRecDepth 100000 in
theorem hb_w91 : lw_tbl[930]? = some (Cond.code hb_h91.1 hb_h91.2.1 hb_h91.2.2.1 hb_h91.2.2.2.1) := by rfl
theorem hb_g91 : px_bM hb_h91 99 = true := by decide +kernel
set_option maxRecDepth 100000 in
theorem hb_o91 : px_okM px_Ts px_Ns hb_cl hb_SL hb_P hb_m91 := ⟨px_bM_ok hb_w91 hb_g91, List.forall_mem_append.mpr ⟨hb_d91_0, List.forall_mem_append.mpr ⟨hb_d91_1, List.forall_mem_append.mpr ⟨hb_d91_2, hb_d91_3⟩⟩⟩, px_bL_ok hb_l7⟩
theorem hb_d92_0 : ∀ q ∈ hb_c92_0, decode hb_h92.2.1 q.1 = .ok q.2 := px_rwc_ok (by decide +kernel)
theorem hb_d92_1 : ∀ q ∈ hb_c92_1, decode hb_h92.2.1 q.1 = .ok q.2 := px_rwc_ok (by decide +kernel)
theorem hb_d92_2 : ∀ q ∈ hb_c92_2, decode hb_h92.2.1 q.1 = .ok q.2 := px_rwc_ok (by decide +kernel)
theorem hb_d92_3 : ∀ q ∈ hb_c92_3, decode hb_h92.2.1 q.1 = .ok q.2 := px_rwc_ok (by decide +kernel)
set_option maxRecDepth 100000 in
theorem hb_w92 : lw_tbl[934]? = some (Cond.code hb_h92.1 hb_h92.2.1 hb_h92.2.2.1 hb_h92.2.2.2.1) := by rfl
theorem hb_g92 : px_bM hb_h92 99 = true := by decide +kernel
set_option maxRecDepth 100000 in
theorem hb_o92 : px_okM px_Ts px_Ns hb_cl hb_SL hb_P hb_m92 := ⟨px_bM_ok hb_w92 hb_g92, List.forall_mem_append.mpr ⟨hb_d92_0, List.forall_mem_append.mpr ⟨hb_d92_1, List.forall_mem_append.mpr ⟨hb_d92_2, hb_d92_3⟩⟩⟩, px_bL_ok hb_l7⟩
theorem hb_d93_0 : ∀ q ∈ hb_c93_0, decode hb_h93.2.1 q.1 = .ok q.2 := px_rwc_ok (by decide +kernel)
theorem hb_d93_1 : ∀ q ∈ hb_c93_1, decode hb_h93.2.1 q.1 = .ok q.2 := px_rwc_ok (by decide +kernel)
theorem hb_d93_2 : ∀ q ∈ hb_c93_2, decode hb_h93.2.1 q.1 = .ok q.2 := px_rwc_ok (by decide +kernel)
theorem hb_d93_3 : ∀ q ∈ hb_c93_3, decode hb_h93.2.1 q.1 = .ok q.2 := px_rwc_ok (by decide +kernel)
set_option maxRecDepth 100000 in
theorem hb_w93 : lw_tbl[947]? = some (Cond.code hb_h93.1 hb_h93.2.1 hb_h93.2.2.1 hb_h93.2.2.2.1) := by rfl
theorem hb_g93 : px_bM hb_h93 99 = true := by decide +kernel
set_option maxRecDepth 100000 in
theorem hb_o93 : px_okM px_Ts px_Ns hb_cl hb_SL hb_P hb_m93 := ⟨px_bM_ok hb_w93 hb_g93, List.forall_mem_append.mpr ⟨hb_d93_0, List.forall_mem_append.mpr ⟨hb_d93_1, List.forall_mem_append.mpr ⟨hb_d93_2, hb_d93_3⟩⟩⟩, px_bL_ok hb_l7⟩
theorem hb_d94_0 : ∀ q ∈ hb_c94_0, decode hb_h94.2.1 q.1 = .ok q.2 := px_rwc_ok (by decide +kernel)
theorem hb_d94_1 : ∀ q ∈ hb_c94_1, decode hb_h94.2.1 q.1 = .ok q.2 := px_rwc_ok (by decide +kernel)
theorem hb_d94_2 : ∀ q ∈ hb_c94_2, decode hb_h94.2.1 q.1 = .ok q.2 := px_rwc_ok (by decide +kernel)
theorem hb_d94_3 : ∀ q ∈ hb_c94_3, decode hb_h94.2.1 q.1 = .ok q.2 := px_rwc_ok (by decide +kernel)
theorem hb_d94_4 : ∀ q ∈ hb_c94_4, decode hb_h94.2.1 q.1 = .ok q.2 := px_rwc_ok (by decide +kernel)
set_option maxRecDepth 100000 in
theorem hb_w94 : lw_tbl[943]? = some (Cond.code hb_h94.1 hb_h94.2.1 hb_h94.2.2.1 hb_h94.2.2.2.1) := by rfl
theorem hb_g94 : px_bM hb_h94 99 = true := by decide +kernel
set_option maxRecDepth 100000 in
theorem hb_o94 : px_okM px_Ts px_Ns hb_cl hb_SL hb_P hb_m94 := ⟨px_bM_ok hb_w94 hb_g94, List.forall_mem_append.mpr ⟨hb_d94_0, List.forall_mem_append.mpr ⟨hb_d94_1, List.forall_mem_append.mpr ⟨hb_d94_2, List.forall_mem_append.mpr ⟨hb_d94_3, hb_d94_4⟩⟩⟩⟩, px_bL_ok hb_l7⟩
theorem hb_d95_0 : ∀ q ∈ hb_c95_0, decode hb_h95.2.1 q.1 = .ok q.2 := px_rwc_ok (by decide +kernel)
theorem hb_d95_1 : ∀ q ∈ hb_c95_1, decode hb_h95.2.1 q.1 = .ok q.2 := px_rwc_ok (by decide +kernel)
theorem hb_d95_2 : ∀ q ∈ hb_c95_2, decode hb_h95.2.1 q.1 = .ok q.2 := px_rwc_ok (by decide +kernel)
theorem hb_d95_3 : ∀ q ∈ hb_c95_3, decode hb_h95.2.1 q.1 = .ok q.2 := px_rwc_ok (by decide +kernel)
theorem hb_d95_4 : ∀ q ∈ hb_c95_4, decode hb_h95.2.1 q.1 = .ok q.2 := px_rwc_ok (by decide +kernel)
set_option maxRecDepth 100000 in
theorem hb_w95 : lw_tbl[963]? = some (Cond.code hb_h95.1 hb_h95.2.1 hb_h95.2.2.1 hb_h95.2.2.2.1) := by rfl
theorem hb_g95 : px_bM hb_h95 99 = true := by decide +kernel
set_option maxRecDepth 100000 in
theorem hb_o95 : px_okM px_Ts px_Ns hb_cl hb_SL hb_P hb_m95 := ⟨px_bM_ok hb_w95 hb_g95, List.forall_mem_append.mpr ⟨hb_d95_0, List.forall_mem_append.mpr ⟨hb_d95_1, List.forall_mem_append.mpr ⟨hb_d95_2, List.forall_mem_append.mpr ⟨hb_d95_3, hb_d95_4⟩⟩⟩⟩, px_bL_ok hb_l7⟩
theorem hb_d96_0 : ∀ q ∈ hb_c96_0, decode hb_h96.2.1 q.1 = .ok q.2 := px_rwc_ok (by decide +kernel)
theorem hb_d96_1 : ∀ q ∈ hb_c96_1, decode hb_h96.2.1 q.1 = .ok q.2 := px_rwc_ok (by decide +kernel)
theorem hb_d96_2 : ∀ q ∈ hb_c96_2, decode hb_h96.2.1 q.1 = .ok q.2 := px_rwc_ok (by decide +kernel)
theorem hb_d96_3 : ∀ q ∈ hb_c96_3, decode hb_h96.2.1 q.1 = .ok q.2 := px_rwc_ok (by decide +kernel)
theorem hb_d96_4 : ∀ q ∈ hb_c96_4, decode hb_h96.2.1 q.1 = .ok q.2 := px_rwc_ok (by decide +kernel)
set_option maxRecDepth 100000 in
theorem hb_w96 : lw_tbl[967]? = some (Cond.code hb_h96.1 hb_h96.2.1 hb_h96.2.2.1 hb_h96.2.2.2.1) := by rfl
theorem hb_g96 : px_bM hb_h96 99 = true := by decide +kernel
set_option maxRecDepth 100000 in
theorem hb_o96 : px_okM px_Ts px_Ns hb_cl hb_SL hb_P hb_m96 := ⟨px_bM_ok hb_w96 hb_g96, List.forall_mem_append.mpr ⟨hb_d96_0, List.forall_mem_append.mpr ⟨hb_d96_1, List.forall_mem_append.mpr ⟨hb_d96_2, List.forall_mem_append.mpr ⟨hb_d96_3, hb_d96_4⟩⟩⟩⟩, px_bL_ok hb_l7⟩
theorem hb_d97_0 : ∀ q ∈ hb_c97_0, decode hb_h97.2.1 q.1 = .ok q.2 := px_rwc_ok (by decide +kernel)
theorem hb_d97_1 : ∀ q ∈ hb_c97_1, decode hb_h97.2.1 q.1 = .ok q.2 := px_rwc_ok (by decide +kernel)
theorem hb_d97_2 : ∀ q ∈ hb_c97_2, decode hb_h97.2.1 q.1 = .ok q.2 := px_rwc_ok (by decide +kernel)
theorem hb_d97_3 : ∀ q ∈ hb_c97_3, decode hb_h97.2.1 q.1 = .ok q.2 := px_rwc_ok (by decide +kernel)
theorem hb_d97_4 : ∀ q ∈ hb_c97_4, decode hb_h97.2.1 q.1 = .ok q.2 := px_rwc_ok (by decide +kernel)
theorem hb_d97_5 : ∀ q ∈ hb_c97_5, decode hb_h97.2.1 q.1 = .ok q.2 := px_rwc_ok (by decide +kernel)
theorem hb_d97_6 : ∀ q ∈ hb_c97_6, decode hb_h97.2.1 q.1 = .ok q.2 := px_rwc_ok (by decide +kernel)
theorem hb_d97_7 : ∀ q ∈ hb_c97_7, decode hb_h97.2.1 q.1 = .ok q.2 := px_rwc_ok (by decide +kernel)
set_option maxRecDepth 100000 in
theorem hb_w97 : lw_tbl[442]? = some (Cond.code hb_h97.1 hb_h97.2.1 hb_h97.2.2.1 hb_h97.2.2.2.1) := by rfl
theorem hb_g97 : px_bM hb_h97 103 = true := by decide +kernel
set_option maxRecDepth 100000 in
theorem hb_o97 : px_okM px_Ts px_Ns hb_cl hb_SL hb_P hb_m97 := ⟨px_bM_ok hb_w97 hb_g97, List.forall_mem_append.mpr ⟨hb_d97_0, List.forall_mem_append.mpr ⟨hb_d97_1, List.forall_mem_append.mpr ⟨hb_d97_2, List.forall_mem_append.mpr ⟨hb_d97_3, List.forall_mem_append.mpr ⟨hb_d97_4, List.forall_mem_append.mpr ⟨hb_d97_5, List.forall_mem_append.mpr ⟨hb_d97_6, hb_d97_7⟩⟩⟩⟩⟩⟩⟩, px_bL_ok hb_l8⟩
theorem hb_d98_0 : ∀ q ∈ hb_c98_0, decode hb_h98.2.1 q.1 = .ok q.2 := px_rwc_ok (by decide +kernel)
theorem hb_d98_1 : ∀ q ∈ hb_c98_1, decode hb_h98.2.1 q.1 = .ok q.2 := px_rwc_ok (by decide +kernel)
theorem hb_d98_2 : ∀ q ∈ hb_c98_2, decode hb_h98.2.1 q.1 = .ok q.2 := px_rwc_ok (by decide +kernel)
theorem hb_d98_3 : ∀ q ∈ hb_c98_3, decode hb_h98.2.1 q.1 = .ok q.2 := px_rwc_ok (by decide +kernel)
theorem hb_d98_4 : ∀ q ∈ hb_c98_4, decode hb_h98.2.1 q.1 = .ok q.2 := px_rwc_ok (by decide +kernel)
theorem hb_d98_5 : ∀ q ∈ hb_c98_5, decode hb_h98.2.1 q.1 = .ok q.2 := px_rwc_ok (by decide +kernel)
theorem hb_d98_6 : ∀ q ∈ hb_c98_6, decode hb_h98.2.1 q.1 = .ok q.2 := px_rwc_ok (by decide +kernel)
theorem hb_d98_7 : ∀ q ∈ hb_c98_7, decode hb_h98.2.1 q.1 = .ok q.2 := px_rwc_ok (by decide +kernel)
theorem hb_d98_8 : ∀ q ∈ hb_c98_8, decode hb_h98.2.1 q.1 = .ok q.2 := px_rwc_ok (by decide +kernel)
theorem hb_d98_9 : ∀ q ∈ hb_c98_9, decode hb_h98.2.1 q.1 = .ok q.2 := px_rwc_ok (by decide +kernel)
theorem hb_d98_10 : ∀ q ∈ hb_c98_10, decode hb_h98.2.1 q.1 = .ok q.2 := px_rwc_ok (by decide +kernel)
theorem hb_d98_11 : ∀ q ∈ hb_c98_11, decode hb_h98.2.1 q.1 = .ok q.2 := px_rwc_ok (by decide +kernel)
theorem hb_d98_12 : ∀ q ∈ hb_c98_12, decode hb_h98.2.1 q.1 = .ok q.2 := px_rwc_ok (by decide +kernel)
theorem hb_d98_13 : ∀ q ∈ hb_c98_13, decode hb_h98.2.1 q.1 = .ok q.2 := px_rwc_ok (by decide +kernel)
theorem hb_d98_14 : ∀ q ∈ hb_c98_14, decode hb_h98.2.1 q.1 = .ok q.2 := px_rwc_ok (by decide +kernel)
set_option maxRecDepth 100000 in
theorem hb_w98 : lw_tbl[827]? = some (Cond.code hb_h98.1 hb_h98.2.1 hb_h98.2.2.1 hb_h98.2.2.2.1) := by rfl
theorem hb_g98 : px_bM hb_h98 103 = true := by decide +kernel
set_option maxRecDepth 100000 in
theorem hb_o98 : px_okM px_Ts px_Ns hb_cl hb_SL hb_P hb_m98 := ⟨px_bM_ok hb_w98 hb_g98, List.forall_mem_append.mpr ⟨hb_d98_0, List.forall_mem_append.mpr ⟨hb_d98_1, List.forall_mem_append.mpr ⟨hb_d98_2, List.forall_mem_append.mpr ⟨hb_d98_3, List.forall_mem_append.mpr ⟨hb_d98_4, List.forall_mem_append.mpr ⟨hb_d98_5, List.forall_mem_append.mpr ⟨hb_d98_6, List.forall_mem_append.mpr ⟨hb_d98_7, List.forall_mem_append.mpr ⟨hb_d98_8, List.forall_mem_append.mpr ⟨hb_d98_9, List.forall_mem_append.mpr ⟨hb_d98_10, List.forall_mem_append.mpr ⟨hb_d98_11, List.forall_mem_append.mpr ⟨hb_d98_12, List.forall_mem_append.mpr ⟨hb_d98_13, hb_d98_14⟩⟩⟩⟩⟩⟩⟩⟩⟩⟩⟩⟩⟩⟩, px_bL_ok hb_l8⟩
theorem hb_d99_0 : ∀ q ∈ hb_c99_0, decode hb_h99.2.1 q.1 = .ok q.2 := px_rwc_ok (by decide +kernel)
theorem hb_d99_1 : ∀ q ∈ hb_c99_1, decode hb_h99.2.1 q.1 = .ok q.2 := px_rwc_ok (by decide +kernel)
theorem hb_d99_2 : ∀ q ∈ hb_c99_2, decode hb_h99.2.1 q.1 = .ok q.2 := px_rwc_ok (by decide +kernel)
theorem hb_d99_3 : ∀ q ∈ hb_c99_3, decode hb_h99.2.1 q.1 = .ok q.2 := px_rwc_ok (by decide +kernel)
theorem hb_d99_4 : ∀ q ∈ hb_c99_4, decode hb_h99.2.1 q.1 = .ok q.2 := px_rwc_ok (by decide +kernel)
theorem hb_d99_5 : ∀ q ∈ hb_c99_5, decode hb_h99.2.1 q.1 = .ok q.2 := px_rwc_ok (by decide +kernel)
set_option maxRecDepth 100000 in
theorem hb_w99 : lw_tbl[834]? = some (Cond.code hb_h99.1 hb_h99.2.1 hb_h99.2.2.1 hb_h99.2.2.2.1) := by rfl
theorem hb_g99 : px_bM hb_h99 103 = true := by decide +kernel
set_option maxRecDepth 100000 in
theorem hb_o99 : px_okM px_Ts px_Ns hb_cl hb_SL hb_P hb_m99 := ⟨px_bM_ok hb_w99 hb_g99, List.forall_mem_append.mpr ⟨hb_d99_0, List.forall_mem_append.mpr ⟨hb_d99_1, List.forall_mem_append.mpr ⟨hb_d99_2, List.forall_mem_append.mpr ⟨hb_d99_3, List.forall_mem_append.mpr ⟨hb_d99_4, hb_d99_5⟩⟩⟩⟩⟩, px_bL_ok hb_l8⟩

end

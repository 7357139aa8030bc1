noncomputable section
theorem hb_d20_0 : ∀ q ∈ hb_c20_0, decode hb_h20.2.1 q.1 = .ok q.2 := px_rwc_ok (by decide +kernel)
theorem hb_d20_1 : ∀ q ∈ hb_c20_1, decode hb_h20.2.1 q.1 = .ok q.2 := px_rwc_ok (by decide +kernel)
theorem hb_d20_2 : ∀ q ∈ hb_c20_2, decode hb_h20.2.1 q.1 = .ok q.2 := px_rwc_ok (by decide +kernel)
theorem hb_d20_3 : ∀ q ∈ hb_c20_3, decode hb_h20.2.1 q.1 = .ok q.2 := px_rwc_ok (by decide +kernel)
theorem hb_d20_4 : ∀ q ∈ hb_c20_4, decode hb_h20.2.1 q.1 = .ok q.2 := px_rwc_ok (by decide +kernel)
theorem hb_d20_5 : ∀ q ∈ hb_c20_5, decode hb_h20.2.1 q.1 = .ok q.2 := px_rwc_ok (by decide +kernel)
theorem hb_d20_6 : ∀ q ∈ hb_c20_6, decode hb_h20.2.1 q.1 = .ok q.2 := px_rwc_ok (by decide +kernel)
theorem hb_d20_7 : ∀ q ∈ hb_c20_7, decode hb_h20.2.1 q.1 = .ok q.2 := px_rwc_ok (by decide +kernel)
theorem hb_d20_8 : ∀ q ∈ hb_c20_8, decode hb_h20.2.1 q.1 = .ok q.2 := px_rwc_ok (by decide +kernel)
theorem hb_d20_9 : ∀ q ∈ hb_c20_9, decode hb_h20.2.1 q.1 = .ok q.2 := px_rwc_ok (by decide +kernel)
set_option maxRecDepth 100000 in
theorem hb_w20 : lw_tbl[804]? = some (Cond.code hb_h20.1 hb_h20.2.1 hb_h20.2.2.1 hb_h20.2.2.2.1) := by rfl
theorem hb_g20 : px_bM hb_h20 98 = true := by decide +kernel
set_option maxRecDepth 100000 in
theorem hb_o20 : px_okM px_Ts px_Ns hb_cl hb_SL hb_P hb_m20 := ⟨px_bM_ok hb_w20 hb_g20, List.forall_mem_append.mpr ⟨hb_d20_0, List.forall_mem_append.mpr ⟨hb_d20_1, List.forall_mem_append.mpr ⟨hb_d20_2, List.forall_mem_append.mpr ⟨hb_d20_3, List.forall_mem_append.mpr ⟨hb_d20_4, List.forall_mem_append.mpr ⟨hb_d20_5, List.forall_mem_append.mpr ⟨hb_d20_6, List.forall_mem_append.mpr ⟨hb_d20_7, List.forall_mem_append.mpr ⟨hb_d20_8, hb_d20_9⟩⟩⟩⟩⟩⟩⟩⟩⟩, px_bL_ok hb_l1⟩
theorem hb_d21_0 : ∀ q ∈ hb_c21_0, decode hb_h21.2.1 q.1 = .ok q.2 := px_rwc_ok (by decide +kernel)
theorem hb_d21_1 : ∀ q ∈ hb_c21_1, decode hb_h21.2.1 q.1 = .ok q.2 := px_rwc_ok (by decide +kernel)
theorem hb_d21_2 : ∀ q ∈ hb_c21_2, decode hb_h21.2.1 q.1 = .ok q.2 := px_rwc_ok (by decide +kernel)
theorem hb_d21_3 : ∀ q ∈ hb_c21_3, decode hb_h21.2.1 q.1 = .ok q.2 := px_rwc_ok (by decide +kernel)
theorem hb_d21_4 : ∀ q ∈ hb_c21_4, decode hb_h21.2.1 q.1 = .ok q.2 := px_rwc_ok (by decide +kernel)
set_option maxRecDepth 100000 in
theorem hb_w21 : lw_tbl[809]? = some (Cond.code hb_h21.1 hb_h21.2.1 hb_h21.2.2.1 hb_h21.2.2.2.1) := by rfl
theorem hb_g21 : px_bM hb_h21 98 = true := by decide +kernel
set_option maxRecDepth 100000 in
theorem hb_o21 : px_okM px_Ts px_Ns hb_cl hb_SL hb_P hb_m21 := ⟨px_bM_ok hb_w21 hb_g21, List.forall_mem_append.mpr ⟨hb_d21_0, List.forall_mem_append.mpr ⟨hb_d21_1, List.forall_mem_append.mpr ⟨hb_d21_2, List.forall_mem_append.mpr ⟨hb_d21_3, hb_d21_4⟩⟩⟩⟩, px_bL_ok hb_l1⟩
theorem hb_d22_0 : ∀ q ∈ hb_c22_0, decode hb_h22.2.1 q.1 = .ok q.2 := px_rwc_ok (by decide +kernel)
theorem hb_d22_1 : ∀ q ∈ hb_c22_1, decode hb_h22.2.1 q.1 = .ok q.2 := px_rwc_ok (by decide +kernel)
theorem hb_d22_2 : ∀ q ∈ hb_c22_2, decode hb_h22.2.1 q.1 = .ok q.2 := px_rwc_ok (by decide +kernel)
theorem hb_d22_3 : ∀ q ∈ hb_c22_3, decode hb_h22.2.1 q.1 = .ok q.2 := px_rwc_ok (by decide +kernel)
theorem hb_d22_4 : ∀ q ∈ hb_c22_4, decode hb_h22.2.1 q.1 = .ok q.2 := px_rwc_ok (by decide +kernel)
theorem hb_d22_5 : ∀ q ∈ hb_c22_5, decode hb_h22.2.1 q.1 = .ok q.2 := px_rwc_ok (by decide +kernel)
set_option maxRecDepth 100000 in
theorem hb_w22 : lw_tbl[537]? = some (Cond.code hb_h22.1 hb_h22.2.1 hb_h22.2.2.1 hb_h22.2.2.2.1) := by rfl
theorem hb_g22 : px_bM hb_h22 105 = true := by decide +kernel
set_option maxRecDepth 100000 in
theorem hb_o22 : px_okM px_Ts px_Ns hb_cl hb_SL hb_P hb_m22 := ⟨px_bM_ok hb_w22 hb_g22, List.forall_mem_append.mpr ⟨hb_d22_0, List.forall_mem_append.mpr ⟨hb_d22_1, List.forall_mem_append.mpr ⟨hb_d22_2, List.forall_mem_append.mpr ⟨hb_d22_3, List.forall_mem_append.mpr ⟨hb_d22_4, hb_d22_5⟩⟩⟩⟩⟩, px_bL_ok hb_l2⟩
theorem hb_d23_0 : ∀ q ∈ hb_c23_0, decode hb_h23.2.1 q.1 = .ok q.2 := px_rwc_ok (by decide +kernel)
theorem hb_d23_1 : ∀ q ∈ hb_c23_1, decode hb_h23.2.1 q.1 = .ok q.2 := px_rwc_ok (by decide +kernel)
set_option maxRecDepth 100000 in
theorem hb_w23 : lw_tbl[1273]? = some (Cond.code hb_h23.1 hb_h23.2.1 hb_h23.2.2.1 hb_h23.2.2.2.1) := by rfl
theorem hb_g23 : px_bM hb_h23 105 = true := by decide +kernel
set_option maxRecDepth 100000 in
theorem hb_o23 : px_okM px_Ts px_Ns hb_cl hb_SL hb_P hb_m23 := ⟨px_bM_ok hb_w23 hb_g23, List.forall_mem_append.mpr ⟨hb_d23_0, hb_d23_1⟩, px_bL_ok hb_l2⟩
theorem hb_d24_0 : ∀ q ∈ hb_c24_0, decode hb_h24.2.1 q.1 = .ok q.2 := px_rwc_ok (by decide +kernel)
theorem hb_d24_1 : ∀ q ∈ hb_c24_1, decode hb_h24.2.1 q.1 = .ok q.2 := px_rwc_ok (by decide +kernel)
theorem hb_d24_2 : ∀ q ∈ hb_c24_2, decode hb_h24.2.1 q.1 = .ok q.2 := px_rwc_ok (by decide +kernel)
theorem hb_d24_3 : ∀ q ∈ hb_c24_3, decode hb_h24.2.1 q.1 = .ok q.2 := px_rwc_ok (by decide +kernel)
set_option maxRecDepth 100000 in
theorem hb_w24 : lw_tbl[1277]? = some (Cond.code hb_h24.1 hb_h24.2.1 hb_h24.2.2.1 hb_h24.2.2.2.1) := by rfl
theorem hb_g24 : px_bM hb_h24 105 = true := by decide +kernel
set_option maxRecDepth 100000 in
theorem hb_o24 : px_okM px_Ts px_Ns hb_cl hb_SL hb_P hb_m24 := ⟨px_bM_ok hb_w24 hb_g24, List.forall_mem_append.mpr ⟨hb_d24_0, List.forall_mem_append.mpr ⟨hb_d24_1, List.forall_mem_append.mpr ⟨hb_d24_2, hb_d24_3⟩⟩⟩, px_bL_ok hb_l2⟩
theorem hb_d25_0 : ∀ q ∈ hb_c25_0, decode hb_h25.2.1 q.1 = .ok q.2 := px_rwc_ok (by decide +kernel)
theorem hb_d25_1 : ∀ q ∈ hb_c25_1, decode hb_h25.2.1 q.1 = .ok q.2 := px_rwc_ok (by decide +kernel)
set_option maxRecDepth 100000 in
theorem hb_w25 : lw_tbl[1285]? = some (Cond.code hb_h25.1 hb_h25.2.1 hb_h25.2.2.1 hb_h25.2.2.2.1) := by rfl
theorem hb_g25 : px_bM hb_h25 105 = true := by decide +kernel
set_option maxRecDepth 100000 in
theorem hb_o25 : px_okM px_Ts px_Ns hb_cl hb_SL hb_P hb_m25 := ⟨px_bM_ok hb_w25 hb_g25, List.forall_mem_append.mpr ⟨hb_d25_0, hb_d25_1⟩, px_bL_ok hb_l2⟩
theorem hb_d26_0 : ∀ q ∈ hb_c26_0, decode hb_h26.2.1 q.1 = .ok q.2 := px_rwc_ok (by decide +kernel)
theorem hb_d26_1 : ∀ q ∈ hb_c26_1, decode hb_h26.2.1 q.1 = .ok q.2 := px_rwc_ok (by decide +kernel)
theorem hb_d26_2 : ∀ q ∈ hb_c26_2, decode hb_h26.2.1 q.1 = .ok q.2 := px_rwc_ok (by decide +kernel)
set_option maxRecDepth 100000 in
theorem hb_w26 : lw_tbl[1300]? = some (Cond.code hb_h26.1 hb_h26.2.1 hb_h26.2.2.1 hb_h26.2.2.2.1) := by rfl
theorem hb_g26 : px_bM hb_h26 105 = true := by decide +kernel
set_option maxRecDepth 100000 in
theorem hb_o26 : px_okM px_Ts px_Ns hb_cl hb_SL hb_P hb_m26 := ⟨px_bM_ok hb_w26 hb_g26, List.forall_mem_append.mpr ⟨hb_d26_0, List.forall_mem_append.mpr ⟨hb_d26_1, hb_d26_2⟩⟩, px_bL_ok hb_l2⟩
theorem hb_d27_0 : ∀ q ∈ hb_c27_0, decode hb_h27.2.1 q.1 = .ok q.2 := px_rwc_ok (by decide +kernel)
theorem hb_d27_1 : ∀ q ∈ hb_c27_1, decode hb_h27.2.1 q.1 = .ok q.2 := px_rwc_ok (by decide +kernel)
set_option maxRecDepth 100000 in
theorem hb_w27 : lw_tbl[1289]? = some (Cond.code hb_h27.1 hb_h27.2.1 hb_h27.2.2.1 hb_h27.2.2.2.1) := by rfl
theorem hb_g27 : px_bM hb_h27 105 = true := by decide +kernel
set_option maxRecDepth 100000 in
theorem hb_o27 : px_okM px_Ts px_Ns hb_cl hb_SL hb_P hb_m27 := ⟨px_bM_ok hb_w27 hb_g27, List.forall_mem_append.mpr ⟨hb_d27_0, hb_d27_1⟩, px_bL_ok hb_l2⟩
theorem hb_d28_0 : ∀ q ∈ hb_c28_0, decode hb_h28.2.1 q.1 = .ok q.2 := px_rwc_ok (by decide +kernel)
theorem hb_d28_1 : ∀ q ∈ hb_c28_1, decode hb_h28.2.1 q.1 = .ok q.2 := px_rwc_ok (by decide +kernel)
set_option maxRecDepth 100000 in
theorem hb_w28 : lw_tbl[1304]? = some (Cond.code hb_h28.1 hb_h28.2.1 hb_h28.2.2.1 hb_h28.2.2.2.1) := by rfl
theorem hb_g28 : px_bM hb_h28 105 = true := by decide +kernel
set_option maxRecDepth 100000 in
theorem hb_o28 : px_okM px_Ts px_Ns hb_cl hb_SL hb_P hb_m28 := ⟨px_bM_ok hb_w28 hb_g28, List.forall_mem_append.mpr ⟨hb_d28_0, hb_d28_1⟩, px_bL_ok hb_l2⟩
theorem hb_d29_0 : ∀ q ∈ hb_c29_0, decode hb_h29.2.1 q.1 = .ok q.2 := px_rwc_ok (by decide +kernel)
theorem hb_d29_1 : ∀ q ∈ hb_c29_1, decode hb_h29.2.1 q.1 = .ok q.2 := px_rwc_ok (by decide +kernel)
theorem hb_d29_2 : ∀ q ∈ hb_c29_2, decode hb_h29.2.1 q.1 = .ok q.2 := px_rwc_ok (by decide +kernel)
set_option maxRecDepth 100000 in
theorem hb_w29 : lw_tbl[1292]? = some (Cond.code hb_h29.1 hb_h29.2.1 hb_h29.2.2.1 hb_h29.2.2.2.1) := by rfl
theorem hb_g29 : px_bM hb_h29 105 = true := by decide +kernel
set_option maxRecDepth 100000 in
theorem hb_o29 : px_okM px_Ts px_Ns hb_cl hb_SL hb_P hb_m29 := ⟨px_bM_ok hb_w29 hb_g29, List.forall_mem_append.mpr ⟨hb_d29_0, List.forall_mem_append.mpr ⟨hb_d29_1, hb_d29_2⟩⟩, px_bL_ok hb_l2⟩
theorem hb_d30_0 : ∀ q ∈ hb_c30_0, decode hb_h30.2.1 q.1 = .ok q.2 := px_rwc_ok (by decide +kernel)
theorem hb_d30_1 : ∀ q ∈ hb_c30_1, decode hb_h30.2.1 q.1 = .ok q.2 := px_rwc_ok (by decide +kernel)
theorem hb_d30_2 : ∀ q ∈ hb_c30_2, decode hb_h30.2.1 q.1 = .ok q.2 := px_rwc_ok (by decide +kernel)
theorem hb_d30_3 : ∀ q ∈ hb_c30_3, decode hb_h30.2.1 q.1 = .ok q.2 := px_rwc_ok (by decide +kernel)
theorem hb_d30_4 : ∀ q ∈ hb_c30_4, decode hb_h30.2.1 q.1 = .ok q.2 := px_rwc_ok (by decide +kernel)
theorem hb_d30_5 : ∀ q ∈ hb_c30_5, decode hb_h30.2.1 q.1 = .ok q.2 := px_rwc_ok (by decide +kernel)
theorem hb_d30_6 : ∀ q ∈ hb_c30_6, decode hb_h30.2.1 q.1 = .ok q.2 := px_rwc_ok (by decide +kernel)
set_option maxRecDepth 100000 in
theorem hb_w30 : lw_tbl[1321]? = some (Cond.code hb_h30.1 hb_h30.2.1 hb_h30.2.2.1 hb_h30.2.2.2.1) := by rfl
theorem hb_g30 : px_bM hb_h30 105 = true := by decide +kernel
set_option maxRecDepth 100000 in
theorem hb_o30 : px_okM px_Ts px_Ns hb_cl hb_SL hb_P hb_m30 := ⟨px_bM_ok hb_w30 hb_g30, List.forall_mem_append.mpr ⟨hb_d30_0, List.forall_mem_append.mpr ⟨hb_d30_1, List.forall_mem_append.mpr ⟨hb_d30_2, List.forall_mem_append.mpr ⟨hb_d30_3, List.forall_mem_append.mpr ⟨hb_d30_4, List.forall_mem_append.mpr ⟨hb_d30_5, hb_d30_6⟩⟩⟩⟩⟩⟩, px_bL_ok hb_l2⟩
theorem hb_d31_0 : ∀ q ∈ hb_c31_0, decode hb_h31.2.1 q.1 = .ok q.2 := px_rwc_ok (by decide +kernel)
theorem hb_d31_1 : ∀ q ∈ hb_c31_1, decode hb_h31.2.1 q.1 = .ok q.2 := px_rwc_ok (by decide +kernel)
theorem hb_d31_2 : ∀ q ∈ hb_c31_2, decode hb_h31.2.1 q.1 = .ok q.2 := px_rwc_ok (by decide +kernel)
theorem hb_d31_3 : ∀ q ∈ hb_c31_3, decode hb_h31.2.1 q.1 = .ok q.2 := px_rwc_ok (by decide +kernel)
theorem hb_d31_4 : ∀ q ∈ hb_c31_4, decode hb_h31.2.1 q.1 = .ok q.2 := px_rwc_ok (by decide +kernel)
theorem hb_d31_5 : ∀ q ∈ hb_c31_5, decode hb_h31.2.1 q.1 = .ok q.2 := px_rwc_ok (by decide +kernel)
theorem hb_d31_6 : ∀ q ∈ hb_c31_6, decode hb_h31.2.1 q.1 = .ok q.2 := px_rwc_ok (by decide +kernel)
theorem hb_d31_7 : ∀ q ∈ hb_c31_7, decode hb_h31.2.1 q.1 = .ok q.2 := px_rwc_ok (by decide +kernel)
theorem hb_d31_8 : ∀ q ∈ hb_c31_8, decode hb_h31.2.1 q.1 = .ok q.2 := px_rwc_ok (by decide +kernel)
set_option maxRecDepth 100000 in
theorem hb_w31 : lw_tbl[127]? = some (Cond.code hb_h31.1 hb_h31.2.1 hb_h31.2.2.1 hb_h31.2.2.2.1) := by rfl
theorem hb_g31 : px_bM hb_h31 96 = true := by decide +kernel
set_option maxRecDepth 100000 in
theorem hb_o31 : px_okM px_Ts px_Ns hb_cl hb_SL hb_P hb_m31 := ⟨px_bM_ok hb_w31 hb_g31, List.forall_mem_append.mpr ⟨hb_d31_0, List.forall_mem_append.mpr ⟨hb_d31_1, List.forall_mem_append.mpr ⟨hb_d31_2, List.forall_mem_append.mpr ⟨hb_d31_3, List.forall_mem_append.mpr ⟨hb_d31_4, List.forall_mem_append.mpr ⟨hb_d31_5, List.forall_mem_append.mpr ⟨hb_d31_6, List.forall_mem_append.mpr ⟨hb_d31_7, hb_d31_8⟩⟩⟩⟩⟩⟩⟩⟩, px_bL_ok hb_l3⟩
theorem hb_d32_0 : ∀ q ∈ hb_c32_0, decode hb_h32.2.1 q.1 = .ok q.2 := px_rwc_ok (by decide +kernel)
theorem hb_d32_1 : ∀ q ∈ hb_c32_1, decode hb_h32.2.1 q.1 = .ok q.2 := px_rwc_ok (by decide +kernel)
theorem hb_d32_2 : ∀ q ∈ hb_c32_2, decode hb_h32.2.1 q.1 = .ok q.2 := px_rwc_ok (by decide +kernel)
theorem hb_d32_3 : ∀ q ∈ hb_c32_3, decode hb_h32.2.1 q.1 = .ok q.2 := px_rwc_ok (by decide +kernel)
theorem hb_d32_4 : ∀ q ∈ hb_c32_4, decode hb_h32.2.1 q.1 = .ok q.2 := px_rwc_ok (by decide +kernel)
theorem hb_d32_5 : ∀ q ∈ hb_c32_5, decode hb_h32.2.1 q.1 = .ok q.2 := px_rwc_ok (by decide +kernel)
set_option maxRecDepth 100000 in
theorem hb_w32 : lw_tbl[734]? = some (Cond.code hb_h32.1 hb_h32.2.1 hb_h32.2.2.1 hb_h32.2.2.2.1) := by rfl
theorem hb_g32 : px_bM hb_h32 96 = true := by decide +kernel
set_option maxRecDepth 100000 in
theorem hb_o32 : px_okM px_Ts px_Ns hb_cl hb_SL hb_P hb_m32 := ⟨px_bM_ok hb_w32 hb_g32, List.forall_mem_append.mpr ⟨hb_d32_0, List.forall_mem_append.mpr ⟨hb_d32_1, List.forall_mem_append.mpr ⟨hb_d32_2, List.forall_mem_append.mpr ⟨hb_d32_3, List.forall_mem_append.mpr ⟨hb_d32_4, hb_d32_5⟩⟩⟩⟩⟩, px_bL_ok hb_l3⟩
theorem hb_d33_0 : ∀ q ∈ hb_c33_0, decode hb_h33.2.1 q.1 = .ok q.2 := px_rwc_ok (by decide +kernel)
theorem hb_d33_1 : ∀ q ∈ hb_c33_1, decode hb_h33.2.1 q.1 = .ok q.2 := px_rwc_ok (by decide +kernel)
theorem hb_d33_2 : ∀ q ∈ hb_c33_2, decode hb_h33.2.1 q.1 = .ok q.2 := px_rwc_ok (by decide +kernel)
set_option maxRecDepth 100000 in
theorem hb_w33 : lw_tbl[699]? = some (Cond.code hb_h33.1 hb_h33.2.1 hb_h33.2.2.1 hb_h33.2.2.2.1) := by rfl
theorem hb_g33 : px_bM hb_h33 96 = true := by decide +kernel
set_option maxRecDepth 100000 in
theorem hb_o33 : px_okM px_Ts px_Ns hb_cl hb_SL hb_P hb_m33 := ⟨px_bM_ok hb_w33 hb_g33, List.forall_mem_append.mpr ⟨hb_d33_0, List.forall_mem_append.mpr ⟨hb_d33_1, hb_d33_2⟩⟩, px_bL_ok hb_l3⟩
theorem hb_d34_0 : ∀ q ∈ hb_c34_0, decode hb_h34.2.1 q.1 = .ok q.2 := px_rwc_ok (by decide +kernel)
theorem hb_d34_1 : ∀ q ∈ hb_c34_1, decode hb_h34.2.1 q.1 = .ok q.2 := px_rwc_ok (by decide +kernel)
theorem hb_d34_2 : ∀ q ∈ hb_c34_2, decode hb_h34.2.1 q.1 = .ok q.2 := px_rwc_ok (by decide +kernel)
theorem hb_d34_3 : ∀ q ∈ hb_c34_3, decode hb_h34.2.1 q.1 = .ok q.2 := px_rwc_ok (by decide +kernel)
theorem hb_d34_4 : ∀ q ∈ hb_c34_4, decode hb_h34.2.1 q.1 = .ok q.2 := px_rwc_ok (by decide +kernel)
set_option maxRecDepth 100000 in
theorem hb_w34 : lw_tbl[708]? = some (Cond.code hb_h34.1 hb_h34.2.1 hb_h34.2.2.1 hb_h34.2.2.2.1) := by rfl
theorem hb_g34 : px_bM hb_h34 96 = true := by decide +kernel
set_option maxRecDepth 100000 in
theorem hb_o34 : px_okM px_Ts px_Ns hb_cl hb_SL hb_P hb_m34 := ⟨px_bM_ok hb_w34 hb_g34, List.forall_mem_append.mpr ⟨hb_d34_0, List.forall_mem_append.mpr ⟨hb_d34_1, List.forall_mem_append.mpr ⟨hb_d34_2, List.forall_mem_append.mpr ⟨hb_d34_3, hb_d34_4⟩⟩⟩⟩, px_bL_ok hb_l3⟩
theorem hb_d35_0 : ∀ q ∈ hb_c35_0, decode hb_h35.2.1 q.1 = .ok q.2 := px_rwc_ok (by decide +kernel)
theorem hb_d35_1 : ∀ q ∈ hb_c35_1, decode hb_h35.2.1 q.1 = .ok q.2 := px_rwc_ok (by decide +kernel)
theorem hb_d35_2 : ∀ q ∈ hb_c35_2, decode hb_h35.2.1 q.1 = .ok q.2 := px_rwc_ok (by decide +kernel)
theorem hb_d35_3 : ∀ q ∈ hb_c35_3, decode hb_h35.2.1 q.1 = .ok q.2 := px_rwc_ok (by decide +kernel)
theorem hb_d35_4 : ∀ q ∈ hb_c35_4, decode hb_h35.2.1 q.1 = .ok q.2 := px_rwc_ok (by decide +kernel)
set_option maxRecDepth 100000 in
theorem hb_w35 : lw_tbl[772]? = some (Cond.code hb_h35.1 hb_h35.2.1 hb_h35.2.2.1 hb_h35.2.2.2.1) := by rfl
theorem hb_g35 : px_bM hb_h35 96 = true := by decide +kernel
set_option maxRecDepth 100000 in
theorem hb_o35 : px_okM px_Ts px_Ns hb_cl hb_SL hb_P hb_m35 := ⟨px_bM_ok hb_w35 hb_g35, List.forall_mem_append.mpr ⟨hb_d35_0, List.forall_mem_append.mpr ⟨hb_d35_1, List.forall_mem_append.mpr ⟨hb_d35_2, List.forall_mem_append.mpr ⟨hb_d35_3, hb_d35_4⟩⟩⟩⟩, px_bL_ok hb_l3⟩
theorem hb_d36_0 : ∀ q ∈ hb_c36_0, decode hb_h36.2.1 q.1 = .ok q.2 := px_rwc_ok (by decide +kernel)
theorem hb_d36_1 : ∀ q ∈ hb_c36_1, decode hb_h36.2.1 q.1 = .ok q.2 := px_rwc_ok (by decide +kernel)
theorem hb_d36_2 : ∀ q ∈ hb_c36_2, decode hb_h36.2.1 q.1 = .ok q.2 := px_rwc_ok (by decide +kernel)
set_option maxRecDepth 100000 in
theorem hb_w36 : lw_tbl[670]? = some (Cond.code hb_h36.1 hb_h36.2.1 hb_h36.2.2.1 hb_h36.2.2.2.1) := by rfl
theorem hb_g36 : px_bM hb_h36 96 = true := by decide +kernel
set_option maxRecDepth 100000 in
theorem hb_o36 : px_okM px_Ts px_Ns hb_cl hb_SL hb_P hb_m36 := ⟨px_bM_ok hb_w36 hb_g36, List.forall_mem_append.mpr ⟨hb_d36_0, List.forall_mem_append.mpr ⟨hb_d36_1, hb_d36_2⟩⟩, px_bL_ok hb_l3⟩
theorem hb_d37_0 : ∀ q ∈ hb_c37_0, decode hb_h37.2.1 q.1 = .ok q.2 := px_rwc_ok (by decide +kernel)
theorem hb_d37_1 : ∀ q ∈ hb_c37_1, decode hb_h37.2.1 q.1 = .ok q.2 := px_rwc_ok (by decide +kernel)
theorem hb_d37_2 : ∀ q ∈ hb_c37_2, decode hb_h37.2.1 q.1 = .ok q.2 := px_rwc_ok (by decide +kernel)
set_option maxRecDepth 100000 in
theorem hb_w37 : lw_tbl[674]? = some (Cond.code hb_h37.1 hb_h37.2.1 hb_h37.2.2.1 hb_h37.2.2.2.1) := by rfl
theorem hb_g37 : px_bM hb_h37 96 = true := by decide +kernel
set_option maxRecDepth 100000 in
theorem hb_o37 : px_okM px_Ts px_Ns hb_cl hb_SL hb_P hb_m37 := ⟨px_bM_ok hb_w37 hb_g37, List.forall_mem_append.mpr ⟨hb_d37_0, List.forall_mem_append.mpr ⟨hb_d37_1, hb_d37_2⟩⟩, px_bL_ok hb_l3⟩
theorem hb_d38_0 : ∀ q ∈ hb_c38_0, decode hb_h38.2.1 q.1 = .ok q.2 := px_rwc_ok (by decide +kernel)
theorem hb_d38_1 : ∀ q ∈ hb_c38_1, decode hb_h38.2.1 q.1 = .ok q.2 := px_rwc_ok (by decide +kernel)
theorem hb_d38_2 : ∀ q ∈ hb_c38_2, decode hb_h38.2.1 q.1 = .ok q.2 := px_rwc_ok (by decide +kernel)
set_option maxRecDepth 100000 in
theorem hb_w38 : lw_tbl[1196]? = some (Cond.code hb_h38.1 hb_h38.2.1 hb_h38.2.2.1 hb_h38.2.2.2.1) := by rfl
theorem hb_g38 : px_bM hb_h38 96 = true := by decide +kernel
set_option maxRecDepth 100000 in
theorem hb_o38 : px_okM px_Ts px_Ns hb_cl hb_SL hb_P hb_m38 := ⟨px_bM_ok hb_w38 hb_g38, List.forall_mem_append.mpr ⟨hb_d38_0, List.forall_mem_append.mpr ⟨hb_d38_1, hb_d38_2⟩⟩, px_bL_ok hb_l3⟩
theorem hb_d39_0 : ∀ q ∈ hb_c39_0, decode hb_h39.2.1 q.1 = .ok q.2 := px_rwc_ok (by decide +kernel)
theorem hb_d39_1 : ∀ q ∈ hb_c39_1, decode hb_h39.2.1 q.1 = .ok q.2 := px_rwc_ok (by decide +kernel)
theorem hb_d39_2 : ∀ q ∈ hb_c39_2, decode hb_h39.2.1 q.1 = .ok q.2 := px_rwc_ok (by decide +kernel)
theorem hb_d39_3 : ∀ q ∈ hb_c39_3, decode hb_h39.2.1 q.1 = .ok q.2 := px_rwc_ok (by decide +kernel)
theorem hb_d39_4 : ∀ q ∈ hb_c39_4, decode hb_h39.2.1 q.1 = .ok q.2 := px_rwc_ok (by decide +kernel)
set_option maxRecDepth 100000 in
theorem hb_w39 : lw_tbl[662]? = some (Cond.code hb_h39.1 hb_h39.2.1 hb_h39.2.2.1 hb_h39.2.2.2.1) := by rfl
theorem hb_g39 : px_bM hb_h39 96 = true := by decide +kernel
set_option maxRecDepth 100000 in
theorem hb_o39 : px_okM px_Ts px_Ns hb_cl hb_SL hb_P hb_m39 := ⟨px_bM_ok hb_w39 hb_g39, List.forall_mem_append.mpr ⟨hb_d39_0, List.forall_mem_append.mpr ⟨hb_d39_1, List.forall_mem_append.mpr ⟨hb_d39_2, List.forall_mem_append.mpr ⟨hb_d39_3, hb_d39_4⟩⟩⟩⟩, px_bL_ok hb_l3⟩

end

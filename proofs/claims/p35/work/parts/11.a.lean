noncomputable section
theorem hb_d0_0 : ∀ q ∈ hb_c0_0, decode hb_h0.2.1 q.1 = .ok q.2 := px_rwc_ok (by decide +kernel)
theorem hb_d0_1 : ∀ q ∈ hb_c0_1, decode hb_h0.2.1 q.1 = .ok q.2 := px_rwc_ok (by decide +kernel)
theorem hb_d0_2 : ∀ q ∈ hb_c0_2, decode hb_h0.2.1 q.1 = .ok q.2 := px_rwc_ok (by decide +kernel)
set_option maxRecDepth 100000 in
theorem hb_w0 : lw_tbl[567]? = some (Cond.code hb_h0.1 hb_h0.2.1 hb_h0.2.2.1 hb_h0.2.2.2.1) := by rfl
theorem hb_g0 : px_bM hb_h0 106 = true := by decide +kernel
set_option maxRecDepth 100000 in
theorem hb_o0 : px_okM px_Ts px_Ns hb_cl hb_SL hb_P hb_m0 := ⟨px_bM_ok hb_w0 hb_g0, List.forall_mem_append.mpr ⟨hb_d0_0, List.forall_mem_append.mpr ⟨hb_d0_1, hb_d0_2⟩⟩, px_bL_ok hb_l0⟩
theorem hb_d1_0 : ∀ q ∈ hb_c1_0, decode hb_h1.2.1 q.1 = .ok q.2 := px_rwc_ok (by decide +kernel)
theorem hb_d1_1 : ∀ q ∈ hb_c1_1, decode hb_h1.2.1 q.1 = .ok q.2 := px_rwc_ok (by decide +kernel)
theorem hb_d1_2 : ∀ q ∈ hb_c1_2, decode hb_h1.2.1 q.1 = .ok q.2 := px_rwc_ok (by decide +kernel)
theorem hb_d1_3 : ∀ q ∈ hb_c1_3, decode hb_h1.2.1 q.1 = .ok q.2 := px_rwc_ok (by decide +kernel)
set_option maxRecDepth 100000 in
theorem hb_w1 : lw_tbl[1332]? = some (Cond.code hb_h1.1 hb_h1.2.1 hb_h1.2.2.1 hb_h1.2.2.2.1) := by rfl
theorem hb_g1 : px_bM hb_h1 106 = true := by decide +kernel
set_option maxRecDepth 100000 in
theorem hb_o1 : px_okM px_Ts px_Ns hb_cl hb_SL hb_P hb_m1 := ⟨px_bM_ok hb_w1 hb_g1, List.forall_mem_append.mpr ⟨hb_d1_0, List.forall_mem_append.mpr ⟨hb_d1_1, List.forall_mem_append.mpr ⟨hb_d1_2, hb_d1_3⟩⟩⟩, px_bL_ok hb_l0⟩
theorem hb_d2_0 : ∀ q ∈ hb_c2_0, decode hb_h2.2.1 q.1 = .ok q.2 := px_rwc_ok (by decide +kernel)
set_option maxRecDepth 100000 in
theorem hb_w2 : lw_tbl[1340]? = some (Cond.code hb_h2.1 hb_h2.2.1 hb_h2.2.2.1 hb_h2.2.2.2.1) := by rfl
theorem hb_g2 : px_bM hb_h2 106 = true := by decide +kernel
set_option maxRecDepth 100000 in
theorem hb_o2 : px_okM px_Ts px_Ns hb_cl hb_SL hb_P hb_m2 := ⟨px_bM_ok hb_w2 hb_g2, hb_d2_0, px_bL_ok hb_l0⟩
theorem hb_d3_0 : ∀ q ∈ hb_c3_0, decode hb_h3.2.1 q.1 = .ok q.2 := px_rwc_ok (by decide +kernel)
theorem hb_d3_1 : ∀ q ∈ hb_c3_1, decode hb_h3.2.1 q.1 = .ok q.2 := px_rwc_ok (by decide +kernel)
set_option maxRecDepth 100000 in
theorem hb_w3 : lw_tbl[1348]? = some (Cond.code hb_h3.1 hb_h3.2.1 hb_h3.2.2.1 hb_h3.2.2.2.1) := by rfl
theorem hb_g3 : px_bM hb_h3 106 = true := by decide +kernel
set_option maxRecDepth 100000 in
theorem hb_o3 : px_okM px_Ts px_Ns hb_cl hb_SL hb_P hb_m3 := ⟨px_bM_ok hb_w3 hb_g3, List.forall_mem_append.mpr ⟨hb_d3_0, hb_d3_1⟩, px_bL_ok hb_l0⟩
theorem hb_d4_0 : ∀ q ∈ hb_c4_0, decode hb_h4.2.1 q.1 = .ok q.2 := px_rwc_ok (by decide +kernel)
theorem hb_d4_1 : ∀ q ∈ hb_c4_1, decode hb_h4.2.1 q.1 = .ok q.2 := px_rwc_ok (by decide +kernel)
theorem hb_d4_2 : ∀ q ∈ hb_c4_2, decode hb_h4.2.1 q.1 = .ok q.2 := px_rwc_ok (by decide +kernel)
set_option maxRecDepth 100000 in
theorem hb_w4 : lw_tbl[1360]? = some (Cond.code hb_h4.1 hb_h4.2.1 hb_h4.2.2.1 hb_h4.2.2.2.1) := by rfl
theorem hb_g4 : px_bM hb_h4 106 = true := by decide +kernel
set_option maxRecDepth 100000 in
theorem hb_o4 : px_okM px_Ts px_Ns hb_cl hb_SL hb_P hb_m4 := ⟨px_bM_ok hb_w4 hb_g4, List.forall_mem_append.mpr ⟨hb_d4_0, List.forall_mem_append.mpr ⟨hb_d4_1, hb_d4_2⟩⟩, px_bL_ok hb_l0⟩
theorem hb_d5_0 : ∀ q ∈ hb_c5_0, decode hb_h5.2.1 q.1 = .ok q.2 := px_rwc_ok (by decide +kernel)
theorem hb_d5_1 : ∀ q ∈ hb_c5_1, decode hb_h5.2.1 q.1 = .ok q.2 := px_rwc_ok (by decide +kernel)
theorem hb_d5_2 : ∀ q ∈ hb_c5_2, decode hb_h5.2.1 q.1 = .ok q.2 := px_rwc_ok (by decide +kernel)
theorem hb_d5_3 : ∀ q ∈ hb_c5_3, decode hb_h5.2.1 q.1 = .ok q.2 := px_rwc_ok (by decide +kernel)
theorem hb_d5_4 : ∀ q ∈ hb_c5_4, decode hb_h5.2.1 q.1 = .ok q.2 := px_rwc_ok (by decide +kernel)
theorem hb_d5_5 : ∀ q ∈ hb_c5_5, decode hb_h5.2.1 q.1 = .ok q.2 := px_rwc_ok (by decide +kernel)
set_option maxRecDepth 100000 in
theorem hb_w5 : lw_tbl[1356]? = some (Cond.code hb_h5.1 hb_h5.2.1 hb_h5.2.2.1 hb_h5.2.2.2.1) := by rfl
theorem hb_g5 : px_bM hb_h5 106 = true := by decide +kernel
set_option maxRecDepth 100000 in
theorem hb_o5 : px_okM px_Ts px_Ns hb_cl hb_SL hb_P hb_m5 := ⟨px_bM_ok hb_w5 hb_g5, List.forall_mem_append.mpr ⟨hb_d5_0, List.forall_mem_append.mpr ⟨hb_d5_1, List.forall_mem_append.mpr ⟨hb_d5_2, List.forall_mem_append.mpr ⟨hb_d5_3, List.forall_mem_append.mpr ⟨hb_d5_4, hb_d5_5⟩⟩⟩⟩⟩, px_bL_ok hb_l0⟩
theorem hb_d6_0 : ∀ q ∈ hb_c6_0, decode hb_h6.2.1 q.1 = .ok q.2 := px_rwc_ok (by decide +kernel)
theorem hb_d6_1 : ∀ q ∈ hb_c6_1, decode hb_h6.2.1 q.1 = .ok q.2 := px_rwc_ok (by decide +kernel)
theorem hb_d6_2 : ∀ q ∈ hb_c6_2, decode hb_h6.2.1 q.1 = .ok q.2 := px_rwc_ok (by decide +kernel)
theorem hb_d6_3 : ∀ q ∈ hb_c6_3, decode hb_h6.2.1 q.1 = .ok q.2 := px_rwc_ok (by decide +kernel)
theorem hb_d6_4 : ∀ q ∈ hb_c6_4, decode hb_h6.2.1 q.1 = .ok q.2 := px_rwc_ok (by decide +kernel)
theorem hb_d6_5 : ∀ q ∈ hb_c6_5, decode hb_h6.2.1 q.1 = .ok q.2 := px_rwc_ok (by decide +kernel)
theorem hb_d6_6 : ∀ q ∈ hb_c6_6, decode hb_h6.2.1 q.1 = .ok q.2 := px_rwc_ok (by decide +kernel)
set_option maxRecDepth 100000 in
theorem hb_w6 : lw_tbl[1364]? = some (Cond.code hb_h6.1 hb_h6.2.1 hb_h6.2.2.1 hb_h6.2.2.2.1) := by rfl
theorem hb_g6 : px_bM hb_h6 106 = true := by decide +kernel
set_option maxRecDepth 100000 in
theorem hb_o6 : px_okM px_Ts px_Ns hb_cl hb_SL hb_P hb_m6 := ⟨px_bM_ok hb_w6 hb_g6, List.forall_mem_append.mpr ⟨hb_d6_0, List.forall_mem_append.mpr ⟨hb_d6_1, List.forall_mem_append.mpr ⟨hb_d6_2, List.forall_mem_append.mpr ⟨hb_d6_3, List.forall_mem_append.mpr ⟨hb_d6_4, List.forall_mem_append.mpr ⟨hb_d6_5, hb_d6_6⟩⟩⟩⟩⟩⟩, px_bL_ok hb_l0⟩
theorem hb_d7_0 : ∀ q ∈ hb_c7_0, decode hb_h7.2.1 q.1 = .ok q.2 := px_rwc_ok (by decide +kernel)
theorem hb_d7_1 : ∀ q ∈ hb_c7_1, decode hb_h7.2.1 q.1 = .ok q.2 := px_rwc_ok (by decide +kernel)
theorem hb_d7_2 : ∀ q ∈ hb_c7_2, decode hb_h7.2.1 q.1 = .ok q.2 := px_rwc_ok (by decide +kernel)
theorem hb_d7_3 : ∀ q ∈ hb_c7_3, decode hb_h7.2.1 q.1 = .ok q.2 := px_rwc_ok (by decide +kernel)
theorem hb_d7_4 : ∀ q ∈ hb_c7_4, decode hb_h7.2.1 q.1 = .ok q.2 := px_rwc_ok (by decide +kernel)
set_option maxRecDepth 100000 in
theorem hb_w7 : lw_tbl[1373]? = some (Cond.code hb_h7.1 hb_h7.2.1 hb_h7.2.2.1 hb_h7.2.2.2.1) := by rfl
theorem hb_g7 : px_bM hb_h7 106 = true := by decide +kernel
set_option maxRecDepth 100000 in
theorem hb_o7 : px_okM px_Ts px_Ns hb_cl hb_SL hb_P hb_m7 := ⟨px_bM_ok hb_w7 hb_g7, List.forall_mem_append.mpr ⟨hb_d7_0, List.forall_mem_append.mpr ⟨hb_d7_1, List.forall_mem_append.mpr ⟨hb_d7_2, List.forall_mem_append.mpr ⟨hb_d7_3, hb_d7_4⟩⟩⟩⟩, px_bL_ok hb_l0⟩
theorem hb_d8_0 : ∀ q ∈ hb_c8_0, decode hb_h8.2.1 q.1 = .ok q.2 := px_rwc_ok (by decide +kernel)
theorem hb_d8_1 : ∀ q ∈ hb_c8_1, decode hb_h8.2.1 q.1 = .ok q.2 := px_rwc_ok (by decide +kernel)
theorem hb_d8_2 : ∀ q ∈ hb_c8_2, decode hb_h8.2.1 q.1 = .ok q.2 := px_rwc_ok (by decide +kernel)
theorem hb_d8_3 : ∀ q ∈ hb_c8_3, decode hb_h8.2.1 q.1 = .ok q.2 := px_rwc_ok (by decide +kernel)
theorem hb_d8_4 : ∀ q ∈ hb_c8_4, decode hb_h8.2.1 q.1 = .ok q.2 := px_rwc_ok (by decide +kernel)
set_option maxRecDepth 100000 in
theorem hb_w8 : lw_tbl[1381]? = some (Cond.code hb_h8.1 hb_h8.2.1 hb_h8.2.2.1 hb_h8.2.2.2.1) := by rfl
theorem hb_g8 : px_bM hb_h8 106 = true := by decide +kernel
set_option maxRecDepth 100000 in
theorem hb_o8 : px_okM px_Ts px_Ns hb_cl hb_SL hb_P hb_m8 := ⟨px_bM_ok hb_w8 hb_g8, List.forall_mem_append.mpr ⟨hb_d8_0, List.forall_mem_append.mpr ⟨hb_d8_1, List.forall_mem_append.mpr ⟨hb_d8_2, List.forall_mem_append.mpr ⟨hb_d8_3, hb_d8_4⟩⟩⟩⟩, px_bL_ok hb_l0⟩
theorem hb_d9_0 : ∀ q ∈ hb_c9_0, decode hb_h9.2.1 q.1 = .ok q.2 := px_rwc_ok (by decide +kernel)
theorem hb_d9_1 : ∀ q ∈ hb_c9_1, decode hb_h9.2.1 q.1 = .ok q.2 := px_rwc_ok (by decide +kernel)
set_option maxRecDepth 100000 in
theorem hb_w9 : lw_tbl[1368]? = some (Cond.code hb_h9.1 hb_h9.2.1 hb_h9.2.2.1 hb_h9.2.2.2.1) := by rfl
theorem hb_g9 : px_bM hb_h9 106 = true := by decide +kernel
set_option maxRecDepth 100000 in
theorem hb_o9 : px_okM px_Ts px_Ns hb_cl hb_SL hb_P hb_m9 := ⟨px_bM_ok hb_w9 hb_g9, List.forall_mem_append.mpr ⟨hb_d9_0, hb_d9_1⟩, px_bL_ok hb_l0⟩
theorem hb_d10_0 : ∀ q ∈ hb_c10_0, decode hb_h10.2.1 q.1 = .ok q.2 := px_rwc_ok (by decide +kernel)
theorem hb_d10_1 : ∀ q ∈ hb_c10_1, decode hb_h10.2.1 q.1 = .ok q.2 := px_rwc_ok (by decide +kernel)
theorem hb_d10_2 : ∀ q ∈ hb_c10_2, decode hb_h10.2.1 q.1 = .ok q.2 := px_rwc_ok (by decide +kernel)
set_option maxRecDepth 100000 in
theorem hb_w10 : lw_tbl[1377]? = some (Cond.code hb_h10.1 hb_h10.2.1 hb_h10.2.2.1 hb_h10.2.2.2.1) := by rfl
theorem hb_g10 : px_bM hb_h10 106 = true := by decide +kernel
set_option maxRecDepth 100000 in
theorem hb_o10 : px_okM px_Ts px_Ns hb_cl hb_SL hb_P hb_m10 := ⟨px_bM_ok hb_w10 hb_g10, List.forall_mem_append.mpr ⟨hb_d10_0, List.forall_mem_append.mpr ⟨hb_d10_1, hb_d10_2⟩⟩, px_bL_ok hb_l0⟩
theorem hb_d11_0 : ∀ q ∈ hb_c11_0, decode hb_h11.2.1 q.1 = .ok q.2 := px_rwc_ok (by decide +kernel)
theorem hb_d11_1 : ∀ q ∈ hb_c11_1, decode hb_h11.2.1 q.1 = .ok q.2 := px_rwc_ok (by decide +kernel)
set_option maxRecDepth 100000 in
theorem hb_w11 : lw_tbl[1385]? = some (Cond.code hb_h11.1 hb_h11.2.1 hb_h11.2.2.1 hb_h11.2.2.2.1) := by rfl
theorem hb_g11 : px_bM hb_h11 106 = true := by decide +kernel
set_option maxRecDepth 100000 in
theorem hb_o11 : px_okM px_Ts px_Ns hb_cl hb_SL hb_P hb_m11 := ⟨px_bM_ok hb_w11 hb_g11, List.forall_mem_append.mpr ⟨hb_d11_0, hb_d11_1⟩, px_bL_ok hb_l0⟩
theorem hb_d12_0 : ∀ q ∈ hb_c12_0, decode hb_h12.2.1 q.1 = .ok q.2 := px_rwc_ok (by decide +kernel)
theorem hb_d12_1 : ∀ q ∈ hb_c12_1, decode hb_h12.2.1 q.1 = .ok q.2 := px_rwc_ok (by decide +kernel)
theorem hb_d12_2 : ∀ q ∈ hb_c12_2, decode hb_h12.2.1 q.1 = .ok q.2 := px_rwc_ok (by decide +kernel)
theorem hb_d12_3 : ∀ q ∈ hb_c12_3, decode hb_h12.2.1 q.1 = .ok q.2 := px_rwc_ok (by decide +kernel)
theorem hb_d12_4 : ∀ q ∈ hb_c12_4, decode hb_h12.2.1 q.1 = .ok q.2 := px_rwc_ok (by decide +kernel)
theorem hb_d12_5 : ∀ q ∈ hb_c12_5, decode hb_h12.2.1 q.1 = .ok q.2 := px_rwc_ok (by decide +kernel)
theorem hb_d12_6 : ∀ q ∈ hb_c12_6, decode hb_h12.2.1 q.1 = .ok q.2 := px_rwc_ok (by decide +kernel)
theorem hb_d12_7 : ∀ q ∈ hb_c12_7, decode hb_h12.2.1 q.1 = .ok q.2 := px_rwc_ok (by decide +kernel)
set_option maxRecDepth 100000 in
theorem hb_w12 : lw_tbl[213]? = some (Cond.code hb_h12.1 hb_h12.2.1 hb_h12.2.2.1 hb_h12.2.2.2.1) := by rfl
theorem hb_g12 : px_bM hb_h12 98 = true := by decide +kernel
set_option maxRecDepth 100000 in
theorem hb_o12 : px_okM px_Ts px_Ns hb_cl hb_SL hb_P hb_m12 := ⟨px_bM_ok hb_w12 hb_g12, List.forall_mem_append.mpr ⟨hb_d12_0, List.forall_mem_append.mpr ⟨hb_d12_1, List.forall_mem_append.mpr ⟨hb_d12_2, List.forall_mem_append.mpr ⟨hb_d12_3, List.forall_mem_append.mpr ⟨hb_d12_4, List.forall_mem_append.mpr ⟨hb_d12_5, List.forall_mem_append.mpr ⟨hb_d12_6, hb_d12_7⟩⟩⟩⟩⟩⟩⟩, px_bL_ok hb_l1⟩
theorem hb_d13_0 : ∀ q ∈ hb_c13_0, decode hb_h13.2.1 q.1 = .ok q.2 := px_rwc_ok (by decide +kernel)
theorem hb_d13_1 : ∀ q ∈ hb_c13_1, decode hb_h13.2.1 q.1 = .ok q.2 := px_rwc_ok (by decide +kernel)
set_option maxRecDepth 100000 in
theorem hb_w13 : lw_tbl[781]? = some (Cond.code hb_h13.1 hb_h13.2.1 hb_h13.2.2.1 hb_h13.2.2.2.1) := by rfl
theorem hb_g13 : px_bM hb_h13 98 = true := by decide +kernel
set_option maxRecDepth 100000 in
theorem hb_o13 : px_okM px_Ts px_Ns hb_cl hb_SL hb_P hb_m13 := ⟨px_bM_ok hb_w13 hb_g13, List.forall_mem_append.mpr ⟨hb_d13_0, hb_d13_1⟩, px_bL_ok hb_l1⟩
theorem hb_d14_0 : ∀ q ∈ hb_c14_0, decode hb_h14.2.1 q.1 = .ok q.2 := px_rwc_ok (by decide +kernel)
theorem hb_d14_1 : ∀ q ∈ hb_c14_1, decode hb_h14.2.1 q.1 = .ok q.2 := px_rwc_ok (by decide +kernel)
theorem hb_d14_2 : ∀ q ∈ hb_c14_2, decode hb_h14.2.1 q.1 = .ok q.2 := px_rwc_ok (by decide +kernel)
theorem hb_d14_3 : ∀ q ∈ hb_c14_3, decode hb_h14.2.1 q.1 = .ok q.2 := px_rwc_ok (by decide +kernel)
theorem hb_d14_4 : ∀ q ∈ hb_c14_4, decode hb_h14.2.1 q.1 = .ok q.2 := px_rwc_ok (by decide +kernel)
theorem hb_d14_5 : ∀ q ∈ hb_c14_5, decode hb_h14.2.1 q.1 = .ok q.2 := px_rwc_ok (by decide +kernel)
theorem hb_d14_6 : ∀ q ∈ hb_c14_6, decode hb_h14.2.1 q.1 = .ok q.2 := px_rwc_ok (by decide +kernel)
theorem hb_d14_7 : ∀ q ∈ hb_c14_7, decode hb_h14.2.1 q.1 = .ok q.2 := px_rwc_ok (by decide +kernel)
theorem hb_d14_8 : ∀ q ∈ hb_c14_8, decode hb_h14.2.1 q.1 = .ok q.2 := px_rwc_ok (by decide +kernel)
theorem hb_d14_9 : ∀ q ∈ hb_c14_9, decode hb_h14.2.1 q.1 = .ok q.2 := px_rwc_ok (by decide +kernel)
set_option maxRecDepth 100000 in
theorem hb_w14 : lw_tbl[1411]? = some (Cond.code hb_h14.1 hb_h14.2.1 hb_h14.2.2.1 hb_h14.2.2.2.1) := by rfl
theorem hb_g14 : px_bM hb_h14 98 = true := by decide +kernel
set_option maxRecDepth 100000 in
theorem hb_o14 : px_okM px_Ts px_Ns hb_cl hb_SL hb_P hb_m14 := ⟨px_bM_ok hb_w14 hb_g14, List.forall_mem_append.mpr ⟨hb_d14_0, List.forall_mem_append.mpr ⟨hb_d14_1, List.forall_mem_append.mpr ⟨hb_d14_2, List.forall_mem_append.mpr ⟨hb_d14_3, List.forall_mem_append.mpr ⟨hb_d14_4, List.forall_mem_append.mpr ⟨hb_d14_5, List.forall_mem_append.mpr ⟨hb_d14_6, List.forall_mem_append.mpr ⟨hb_d14_7, List.forall_mem_append.mpr ⟨hb_d14_8, hb_d14_9⟩⟩⟩⟩⟩⟩⟩⟩⟩, px_bL_ok hb_l1⟩
theorem hb_d15_0 : ∀ q ∈ hb_c15_0, decode hb_h15.2.1 q.1 = .ok q.2 := px_rwc_ok (by decide +kernel)
theorem hb_d15_1 : ∀ q ∈ hb_c15_1, decode hb_h15.2.1 q.1 = .ok q.2 := px_rwc_ok (by decide +kernel)
theorem hb_d15_2 : ∀ q ∈ hb_c15_2, decode hb_h15.2.1 q.1 = .ok q.2 := px_rwc_ok (by decide +kernel)
theorem hb_d15_3 : ∀ q ∈ hb_c15_3, decode hb_h15.2.1 q.1 = .ok q.2 := px_rwc_ok (by decide +kernel)
set_option maxRecDepth 100000 in
theorem hb_w15 : lw_tbl[788]? = some (Cond.code hb_h15.1 hb_h15.2.1 hb_h15.2.2.1 hb_h15.2.2.2.1) := by rfl
theorem hb_g15 : px_bM hb_h15 98 = true := by decide +kernel
set_option maxRecDepth 100000 in
theorem hb_o15 : px_okM px_Ts px_Ns hb_cl hb_SL hb_P hb_m15 := ⟨px_bM_ok hb_w15 hb_g15, List.forall_mem_append.mpr ⟨hb_d15_0, List.forall_mem_append.mpr ⟨hb_d15_1, List.forall_mem_append.mpr ⟨hb_d15_2, hb_d15_3⟩⟩⟩, px_bL_ok hb_l1⟩
theorem hb_d16_0 : ∀ q ∈ hb_c16_0, decode hb_h16.2.1 q.1 = .ok q.2 := px_rwc_ok (by decide +kernel)
theorem hb_d16_1 : ∀ q ∈ hb_c16_1, decode hb_h16.2.1 q.1 = .ok q.2 := px_rwc_ok (by decide +kernel)
theorem hb_d16_2 : ∀ q ∈ hb_c16_2, decode hb_h16.2.1 q.1 = .ok q.2 := px_rwc_ok (by decide +kernel)
theorem hb_d16_3 : ∀ q ∈ hb_c16_3, decode hb_h16.2.1 q.1 = .ok q.2 := px_rwc_ok (by decide +kernel)
set_option maxRecDepth 100000 in
theorem hb_w16 : lw_tbl[796]? = some (Cond.code hb_h16.1 hb_h16.2.1 hb_h16.2.2.1 hb_h16.2.2.2.1) := by rfl
theorem hb_g16 : px_bM hb_h16 98 = true := by decide +kernel
set_option maxRecDepth 100000 in
theorem hb_o16 : px_okM px_Ts px_Ns hb_cl hb_SL hb_P hb_m16 := ⟨px_bM_ok hb_w16 hb_g16, List.forall_mem_append.mpr ⟨hb_d16_0, List.forall_mem_append.mpr ⟨hb_d16_1, List.forall_mem_append.mpr ⟨hb_d16_2, hb_d16_3⟩⟩⟩, px_bL_ok hb_l1⟩
theorem hb_d17_0 : ∀ q ∈ hb_c17_0, decode hb_h17.2.1 q.1 = .ok q.2 := px_rwc_ok (by decide +kernel)
theorem hb_d17_1 : ∀ q ∈ hb_c17_1, decode hb_h17.2.1 q.1 = .ok q.2 := px_rwc_ok (by decide +kernel)
theorem hb_d17_2 : ∀ q ∈ hb_c17_2, decode hb_h17.2.1 q.1 = .ok q.2 := px_rwc_ok (by decide +kernel)
theorem hb_d17_3 : ∀ q ∈ hb_c17_3, decode hb_h17.2.1 q.1 = .ok q.2 := px_rwc_ok (by decide +kernel)
set_option maxRecDepth 100000 in
theorem hb_w17 : lw_tbl[819]? = some (Cond.code hb_h17.1 hb_h17.2.1 hb_h17.2.2.1 hb_h17.2.2.2.1) := by rfl
theorem hb_g17 : px_bM hb_h17 98 = true := by decide +kernel
set_option maxRecDepth 100000 in
theorem hb_o17 : px_okM px_Ts px_Ns hb_cl hb_SL hb_P hb_m17 := ⟨px_bM_ok hb_w17 hb_g17, List.forall_mem_append.mpr ⟨hb_d17_0, List.forall_mem_append.mpr ⟨hb_d17_1, List.forall_mem_append.mpr ⟨hb_d17_2, hb_d17_3⟩⟩⟩, px_bL_ok hb_l1⟩
theorem hb_d18_0 : ∀ q ∈ hb_c18_0, decode hb_h18.2.1 q.1 = .ok q.2 := px_rwc_ok (by decide +kernel)
theorem hb_d18_1 : ∀ q ∈ hb_c18_1, decode hb_h18.2.1 q.1 = .ok q.2 := px_rwc_ok (by decide +kernel)
theorem hb_d18_2 : ∀ q ∈ hb_c18_2, decode hb_h18.2.1 q.1 = .ok q.2 := px_rwc_ok (by decide +kernel)
set_option maxRecDepth 100000 in
theorem hb_w18 : lw_tbl[1212]? = some (Cond.code hb_h18.1 hb_h18.2.1 hb_h18.2.2.1 hb_h18.2.2.2.1) := by rfl
theorem hb_g18 : px_bM hb_h18 98 = true := by decide +kernel
set_option maxRecDepth 100000 in
theorem hb_o18 : px_okM px_Ts px_Ns hb_cl hb_SL hb_P hb_m18 := ⟨px_bM_ok hb_w18 hb_g18, List.forall_mem_append.mpr ⟨hb_d18_0, List.forall_mem_append.mpr ⟨hb_d18_1, hb_d18_2⟩⟩, px_bL_ok hb_l1⟩
theorem hb_d19_0 : ∀ q ∈ hb_c19_0, decode hb_h19.2.1 q.1 = .ok q.2 := px_rwc_ok (by decide +kernel)
theorem hb_d19_1 : ∀ q ∈ hb_c19_1, decode hb_h19.2.1 q.1 = .ok q.2 := px_rwc_ok (by decide +kernel)
theorem hb_d19_2 : ∀ q ∈ hb_c19_2, decode hb_h19.2.1 q.1 = .ok q.2 := px_rwc_ok (by decide +kernel)
set_option maxRecDepth 100000 in
theorem hb_w19 : lw_tbl[1398]? = some (Cond.code hb_h19.1 hb_h19.2.1 hb_h19.2.2.1 hb_h19.2.2.2.1) := by rfl
theorem hb_g19 : px_bM hb_h19 98 = true := by decide +kernel
set_option maxRecDepth 100000 in
theorem hb_o19 : px_okM px_Ts px_Ns hb_cl hb_SL hb_P hb_m19 := ⟨px_bM_ok hb_w19 hb_g19, List.forall_mem_append.mpr ⟨hb_d19_0, List.forall_mem_append.mpr ⟨hb_d19_1, hb_d19_2⟩⟩, px_bL_ok hb_l1⟩

end

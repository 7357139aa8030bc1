theorem hb_d0_0 : ∀ q ∈ hb_c0_0, decode hb_h0.2.1 q.1 = .ok q.2 := by decide +kernel
theorem hb_g0 : px_bM hb_h0 567 106 = true := by decide +kernel
theorem hb_o0 : px_okM px_Ts px_Ns hb_cl hb_SL hb_P hb_m0 := ⟨px_bM_ok hb_g0, hb_d0_0, px_bL_ok hb_l0⟩
theorem hb_d1_0 : ∀ q ∈ hb_c1_0, decode hb_h1.2.1 q.1 = .ok q.2 := by decide +kernel
theorem hb_g1 : px_bM hb_h1 1332 106 = true := by decide +kernel
theorem hb_o1 : px_okM px_Ts px_Ns hb_cl hb_SL hb_P hb_m1 := ⟨px_bM_ok hb_g1, hb_d1_0, px_bL_ok hb_l0⟩
theorem hb_d2_0 : ∀ q ∈ hb_c2_0, decode hb_h2.2.1 q.1 = .ok q.2 := by decide +kernel
theorem hb_g2 : px_bM hb_h2 1340 106 = true := by decide +kernel
theorem hb_o2 : px_okM px_Ts px_Ns hb_cl hb_SL hb_P hb_m2 := ⟨px_bM_ok hb_g2, hb_d2_0, px_bL_ok hb_l0⟩
theorem hb_d3_0 : ∀ q ∈ hb_c3_0, decode hb_h3.2.1 q.1 = .ok q.2 := by decide +kernel
theorem hb_g3 : px_bM hb_h3 1348 106 = true := by decide +kernel
theorem hb_o3 : px_okM px_Ts px_Ns hb_cl hb_SL hb_P hb_m3 := ⟨px_bM_ok hb_g3, hb_d3_0, px_bL_ok hb_l0⟩
theorem hb_d4_0 : ∀ q ∈ hb_c4_0, decode hb_h4.2.1 q.1 = .ok q.2 := by decide +kernel
theorem hb_g4 : px_bM hb_h4 1360 106 = true := by decide +kernel
theorem hb_o4 : px_okM px_Ts px_Ns hb_cl hb_SL hb_P hb_m4 := ⟨px_bM_ok hb_g4, hb_d4_0, px_bL_ok hb_l0⟩
theorem hb_d5_0 : ∀ q ∈ hb_c5_0, decode hb_h5.2.1 q.1 = .ok q.2 := by decide +kernel
theorem hb_d5_1 : ∀ q ∈ hb_c5_1, decode hb_h5.2.1 q.1 = .ok q.2 := by decide +kernel
theorem hb_g5 : px_bM hb_h5 1356 106 = true := by decide +kernel
theorem hb_o5 : px_okM px_Ts px_Ns hb_cl hb_SL hb_P hb_m5 := ⟨px_bM_ok hb_g5, List.forall_mem_append.mpr ⟨hb_d5_0, hb_d5_1⟩, px_bL_ok hb_l0⟩
theorem hb_d6_0 : ∀ q ∈ hb_c6_0, decode hb_h6.2.1 q.1 = .ok q.2 := by decide +kernel
theorem hb_d6_1 : ∀ q ∈ hb_c6_1, decode hb_h6.2.1 q.1 = .ok q.2 := by decide +kernel
theorem hb_g6 : px_bM hb_h6 1364 106 = true := by decide +kernel
theorem hb_o6 : px_okM px_Ts px_Ns hb_cl hb_SL hb_P hb_m6 := ⟨px_bM_ok hb_g6, List.forall_mem_append.mpr ⟨hb_d6_0, hb_d6_1⟩, px_bL_ok hb_l0⟩
theorem hb_d7_0 : ∀ q ∈ hb_c7_0, decode hb_h7.2.1 q.1 = .ok q.2 := by decide +kernel
theorem hb_g7 : px_bM hb_h7 1373 106 = true := by decide +kernel
theorem hb_o7 : px_okM px_Ts px_Ns hb_cl hb_SL hb_P hb_m7 := ⟨px_bM_ok hb_g7, hb_d7_0, px_bL_ok hb_l0⟩
theorem hb_d8_0 : ∀ q ∈ hb_c8_0, decode hb_h8.2.1 q.1 = .ok q.2 := by decide +kernel
theorem hb_g8 : px_bM hb_h8 1381 106 = true := by decide +kernel
theorem hb_o8 : px_okM px_Ts px_Ns hb_cl hb_SL hb_P hb_m8 := ⟨px_bM_ok hb_g8, hb_d8_0, px_bL_ok hb_l0⟩
theorem hb_d9_0 : ∀ q ∈ hb_c9_0, decode hb_h9.2.1 q.1 = .ok q.2 := by decide +kernel
theorem hb_g9 : px_bM hb_h9 1368 106 = true := by decide +kernel
theorem hb_o9 : px_okM px_Ts px_Ns hb_cl hb_SL hb_P hb_m9 := ⟨px_bM_ok hb_g9, hb_d9_0, px_bL_ok hb_l0⟩
theorem hb_d10_0 : ∀ q ∈ hb_c10_0, decode hb_h10.2.1 q.1 = .ok q.2 := by decide +kernel
theorem hb_g10 : px_bM hb_h10 1377 106 = true := by decide +kernel
theorem hb_o10 : px_okM px_Ts px_Ns hb_cl hb_SL hb_P hb_m10 := ⟨px_bM_ok hb_g10, hb_d10_0, px_bL_ok hb_l0⟩
theorem hb_d11_0 : ∀ q ∈ hb_c11_0, decode hb_h11.2.1 q.1 = .ok q.2 := by decide +kernel
theorem hb_g11 : px_bM hb_h11 1385 106 = true := by decide +kernel
theorem hb_o11 : px_okM px_Ts px_Ns hb_cl hb_SL hb_P hb_m11 := ⟨px_bM_ok hb_g11, hb_d11_0, px_bL_ok hb_l0⟩
theorem hb_d12_0 : ∀ q ∈ hb_c12_0, decode hb_h12.2.1 q.1 = .ok q.2 := by decide +kernel
theorem hb_d12_1 : ∀ q ∈ hb_c12_1, decode hb_h12.2.1 q.1 = .ok q.2 := by decide +kernel
theorem hb_g12 : px_bM hb_h12 213 98 = true := by decide +kernel
theorem hb_o12 : px_okM px_Ts px_Ns hb_cl hb_SL hb_P hb_m12 := ⟨px_bM_ok hb_g12, List.forall_mem_append.mpr ⟨hb_d12_0, hb_d12_1⟩, px_bL_ok hb_l1⟩
theorem hb_d13_0 : ∀ q ∈ hb_c13_0, decode hb_h13.2.1 q.1 = .ok q.2 := by decide +kernel
theorem hb_g13 : px_bM hb_h13 781 98 = true := by decide +kernel
theorem hb_o13 : px_okM px_Ts px_Ns hb_cl hb_SL hb_P hb_m13 := ⟨px_bM_ok hb_g13, hb_d13_0, px_bL_ok hb_l1⟩
theorem hb_d14_0 : ∀ q ∈ hb_c14_0, decode hb_h14.2.1 q.1 = .ok q.2 := by decide +kernel
theorem hb_d14_1 : ∀ q ∈ hb_c14_1, decode hb_h14.2.1 q.1 = .ok q.2 := by decide +kernel
theorem hb_g14 : px_bM hb_h14 1411 98 = true := by decide +kernel
theorem hb_o14 : px_okM px_Ts px_Ns hb_cl hb_SL hb_P hb_m14 := ⟨px_bM_ok hb_g14, List.forall_mem_append.mpr ⟨hb_d14_0, hb_d14_1⟩, px_bL_ok hb_l1⟩
theorem hb_d15_0 : ∀ q ∈ hb_c15_0, decode hb_h15.2.1 q.1 = .ok q.2 := by decide +kernel
theorem hb_g15 : px_bM hb_h15 788 98 = true := by decide +kernel
theorem hb_o15 : px_okM px_Ts px_Ns hb_cl hb_SL hb_P hb_m15 := ⟨px_bM_ok hb_g15, hb_d15_0, px_bL_ok hb_l1⟩
theorem hb_d16_0 : ∀ q ∈ hb_c16_0, decode hb_h16.2.1 q.1 = .ok q.2 := by decide +kernel
theorem hb_g16 : px_bM hb_h16 796 98 = true := by decide +kernel
theorem hb_o16 : px_okM px_Ts px_Ns hb_cl hb_SL hb_P hb_m16 := ⟨px_bM_ok hb_g16, hb_d16_0, px_bL_ok hb_l1⟩
theorem hb_d17_0 : ∀ q ∈ hb_c17_0, decode hb_h17.2.1 q.1 = .ok q.2 := by decide +kernel
theorem hb_g17 : px_bM hb_h17 819 98 = true := by decide +kernel
theorem hb_o17 : px_okM px_Ts px_Ns hb_cl hb_SL hb_P hb_m17 := ⟨px_bM_ok hb_g17, hb_d17_0, px_bL_ok hb_l1⟩
theorem hb_d18_0 : ∀ q ∈ hb_c18_0, decode hb_h18.2.1 q.1 = .ok q.2 := by decide +kernel
theorem hb_g18 : px_bM hb_h18 1212 98 = true := by decide +kernel
theorem hb_o18 : px_okM px_Ts px_Ns hb_cl hb_SL hb_P hb_m18 := ⟨px_bM_ok hb_g18, hb_d18_0, px_bL_ok hb_l1⟩
theorem hb_d19_0 : ∀ q ∈ hb_c19_0, decode hb_h19.2.1 q.1 = .ok q.2 := by decide +kernel
theorem hb_g19 : px_bM hb_h19 1398 98 = true := by decide +kernel
theorem hb_o19 : px_okM px_Ts px_Ns hb_cl hb_SL hb_P hb_m19 := ⟨px_bM_ok hb_g19, hb_d19_0, px_bL_ok hb_l1⟩
theorem hb_d20_0 : ∀ q ∈ hb_c20_0, decode hb_h20.2.1 q.1 = .ok q.2 := by decide +kernel
theorem hb_d20_1 : ∀ q ∈ hb_c20_1, decode hb_h20.2.1 q.1 = .ok q.2 := by decide +kernel
theorem hb_g20 : px_bM hb_h20 804 98 = true := by decide +kernel
theorem hb_o20 : px_okM px_Ts px_Ns hb_cl hb_SL hb_P hb_m20 := ⟨px_bM_ok hb_g20, List.forall_mem_append.mpr ⟨hb_d20_0, hb_d20_1⟩, px_bL_ok hb_l1⟩
theorem hb_d21_0 : ∀ q ∈ hb_c21_0, decode hb_h21.2.1 q.1 = .ok q.2 := by decide +kernel
theorem hb_g21 : px_bM hb_h21 809 98 = true := by decide +kernel
theorem hb_o21 : px_okM px_Ts px_Ns hb_cl hb_SL hb_P hb_m21 := ⟨px_bM_ok hb_g21, hb_d21_0, px_bL_ok hb_l1⟩
theorem hb_d22_0 : ∀ q ∈ hb_c22_0, decode hb_h22.2.1 q.1 = .ok q.2 := by decide +kernel
theorem hb_d22_1 : ∀ q ∈ hb_c22_1, decode hb_h22.2.1 q.1 = .ok q.2 := by decide +kernel
theorem hb_g22 : px_bM hb_h22 537 105 = true := by decide +kernel
theorem hb_o22 : px_okM px_Ts px_Ns hb_cl hb_SL hb_P hb_m22 := ⟨px_bM_ok hb_g22, List.forall_mem_append.mpr ⟨hb_d22_0, hb_d22_1⟩, px_bL_ok hb_l2⟩
theorem hb_d23_0 : ∀ q ∈ hb_c23_0, decode hb_h23.2.1 q.1 = .ok q.2 := by decide +kernel
theorem hb_g23 : px_bM hb_h23 1273 105 = true := by decide +kernel
theorem hb_o23 : px_okM px_Ts px_Ns hb_cl hb_SL hb_P hb_m23 := ⟨px_bM_ok hb_g23, hb_d23_0, px_bL_ok hb_l2⟩
theorem hb_d24_0 : ∀ q ∈ hb_c24_0, decode hb_h24.2.1 q.1 = .ok q.2 := by decide +kernel
theorem hb_g24 : px_bM hb_h24 1277 105 = true := by decide +kernel
theorem hb_o24 : px_okM px_Ts px_Ns hb_cl hb_SL hb_P hb_m24 := ⟨px_bM_ok hb_g24, hb_d24_0, px_bL_ok hb_l2⟩
theorem hb_d25_0 : ∀ q ∈ hb_c25_0, decode hb_h25.2.1 q.1 = .ok q.2 := by decide +kernel
theorem hb_g25 : px_bM hb_h25 1285 105 = true := by decide +kernel
theorem hb_o25 : px_okM px_Ts px_Ns hb_cl hb_SL hb_P hb_m25 := ⟨px_bM_ok hb_g25, hb_d25_0, px_bL_ok hb_l2⟩
theorem hb_d26_0 : ∀ q ∈ hb_c26_0, decode hb_h26.2.1 q.1 = .ok q.2 := by decide +kernel
theorem hb_g26 : px_bM hb_h26 1300 105 = true := by decide +kernel
theorem hb_o26 : px_okM px_Ts px_Ns hb_cl hb_SL hb_P hb_m26 := ⟨px_bM_ok hb_g26, hb_d26_0, px_bL_ok hb_l2⟩
theorem hb_d27_0 : ∀ q ∈ hb_c27_0, decode hb_h27.2.1 q.1 = .ok q.2 := by decide +kernel
theorem hb_g27 : px_bM hb_h27 1289 105 = true := by decide +kernel
theorem hb_o27 : px_okM px_Ts px_Ns hb_cl hb_SL hb_P hb_m27 := ⟨px_bM_ok hb_g27, hb_d27_0, px_bL_ok hb_l2⟩
theorem hb_d28_0 : ∀ q ∈ hb_c28_0, decode hb_h28.2.1 q.1 = .ok q.2 := by decide +kernel
theorem hb_g28 : px_bM hb_h28 1304 105 = true := by decide +kernel
theorem hb_o28 : px_okM px_Ts px_Ns hb_cl hb_SL hb_P hb_m28 := ⟨px_bM_ok hb_g28, hb_d28_0, px_bL_ok hb_l2⟩
theorem hb_d29_0 : ∀ q ∈ hb_c29_0, decode hb_h29.2.1 q.1 = .ok q.2 := by decide +kernel
theorem hb_g29 : px_bM hb_h29 1292 105 = true := by decide +kernel
theorem hb_o29 : px_okM px_Ts px_Ns hb_cl hb_SL hb_P hb_m29 := ⟨px_bM_ok hb_g29, hb_d29_0, px_bL_ok hb_l2⟩
theorem hb_d30_0 : ∀ q ∈ hb_c30_0, decode hb_h30.2.1 q.1 = .ok q.2 := by decide +kernel
theorem hb_d30_1 : ∀ q ∈ hb_c30_1, decode hb_h30.2.1 q.1 = .ok q.2 := by decide +kernel
theorem hb_g30 : px_bM hb_h30 1321 105 = true := by decide +kernel
theorem hb_o30 : px_okM px_Ts px_Ns hb_cl hb_SL hb_P hb_m30 := ⟨px_bM_ok hb_g30, List.forall_mem_append.mpr ⟨hb_d30_0, hb_d30_1⟩, px_bL_ok hb_l2⟩
theorem hb_d31_0 : ∀ q ∈ hb_c31_0, decode hb_h31.2.1 q.1 = .ok q.2 := by decide +kernel
theorem hb_d31_1 : ∀ q ∈ hb_c31_1, decode hb_h31.2.1 q.1 = .ok q.2 := by decide +kernel
theorem hb_g31 : px_bM hb_h31 127 96 = true := by decide +kernel
theorem hb_o31 : px_okM px_Ts px_Ns hb_cl hb_SL hb_P hb_m31 := ⟨px_bM_ok hb_g31, List.forall_mem_append.mpr ⟨hb_d31_0, hb_d31_1⟩, px_bL_ok hb_l3⟩
theorem hb_d32_0 : ∀ q ∈ hb_c32_0, decode hb_h32.2.1 q.1 = .ok q.2 := by decide +kernel
theorem hb_d32_1 : ∀ q ∈ hb_c32_1, decode hb_h32.2.1 q.1 = .ok q.2 := by decide +kernel
theorem hb_g32 : px_bM hb_h32 734 96 = true := by decide +kernel
theorem hb_o32 : px_okM px_Ts px_Ns hb_cl hb_SL hb_P hb_m32 := ⟨px_bM_ok hb_g32, List.forall_mem_append.mpr ⟨hb_d32_0, hb_d32_1⟩, px_bL_ok hb_l3⟩
theorem hb_d33_0 : ∀ q ∈ hb_c33_0, decode hb_h33.2.1 q.1 = .ok q.2 := by decide +kernel
theorem hb_g33 : px_bM hb_h33 699 96 = true := by decide +kernel
theorem hb_o33 : px_okM px_Ts px_Ns hb_cl hb_SL hb_P hb_m33 := ⟨px_bM_ok hb_g33, hb_d33_0, px_bL_ok hb_l3⟩
theorem hb_d34_0 : ∀ q ∈ hb_c34_0, decode hb_h34.2.1 q.1 = .ok q.2 := by decide +kernel
theorem hb_g34 : px_bM hb_h34 708 96 = true := by decide +kernel
theorem hb_o34 : px_okM px_Ts px_Ns hb_cl hb_SL hb_P hb_m34 := ⟨px_bM_ok hb_g34, hb_d34_0, px_bL_ok hb_l3⟩
theorem hb_d35_0 : ∀ q ∈ hb_c35_0, decode hb_h35.2.1 q.1 = .ok q.2 := by decide +kernel
theorem hb_g35 : px_bM hb_h35 772 96 = true := by decide +kernel
theorem hb_o35 : px_okM px_Ts px_Ns hb_cl hb_SL hb_P hb_m35 := ⟨px_bM_ok hb_g35, hb_d35_0, px_bL_ok hb_l3⟩
theorem hb_d36_0 : ∀ q ∈ hb_c36_0, decode hb_h36.2.1 q.1 = .ok q.2 := by decide +kernel
theorem hb_g36 : px_bM hb_h36 670 96 = true := by decide +kernel
theorem hb_o36 : px_okM px_Ts px_Ns hb_cl hb_SL hb_P hb_m36 := ⟨px_bM_ok hb_g36, hb_d36_0, px_bL_ok hb_l3⟩
theorem hb_d37_0 : ∀ q ∈ hb_c37_0, decode hb_h37.2.1 q.1 = .ok q.2 := by decide +kernel
theorem hb_g37 : px_bM hb_h37 674 96 = true := by decide +kernel
theorem hb_o37 : px_okM px_Ts px_Ns hb_cl hb_SL hb_P hb_m37 := ⟨px_bM_ok hb_g37, hb_d37_0, px_bL_ok hb_l3⟩
theorem hb_d38_0 : ∀ q ∈ hb_c38_0, decode hb_h38.2.1 q.1 = .ok q.2 := by decide +kernel
theorem hb_g38 : px_bM hb_h38 1196 96 = true := by decide +kernel
theorem hb_o38 : px_okM px_Ts px_Ns hb_cl hb_SL hb_P hb_m38 := ⟨px_bM_ok hb_g38, hb_d38_0, px_bL_ok hb_l3⟩
theorem hb_d39_0 : ∀ q ∈ hb_c39_0, decode hb_h39.2.1 q.1 = .ok q.2 := by decide +kernel
theorem hb_g39 : px_bM hb_h39 662 96 = true := by decide +kernel
theorem hb_o39 : px_okM px_Ts px_Ns hb_cl hb_SL hb_P hb_m39 := ⟨px_bM_ok hb_g39, hb_d39_0, px_bL_ok hb_l3⟩
theorem hb_d40_0 : ∀ q ∈ hb_c40_0, decode hb_h40.2.1 q.1 = .ok q.2 := by decide +kernel
theorem hb_g40 : px_bM hb_h40 692 96 = true := by decide +kernel
theorem hb_o40 : px_okM px_Ts px_Ns hb_cl hb_SL hb_P hb_m40 := ⟨px_bM_ok hb_g40, hb_d40_0, px_bL_ok hb_l3⟩
theorem hb_d41_0 : ∀ q ∈ hb_c41_0, decode hb_h41.2.1 q.1 = .ok q.2 := by decide +kernel
theorem hb_d41_1 : ∀ q ∈ hb_c41_1, decode hb_h41.2.1 q.1 = .ok q.2 := by decide +kernel
theorem hb_g41 : px_bM hb_h41 666 96 = true := by decide +kernel
theorem hb_o41 : px_okM px_Ts px_Ns hb_cl hb_SL hb_P hb_m41 := ⟨px_bM_ok hb_g41, List.forall_mem_append.mpr ⟨hb_d41_0, hb_d41_1⟩, px_bL_ok hb_l3⟩
theorem hb_d42_0 : ∀ q ∈ hb_c42_0, decode hb_h42.2.1 q.1 = .ok q.2 := by decide +kernel
theorem hb_d42_1 : ∀ q ∈ hb_c42_1, decode hb_h42.2.1 q.1 = .ok q.2 := by decide +kernel
theorem hb_d42_2 : ∀ q ∈ hb_c42_2, decode hb_h42.2.1 q.1 = .ok q.2 := by decide +kernel
theorem hb_g42 : px_bM hb_h42 684 96 = true := by decide +kernel
theorem hb_o42 : px_okM px_Ts px_Ns hb_cl hb_SL hb_P hb_m42 := ⟨px_bM_ok hb_g42, List.forall_mem_append.mpr ⟨hb_d42_0, List.forall_mem_append.mpr ⟨hb_d42_1, hb_d42_2⟩⟩, px_bL_ok hb_l3⟩
theorem hb_d43_0 : ∀ q ∈ hb_c43_0, decode hb_h43.2.1 q.1 = .ok q.2 := by decide +kernel
theorem hb_d43_1 : ∀ q ∈ hb_c43_1, decode hb_h43.2.1 q.1 = .ok q.2 := by decide +kernel
theorem hb_g43 : px_bM hb_h43 688 96 = true := by decide +kernel
theorem hb_o43 : px_okM px_Ts px_Ns hb_cl hb_SL hb_P hb_m43 := ⟨px_bM_ok hb_g43, List.forall_mem_append.mpr ⟨hb_d43_0, hb_d43_1⟩, px_bL_ok hb_l3⟩

theorem hb_d44_0 : ∀ q ∈ hb_c44_0, decode hb_h44.2.1 q.1 = .ok q.2 := by decide +kernel
theorem hb_d44_1 : ∀ q ∈ hb_c44_1, decode hb_h44.2.1 q.1 = .ok q.2 := by decide +kernel
theorem hb_g44 : px_bM hb_h44 398 102 = true := by decide +kernel
theorem hb_o44 : px_okM px_Ts px_Ns hb_cl hb_SL hb_P hb_m44 := ⟨px_bM_ok hb_g44, List.forall_mem_append.mpr ⟨hb_d44_0, hb_d44_1⟩, px_bL_ok hb_l4⟩
theorem hb_d45_0 : ∀ q ∈ hb_c45_0, decode hb_h45.2.1 q.1 = .ok q.2 := by decide +kernel
theorem hb_g45 : px_bM hb_h45 1431 102 = true := by decide +kernel
theorem hb_o45 : px_okM px_Ts px_Ns hb_cl hb_SL hb_P hb_m45 := ⟨px_bM_ok hb_g45, hb_d45_0, px_bL_ok hb_l4⟩
theorem hb_d46_0 : ∀ q ∈ hb_c46_0, decode hb_h46.2.1 q.1 = .ok q.2 := by decide +kernel
theorem hb_g46 : px_bM hb_h46 1245 102 = true := by decide +kernel
theorem hb_o46 : px_okM px_Ts px_Ns hb_cl hb_SL hb_P hb_m46 := ⟨px_bM_ok hb_g46, hb_d46_0, px_bL_ok hb_l4⟩
theorem hb_d47_0 : ∀ q ∈ hb_c47_0, decode hb_h47.2.1 q.1 = .ok q.2 := by decide +kernel
theorem hb_d47_1 : ∀ q ∈ hb_c47_1, decode hb_h47.2.1 q.1 = .ok q.2 := by decide +kernel
theorem hb_g47 : px_bM hb_h47 1253 102 = true := by decide +kernel
theorem hb_o47 : px_okM px_Ts px_Ns hb_cl hb_SL hb_P hb_m47 := ⟨px_bM_ok hb_g47, List.forall_mem_append.mpr ⟨hb_d47_0, hb_d47_1⟩, px_bL_ok hb_l4⟩
theorem hb_d48_0 : ∀ q ∈ hb_c48_0, decode hb_h48.2.1 q.1 = .ok q.2 := by decide +kernel
theorem hb_g48 : px_bM hb_h48 1257 102 = true := by decide +kernel
theorem hb_o48 : px_okM px_Ts px_Ns hb_cl hb_SL hb_P hb_m48 := ⟨px_bM_ok hb_g48, hb_d48_0, px_bL_ok hb_l4⟩
theorem hb_d49_0 : ∀ q ∈ hb_c49_0, decode hb_h49.2.1 q.1 = .ok q.2 := by decide +kernel
theorem hb_g49 : px_bM hb_h49 1261 102 = true := by decide +kernel
theorem hb_o49 : px_okM px_Ts px_Ns hb_cl hb_SL hb_P hb_m49 := ⟨px_bM_ok hb_g49, hb_d49_0, px_bL_ok hb_l4⟩
theorem hb_d50_0 : ∀ q ∈ hb_c50_0, decode hb_h50.2.1 q.1 = .ok q.2 := by decide +kernel
theorem hb_d50_1 : ∀ q ∈ hb_c50_1, decode hb_h50.2.1 q.1 = .ok q.2 := by decide +kernel
theorem hb_d50_2 : ∀ q ∈ hb_c50_2, decode hb_h50.2.1 q.1 = .ok q.2 := by decide +kernel
theorem hb_g50 : px_bM hb_h50 1265 102 = true := by decide +kernel
theorem hb_o50 : px_okM px_Ts px_Ns hb_cl hb_SL hb_P hb_m50 := ⟨px_bM_ok hb_g50, List.forall_mem_append.mpr ⟨hb_d50_0, List.forall_mem_append.mpr ⟨hb_d50_1, hb_d50_2⟩⟩, px_bL_ok hb_l4⟩
theorem hb_d51_0 : ∀ q ∈ hb_c51_0, decode hb_h51.2.1 q.1 = .ok q.2 := by decide +kernel
theorem hb_g51 : px_bM hb_h51 505 104 = true := by decide +kernel
theorem hb_o51 : px_okM px_Ts px_Ns hb_cl hb_SL hb_P hb_m51 := ⟨px_bM_ok hb_g51, hb_d51_0, px_bL_ok hb_l5⟩
theorem hb_d52_0 : ∀ q ∈ hb_c52_0, decode hb_h52.2.1 q.1 = .ok q.2 := by decide +kernel
theorem hb_g52 : px_bM hb_h52 1019 104 = true := by decide +kernel
theorem hb_o52 : px_okM px_Ts px_Ns hb_cl hb_SL hb_P hb_m52 := ⟨px_bM_ok hb_g52, hb_d52_0, px_bL_ok hb_l5⟩
theorem hb_d53_0 : ∀ q ∈ hb_c53_0, decode hb_h53.2.1 q.1 = .ok q.2 := by decide +kernel
theorem hb_d53_1 : ∀ q ∈ hb_c53_1, decode hb_h53.2.1 q.1 = .ok q.2 := by decide +kernel
theorem hb_g53 : px_bM hb_h53 1028 104 = true := by decide +kernel
theorem hb_o53 : px_okM px_Ts px_Ns hb_cl hb_SL hb_P hb_m53 := ⟨px_bM_ok hb_g53, List.forall_mem_append.mpr ⟨hb_d53_0, hb_d53_1⟩, px_bL_ok hb_l5⟩
theorem hb_d54_0 : ∀ q ∈ hb_c54_0, decode hb_h54.2.1 q.1 = .ok q.2 := by decide +kernel
theorem hb_d54_1 : ∀ q ∈ hb_c54_1, decode hb_h54.2.1 q.1 = .ok q.2 := by decide +kernel
theorem hb_d54_2 : ∀ q ∈ hb_c54_2, decode hb_h54.2.1 q.1 = .ok q.2 := by decide +kernel
theorem hb_g54 : px_bM hb_h54 1032 104 = true := by decide +kernel
theorem hb_o54 : px_okM px_Ts px_Ns hb_cl hb_SL hb_P hb_m54 := ⟨px_bM_ok hb_g54, List.forall_mem_append.mpr ⟨hb_d54_0, List.forall_mem_append.mpr ⟨hb_d54_1, hb_d54_2⟩⟩, px_bL_ok hb_l5⟩
theorem hb_d55_0 : ∀ q ∈ hb_c55_0, decode hb_h55.2.1 q.1 = .ok q.2 := by decide +kernel
theorem hb_g55 : px_bM hb_h55 1111 104 = true := by decide +kernel
theorem hb_o55 : px_okM px_Ts px_Ns hb_cl hb_SL hb_P hb_m55 := ⟨px_bM_ok hb_g55, hb_d55_0, px_bL_ok hb_l5⟩
theorem hb_d56_0 : ∀ q ∈ hb_c56_0, decode hb_h56.2.1 q.1 = .ok q.2 := by decide +kernel
theorem hb_g56 : px_bM hb_h56 1035 104 = true := by decide +kernel
theorem hb_o56 : px_okM px_Ts px_Ns hb_cl hb_SL hb_P hb_m56 := ⟨px_bM_ok hb_g56, hb_d56_0, px_bL_ok hb_l5⟩
theorem hb_d57_0 : ∀ q ∈ hb_c57_0, decode hb_h57.2.1 q.1 = .ok q.2 := by decide +kernel
theorem hb_g57 : px_bM hb_h57 1114 104 = true := by decide +kernel
theorem hb_o57 : px_okM px_Ts px_Ns hb_cl hb_SL hb_P hb_m57 := ⟨px_bM_ok hb_g57, hb_d57_0, px_bL_ok hb_l5⟩
theorem hb_d58_0 : ∀ q ∈ hb_c58_0, decode hb_h58.2.1 q.1 = .ok q.2 := by decide +kernel
theorem hb_g58 : px_bM hb_h58 1118 104 = true := by decide +kernel
theorem hb_o58 : px_okM px_Ts px_Ns hb_cl hb_SL hb_P hb_m58 := ⟨px_bM_ok hb_g58, hb_d58_0, px_bL_ok hb_l5⟩
theorem hb_d59_0 : ∀ q ∈ hb_c59_0, decode hb_h59.2.1 q.1 = .ok q.2 := by decide +kernel
theorem hb_d59_1 : ∀ q ∈ hb_c59_1, decode hb_h59.2.1 q.1 = .ok q.2 := by decide +kernel
theorem hb_d59_2 : ∀ q ∈ hb_c59_2, decode hb_h59.2.1 q.1 = .ok q.2 := by decide +kernel
theorem hb_d59_3 : ∀ q ∈ hb_c59_3, decode hb_h59.2.1 q.1 = .ok q.2 := by decide +kernel
theorem hb_g59 : px_bM hb_h59 1039 104 = true := by decide +kernel
theorem hb_o59 : px_okM px_Ts px_Ns hb_cl hb_SL hb_P hb_m59 := ⟨px_bM_ok hb_g59, List.forall_mem_append.mpr ⟨hb_d59_0, List.forall_mem_append.mpr ⟨hb_d59_1, List.forall_mem_append.mpr ⟨hb_d59_2, hb_d59_3⟩⟩⟩, px_bL_ok hb_l5⟩
theorem hb_d60_0 : ∀ q ∈ hb_c60_0, decode hb_h60.2.1 q.1 = .ok q.2 := by decide +kernel
theorem hb_g60 : px_bM hb_h60 1044 104 = true := by decide +kernel
theorem hb_o60 : px_okM px_Ts px_Ns hb_cl hb_SL hb_P hb_m60 := ⟨px_bM_ok hb_g60, hb_d60_0, px_bL_ok hb_l5⟩
theorem hb_d61_0 : ∀ q ∈ hb_c61_0, decode hb_h61.2.1 q.1 = .ok q.2 := by decide +kernel
theorem hb_g61 : px_bM hb_h61 1147 104 = true := by decide +kernel
theorem hb_o61 : px_okM px_Ts px_Ns hb_cl hb_SL hb_P hb_m61 := ⟨px_bM_ok hb_g61, hb_d61_0, px_bL_ok hb_l5⟩
theorem hb_d62_0 : ∀ q ∈ hb_c62_0, decode hb_h62.2.1 q.1 = .ok q.2 := by decide +kernel
theorem hb_g62 : px_bM hb_h62 1134 104 = true := by decide +kernel
theorem hb_o62 : px_okM px_Ts px_Ns hb_cl hb_SL hb_P hb_m62 := ⟨px_bM_ok hb_g62, hb_d62_0, px_bL_ok hb_l5⟩
theorem hb_d63_0 : ∀ q ∈ hb_c63_0, decode hb_h63.2.1 q.1 = .ok q.2 := by decide +kernel
theorem hb_g63 : px_bM hb_h63 1130 104 = true := by decide +kernel
theorem hb_o63 : px_okM px_Ts px_Ns hb_cl hb_SL hb_P hb_m63 := ⟨px_bM_ok hb_g63, hb_d63_0, px_bL_ok hb_l5⟩
theorem hb_d64_0 : ∀ q ∈ hb_c64_0, decode hb_h64.2.1 q.1 = .ok q.2 := by decide +kernel
theorem hb_g64 : px_bM hb_h64 1126 104 = true := by decide +kernel
theorem hb_o64 : px_okM px_Ts px_Ns hb_cl hb_SL hb_P hb_m64 := ⟨px_bM_ok hb_g64, hb_d64_0, px_bL_ok hb_l5⟩
theorem hb_d65_0 : ∀ q ∈ hb_c65_0, decode hb_h65.2.1 q.1 = .ok q.2 := by decide +kernel
theorem hb_d65_1 : ∀ q ∈ hb_c65_1, decode hb_h65.2.1 q.1 = .ok q.2 := by decide +kernel
theorem hb_d65_2 : ∀ q ∈ hb_c65_2, decode hb_h65.2.1 q.1 = .ok q.2 := by decide +kernel
theorem hb_g65 : px_bM hb_h65 1142 104 = true := by decide +kernel
theorem hb_o65 : px_okM px_Ts px_Ns hb_cl hb_SL hb_P hb_m65 := ⟨px_bM_ok hb_g65, List.forall_mem_append.mpr ⟨hb_d65_0, List.forall_mem_append.mpr ⟨hb_d65_1, hb_d65_2⟩⟩, px_bL_ok hb_l5⟩
theorem hb_d66_0 : ∀ q ∈ hb_c66_0, decode hb_h66.2.1 q.1 = .ok q.2 := by decide +kernel
theorem hb_g66 : px_bM hb_h66 1151 104 = true := by decide +kernel
theorem hb_o66 : px_okM px_Ts px_Ns hb_cl hb_SL hb_P hb_m66 := ⟨px_bM_ok hb_g66, hb_d66_0, px_bL_ok hb_l5⟩
theorem hb_d67_0 : ∀ q ∈ hb_c67_0, decode hb_h67.2.1 q.1 = .ok q.2 := by decide +kernel
theorem hb_g67 : px_bM hb_h67 1159 104 = true := by decide +kernel
theorem hb_o67 : px_okM px_Ts px_Ns hb_cl hb_SL hb_P hb_m67 := ⟨px_bM_ok hb_g67, hb_d67_0, px_bL_ok hb_l5⟩
theorem hb_d68_0 : ∀ q ∈ hb_c68_0, decode hb_h68.2.1 q.1 = .ok q.2 := by decide +kernel
theorem hb_g68 : px_bM hb_h68 1163 104 = true := by decide +kernel
theorem hb_o68 : px_okM px_Ts px_Ns hb_cl hb_SL hb_P hb_m68 := ⟨px_bM_ok hb_g68, hb_d68_0, px_bL_ok hb_l5⟩
theorem hb_d69_0 : ∀ q ∈ hb_c69_0, decode hb_h69.2.1 q.1 = .ok q.2 := by decide +kernel
theorem hb_d69_1 : ∀ q ∈ hb_c69_1, decode hb_h69.2.1 q.1 = .ok q.2 := by decide +kernel
theorem hb_g69 : px_bM hb_h69 1167 104 = true := by decide +kernel
theorem hb_o69 : px_okM px_Ts px_Ns hb_cl hb_SL hb_P hb_m69 := ⟨px_bM_ok hb_g69, List.forall_mem_append.mpr ⟨hb_d69_0, hb_d69_1⟩, px_bL_ok hb_l5⟩
theorem hb_d70_0 : ∀ q ∈ hb_c70_0, decode hb_h70.2.1 q.1 = .ok q.2 := by decide +kernel
theorem hb_g70 : px_bM hb_h70 1171 104 = true := by decide +kernel
theorem hb_o70 : px_okM px_Ts px_Ns hb_cl hb_SL hb_P hb_m70 := ⟨px_bM_ok hb_g70, hb_d70_0, px_bL_ok hb_l5⟩
theorem hb_d71_0 : ∀ q ∈ hb_c71_0, decode hb_h71.2.1 q.1 = .ok q.2 := by decide +kernel
theorem hb_d71_1 : ∀ q ∈ hb_c71_1, decode hb_h71.2.1 q.1 = .ok q.2 := by decide +kernel
theorem hb_g71 : px_bM hb_h71 1175 104 = true := by decide +kernel
theorem hb_o71 : px_okM px_Ts px_Ns hb_cl hb_SL hb_P hb_m71 := ⟨px_bM_ok hb_g71, List.forall_mem_append.mpr ⟨hb_d71_0, hb_d71_1⟩, px_bL_ok hb_l5⟩
theorem hb_d72_0 : ∀ q ∈ hb_c72_0, decode hb_h72.2.1 q.1 = .ok q.2 := by decide +kernel
theorem hb_g72 : px_bM hb_h72 363 101 = true := by decide +kernel
theorem hb_o72 : px_okM px_Ts px_Ns hb_cl hb_SL hb_P hb_m72 := ⟨px_bM_ok hb_g72, hb_d72_0, px_bL_ok hb_l6⟩
theorem hb_d73_0 : ∀ q ∈ hb_c73_0, decode hb_h73.2.1 q.1 = .ok q.2 := by decide +kernel
theorem hb_g73 : px_bM hb_h73 1426 101 = true := by decide +kernel
theorem hb_o73 : px_okM px_Ts px_Ns hb_cl hb_SL hb_P hb_m73 := ⟨px_bM_ok hb_g73, hb_d73_0, px_bL_ok hb_l6⟩
theorem hb_d74_0 : ∀ q ∈ hb_c74_0, decode hb_h74.2.1 q.1 = .ok q.2 := by decide +kernel
theorem hb_g74 : px_bM hb_h74 1122 101 = true := by decide +kernel
theorem hb_o74 : px_okM px_Ts px_Ns hb_cl hb_SL hb_P hb_m74 := ⟨px_bM_ok hb_g74, hb_d74_0, px_bL_ok hb_l6⟩
theorem hb_d75_0 : ∀ q ∈ hb_c75_0, decode hb_h75.2.1 q.1 = .ok q.2 := by decide +kernel
theorem hb_g75 : px_bM hb_h75 1155 101 = true := by decide +kernel
theorem hb_o75 : px_okM px_Ts px_Ns hb_cl hb_SL hb_P hb_m75 := ⟨px_bM_ok hb_g75, hb_d75_0, px_bL_ok hb_l6⟩
theorem hb_d76_0 : ∀ q ∈ hb_c76_0, decode hb_h76.2.1 q.1 = .ok q.2 := by decide +kernel
theorem hb_g76 : px_bM hb_h76 1179 101 = true := by decide +kernel
theorem hb_o76 : px_okM px_Ts px_Ns hb_cl hb_SL hb_P hb_m76 := ⟨px_bM_ok hb_g76, hb_d76_0, px_bL_ok hb_l6⟩
theorem hb_d77_0 : ∀ q ∈ hb_c77_0, decode hb_h77.2.1 q.1 = .ok q.2 := by decide +kernel
theorem hb_d77_1 : ∀ q ∈ hb_c77_1, decode hb_h77.2.1 q.1 = .ok q.2 := by decide +kernel
theorem hb_g77 : px_bM hb_h77 1138 101 = true := by decide +kernel
theorem hb_o77 : px_okM px_Ts px_Ns hb_cl hb_SL hb_P hb_m77 := ⟨px_bM_ok hb_g77, List.forall_mem_append.mpr ⟨hb_d77_0, hb_d77_1⟩, px_bL_ok hb_l6⟩
theorem hb_d78_0 : ∀ q ∈ hb_c78_0, decode hb_h78.2.1 q.1 = .ok q.2 := by decide +kernel
theorem hb_g78 : px_bM hb_h78 1183 101 = true := by decide +kernel
theorem hb_o78 : px_okM px_Ts px_Ns hb_cl hb_SL hb_P hb_m78 := ⟨px_bM_ok hb_g78, hb_d78_0, px_bL_ok hb_l6⟩
theorem hb_d79_0 : ∀ q ∈ hb_c79_0, decode hb_h79.2.1 q.1 = .ok q.2 := by decide +kernel
theorem hb_g79 : px_bM hb_h79 1200 101 = true := by decide +kernel
theorem hb_o79 : px_okM px_Ts px_Ns hb_cl hb_SL hb_P hb_m79 := ⟨px_bM_ok hb_g79, hb_d79_0, px_bL_ok hb_l6⟩
theorem hb_d80_0 : ∀ q ∈ hb_c80_0, decode hb_h80.2.1 q.1 = .ok q.2 := by decide +kernel
theorem hb_g80 : px_bM hb_h80 1221 101 = true := by decide +kernel
theorem hb_o80 : px_okM px_Ts px_Ns hb_cl hb_SL hb_P hb_m80 := ⟨px_bM_ok hb_g80, hb_d80_0, px_bL_ok hb_l6⟩
theorem hb_d81_0 : ∀ q ∈ hb_c81_0, decode hb_h81.2.1 q.1 = .ok q.2 := by decide +kernel
theorem hb_g81 : px_bM hb_h81 1229 101 = true := by decide +kernel
theorem hb_o81 : px_okM px_Ts px_Ns hb_cl hb_SL hb_P hb_m81 := ⟨px_bM_ok hb_g81, hb_d81_0, px_bL_ok hb_l6⟩
theorem hb_d82_0 : ∀ q ∈ hb_c82_0, decode hb_h82.2.1 q.1 = .ok q.2 := by decide +kernel
theorem hb_g82 : px_bM hb_h82 1208 101 = true := by decide +kernel
theorem hb_o82 : px_okM px_Ts px_Ns hb_cl hb_SL hb_P hb_m82 := ⟨px_bM_ok hb_g82, hb_d82_0, px_bL_ok hb_l6⟩
theorem hb_d83_0 : ∀ q ∈ hb_c83_0, decode hb_h83.2.1 q.1 = .ok q.2 := by decide +kernel
theorem hb_g83 : px_bM hb_h83 1204 101 = true := by decide +kernel
theorem hb_o83 : px_okM px_Ts px_Ns hb_cl hb_SL hb_P hb_m83 := ⟨px_bM_ok hb_g83, hb_d83_0, px_bL_ok hb_l6⟩
theorem hb_d84_0 : ∀ q ∈ hb_c84_0, decode hb_h84.2.1 q.1 = .ok q.2 := by decide +kernel
theorem hb_d84_1 : ∀ q ∈ hb_c84_1, decode hb_h84.2.1 q.1 = .ok q.2 := by decide +kernel
theorem hb_d84_2 : ∀ q ∈ hb_c84_2, decode hb_h84.2.1 q.1 = .ok q.2 := by decide +kernel
theorem hb_g84 : px_bM hb_h84 1233 101 = true := by decide +kernel
theorem hb_o84 : px_okM px_Ts px_Ns hb_cl hb_SL hb_P hb_m84 := ⟨px_bM_ok hb_g84, List.forall_mem_append.mpr ⟨hb_d84_0, List.forall_mem_append.mpr ⟨hb_d84_1, hb_d84_2⟩⟩, px_bL_ok hb_l6⟩
theorem hb_d85_0 : ∀ q ∈ hb_c85_0, decode hb_h85.2.1 q.1 = .ok q.2 := by decide +kernel
theorem hb_d85_1 : ∀ q ∈ hb_c85_1, decode hb_h85.2.1 q.1 = .ok q.2 := by decide +kernel
theorem hb_g85 : px_bM hb_h85 1236 101 = true := by decide +kernel
theorem hb_o85 : px_okM px_Ts px_Ns hb_cl hb_SL hb_P hb_m85 := ⟨px_bM_ok hb_g85, List.forall_mem_append.mpr ⟨hb_d85_0, hb_d85_1⟩, px_bL_ok hb_l6⟩
theorem hb_d86_0 : ∀ q ∈ hb_c86_0, decode hb_h86.2.1 q.1 = .ok q.2 := by decide +kernel
theorem hb_d86_1 : ∀ q ∈ hb_c86_1, decode hb_h86.2.1 q.1 = .ok q.2 := by decide +kernel
theorem hb_g86 : px_bM hb_h86 283 99 = true := by decide +kernel
theorem hb_o86 : px_okM px_Ts px_Ns hb_cl hb_SL hb_P hb_m86 := ⟨px_bM_ok hb_g86, List.forall_mem_append.mpr ⟨hb_d86_0, hb_d86_1⟩, px_bL_ok hb_l7⟩
theorem hb_d87_0 : ∀ q ∈ hb_c87_0, decode hb_h87.2.1 q.1 = .ok q.2 := by decide +kernel
theorem hb_d87_1 : ∀ q ∈ hb_c87_1, decode hb_h87.2.1 q.1 = .ok q.2 := by decide +kernel
theorem hb_g87 : px_bM hb_h87 1416 99 = true := by decide +kernel
theorem hb_o87 : px_okM px_Ts px_Ns hb_cl hb_SL hb_P hb_m87 := ⟨px_bM_ok hb_g87, List.forall_mem_append.mpr ⟨hb_d87_0, hb_d87_1⟩, px_bL_ok hb_l7⟩

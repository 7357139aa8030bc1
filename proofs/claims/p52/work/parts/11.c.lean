theorem hb_d88_0 : ∀ q ∈ hb_c88_0, decode hb_h88.2.1 q.1 = .ok q.2 := by decide +kernel
theorem hb_d88_1 : ∀ q ∈ hb_c88_1, decode hb_h88.2.1 q.1 = .ok q.2 := by decide +kernel
theorem hb_g88 : px_bM hb_h88 907 99 = true := by decide +kernel
theorem hb_o88 : px_okM px_Ts px_Ns hb_cl hb_SL hb_P hb_m88 := ⟨px_bM_ok hb_g88, List.forall_mem_append.mpr ⟨hb_d88_0, hb_d88_1⟩, px_bL_ok hb_l7⟩
theorem hb_d89_0 : ∀ q ∈ hb_c89_0, decode hb_h89.2.1 q.1 = .ok q.2 := by decide +kernel
theorem hb_g89 : px_bM hb_h89 922 99 = true := by decide +kernel
theorem hb_o89 : px_okM px_Ts px_Ns hb_cl hb_SL hb_P hb_m89 := ⟨px_bM_ok hb_g89, hb_d89_0, px_bL_ok hb_l7⟩
theorem hb_d90_0 : ∀ q ∈ hb_c90_0, decode hb_h90.2.1 q.1 = .ok q.2 := by decide +kernel
theorem hb_g90 : px_bM hb_h90 955 99 = true := by decide +kernel
theorem hb_o90 : px_okM px_Ts px_Ns hb_cl hb_SL hb_P hb_m90 := ⟨px_bM_ok hb_g90, hb_d90_0, px_bL_ok hb_l7⟩
theorem hb_d91_0 : ∀ q ∈ hb_c91_0, decode hb_h91.2.1 q.1 = .ok q.2 := by decide +kernel
theorem hb_g91 : px_bM hb_h91 930 99 = true := by decide +kernel
theorem hb_o91 : px_okM px_Ts px_Ns hb_cl hb_SL hb_P hb_m91 := ⟨px_bM_ok hb_g91, hb_d91_0, px_bL_ok hb_l7⟩
theorem hb_d92_0 : ∀ q ∈ hb_c92_0, decode hb_h92.2.1 q.1 = .ok q.2 := by decide +kernel
theorem hb_g92 : px_bM hb_h92 934 99 = true := by decide +kernel
theorem hb_o92 : px_okM px_Ts px_Ns hb_cl hb_SL hb_P hb_m92 := ⟨px_bM_ok hb_g92, hb_d92_0, px_bL_ok hb_l7⟩
theorem hb_d93_0 : ∀ q ∈ hb_c93_0, decode hb_h93.2.1 q.1 = .ok q.2 := by decide +kernel
theorem hb_g93 : px_bM hb_h93 947 99 = true := by decide +kernel
theorem hb_o93 : px_okM px_Ts px_Ns hb_cl hb_SL hb_P hb_m93 := ⟨px_bM_ok hb_g93, hb_d93_0, px_bL_ok hb_l7⟩
theorem hb_d94_0 : ∀ q ∈ hb_c94_0, decode hb_h94.2.1 q.1 = .ok q.2 := by decide +kernel
theorem hb_g94 : px_bM hb_h94 943 99 = true := by decide +kernel
theorem hb_o94 : px_okM px_Ts px_Ns hb_cl hb_SL hb_P hb_m94 := ⟨px_bM_ok hb_g94, hb_d94_0, px_bL_ok hb_l7⟩
theorem hb_d95_0 : ∀ q ∈ hb_c95_0, decode hb_h95.2.1 q.1 = .ok q.2 := by decide +kernel
theorem hb_g95 : px_bM hb_h95 963 99 = true := by decide +kernel
theorem hb_o95 : px_okM px_Ts px_Ns hb_cl hb_SL hb_P hb_m95 := ⟨px_bM_ok hb_g95, hb_d95_0, px_bL_ok hb_l7⟩
theorem hb_d96_0 : ∀ q ∈ hb_c96_0, decode hb_h96.2.1 q.1 = .ok q.2 := by decide +kernel
theorem hb_g96 : px_bM hb_h96 967 99 = true := by decide +kernel
theorem hb_o96 : px_okM px_Ts px_Ns hb_cl hb_SL hb_P hb_m96 := ⟨px_bM_ok hb_g96, hb_d96_0, px_bL_ok hb_l7⟩
theorem hb_d97_0 : ∀ q ∈ hb_c97_0, decode hb_h97.2.1 q.1 = .ok q.2 := by decide +kernel
theorem hb_d97_1 : ∀ q ∈ hb_c97_1, decode hb_h97.2.1 q.1 = .ok q.2 := by decide +kernel
theorem hb_g97 : px_bM hb_h97 442 103 = true := by decide +kernel
theorem hb_o97 : px_okM px_Ts px_Ns hb_cl hb_SL hb_P hb_m97 := ⟨px_bM_ok hb_g97, List.forall_mem_append.mpr ⟨hb_d97_0, hb_d97_1⟩, px_bL_ok hb_l8⟩
theorem hb_d98_0 : ∀ q ∈ hb_c98_0, decode hb_h98.2.1 q.1 = .ok q.2 := by decide +kernel
theorem hb_d98_1 : ∀ q ∈ hb_c98_1, decode hb_h98.2.1 q.1 = .ok q.2 := by decide +kernel
theorem hb_d98_2 : ∀ q ∈ hb_c98_2, decode hb_h98.2.1 q.1 = .ok q.2 := by decide +kernel
theorem hb_g98 : px_bM hb_h98 827 103 = true := by decide +kernel
theorem hb_o98 : px_okM px_Ts px_Ns hb_cl hb_SL hb_P hb_m98 := ⟨px_bM_ok hb_g98, List.forall_mem_append.mpr ⟨hb_d98_0, List.forall_mem_append.mpr ⟨hb_d98_1, hb_d98_2⟩⟩, px_bL_ok hb_l8⟩
theorem hb_d99_0 : ∀ q ∈ hb_c99_0, decode hb_h99.2.1 q.1 = .ok q.2 := by decide +kernel
theorem hb_d99_1 : ∀ q ∈ hb_c99_1, decode hb_h99.2.1 q.1 = .ok q.2 := by decide +kernel
theorem hb_g99 : px_bM hb_h99 834 103 = true := by decide +kernel
theorem hb_o99 : px_okM px_Ts px_Ns hb_cl hb_SL hb_P hb_m99 := ⟨px_bM_ok hb_g99, List.forall_mem_append.mpr ⟨hb_d99_0, hb_d99_1⟩, px_bL_ok hb_l8⟩
theorem hb_d100_0 : ∀ q ∈ hb_c100_0, decode hb_h100.2.1 q.1 = .ok q.2 := by decide +kernel
theorem hb_d100_1 : ∀ q ∈ hb_c100_1, decode hb_h100.2.1 q.1 = .ok q.2 := by decide +kernel
theorem hb_g100 : px_bM hb_h100 842 103 = true := by decide +kernel
theorem hb_o100 : px_okM px_Ts px_Ns hb_cl hb_SL hb_P hb_m100 := ⟨px_bM_ok hb_g100, List.forall_mem_append.mpr ⟨hb_d100_0, hb_d100_1⟩, px_bL_ok hb_l8⟩
theorem hb_d101_0 : ∀ q ∈ hb_c101_0, decode hb_h101.2.1 q.1 = .ok q.2 := by decide +kernel
theorem hb_d101_1 : ∀ q ∈ hb_c101_1, decode hb_h101.2.1 q.1 = .ok q.2 := by decide +kernel
theorem hb_g101 : px_bM hb_h101 851 103 = true := by decide +kernel
theorem hb_o101 : px_okM px_Ts px_Ns hb_cl hb_SL hb_P hb_m101 := ⟨px_bM_ok hb_g101, List.forall_mem_append.mpr ⟨hb_d101_0, hb_d101_1⟩, px_bL_ok hb_l8⟩
theorem hb_d102_0 : ∀ q ∈ hb_c102_0, decode hb_h102.2.1 q.1 = .ok q.2 := by decide +kernel
theorem hb_d102_1 : ∀ q ∈ hb_c102_1, decode hb_h102.2.1 q.1 = .ok q.2 := by decide +kernel
theorem hb_g102 : px_bM hb_h102 856 103 = true := by decide +kernel
theorem hb_o102 : px_okM px_Ts px_Ns hb_cl hb_SL hb_P hb_m102 := ⟨px_bM_ok hb_g102, List.forall_mem_append.mpr ⟨hb_d102_0, hb_d102_1⟩, px_bL_ok hb_l8⟩
theorem hb_d103_0 : ∀ q ∈ hb_c103_0, decode hb_h103.2.1 q.1 = .ok q.2 := by decide +kernel
theorem hb_d103_1 : ∀ q ∈ hb_c103_1, decode hb_h103.2.1 q.1 = .ok q.2 := by decide +kernel
theorem hb_d103_2 : ∀ q ∈ hb_c103_2, decode hb_h103.2.1 q.1 = .ok q.2 := by decide +kernel
theorem hb_g103 : px_bM hb_h103 860 103 = true := by decide +kernel
theorem hb_o103 : px_okM px_Ts px_Ns hb_cl hb_SL hb_P hb_m103 := ⟨px_bM_ok hb_g103, List.forall_mem_append.mpr ⟨hb_d103_0, List.forall_mem_append.mpr ⟨hb_d103_1, hb_d103_2⟩⟩, px_bL_ok hb_l8⟩
theorem hb_d104_0 : ∀ q ∈ hb_c104_0, decode hb_h104.2.1 q.1 = .ok q.2 := by decide +kernel
theorem hb_d104_1 : ∀ q ∈ hb_c104_1, decode hb_h104.2.1 q.1 = .ok q.2 := by decide +kernel
theorem hb_g104 : px_bM hb_h104 876 103 = true := by decide +kernel
theorem hb_o104 : px_okM px_Ts px_Ns hb_cl hb_SL hb_P hb_m104 := ⟨px_bM_ok hb_g104, List.forall_mem_append.mpr ⟨hb_d104_0, hb_d104_1⟩, px_bL_ok hb_l8⟩
theorem hb_d105_0 : ∀ q ∈ hb_c105_0, decode hb_h105.2.1 q.1 = .ok q.2 := by decide +kernel
theorem hb_d105_1 : ∀ q ∈ hb_c105_1, decode hb_h105.2.1 q.1 = .ok q.2 := by decide +kernel
theorem hb_d105_2 : ∀ q ∈ hb_c105_2, decode hb_h105.2.1 q.1 = .ok q.2 := by decide +kernel
theorem hb_g105 : px_bM hb_h105 880 103 = true := by decide +kernel
theorem hb_o105 : px_okM px_Ts px_Ns hb_cl hb_SL hb_P hb_m105 := ⟨px_bM_ok hb_g105, List.forall_mem_append.mpr ⟨hb_d105_0, List.forall_mem_append.mpr ⟨hb_d105_1, hb_d105_2⟩⟩, px_bL_ok hb_l8⟩
theorem hb_d106_0 : ∀ q ∈ hb_c106_0, decode hb_h106.2.1 q.1 = .ok q.2 := by decide +kernel
theorem hb_d106_1 : ∀ q ∈ hb_c106_1, decode hb_h106.2.1 q.1 = .ok q.2 := by decide +kernel
theorem hb_g106 : px_bM hb_h106 890 103 = true := by decide +kernel
theorem hb_o106 : px_okM px_Ts px_Ns hb_cl hb_SL hb_P hb_m106 := ⟨px_bM_ok hb_g106, List.forall_mem_append.mpr ⟨hb_d106_0, hb_d106_1⟩, px_bL_ok hb_l8⟩
theorem hb_d107_0 : ∀ q ∈ hb_c107_0, decode hb_h107.2.1 q.1 = .ok q.2 := by decide +kernel
theorem hb_d107_1 : ∀ q ∈ hb_c107_1, decode hb_h107.2.1 q.1 = .ok q.2 := by decide +kernel
theorem hb_d107_2 : ∀ q ∈ hb_c107_2, decode hb_h107.2.1 q.1 = .ok q.2 := by decide +kernel
theorem hb_g107 : px_bM hb_h107 895 103 = true := by decide +kernel
theorem hb_o107 : px_okM px_Ts px_Ns hb_cl hb_SL hb_P hb_m107 := ⟨px_bM_ok hb_g107, List.forall_mem_append.mpr ⟨hb_d107_0, List.forall_mem_append.mpr ⟨hb_d107_1, hb_d107_2⟩⟩, px_bL_ok hb_l8⟩
theorem hb_d108_0 : ∀ q ∈ hb_c108_0, decode hb_h108.2.1 q.1 = .ok q.2 := by decide +kernel
theorem hb_g108 : px_bM hb_h108 179 97 = true := by decide +kernel
theorem hb_o108 : px_okM px_Ts px_Ns hb_cl hb_SL hb_P hb_m108 := ⟨px_bM_ok hb_g108, hb_d108_0, px_bL_ok hb_l9⟩
theorem hb_d109_0 : ∀ q ∈ hb_c109_0, decode hb_h109.2.1 q.1 = .ok q.2 := by decide +kernel
theorem hb_g109 : px_bM hb_h109 1406 97 = true := by decide +kernel
theorem hb_o109 : px_okM px_Ts px_Ns hb_cl hb_SL hb_P hb_m109 := ⟨px_bM_ok hb_g109, hb_d109_0, px_bL_ok hb_l9⟩
theorem hb_d110_0 : ∀ q ∈ hb_c110_0, decode hb_h110.2.1 q.1 = .ok q.2 := by decide +kernel
theorem hb_g110 : px_bM hb_h110 704 97 = true := by decide +kernel
theorem hb_o110 : px_okM px_Ts px_Ns hb_cl hb_SL hb_P hb_m110 := ⟨px_bM_ok hb_g110, hb_d110_0, px_bL_ok hb_l9⟩
theorem hb_d111_0 : ∀ q ∈ hb_c111_0, decode hb_h111.2.1 q.1 = .ok q.2 := by decide +kernel
theorem hb_d111_1 : ∀ q ∈ hb_c111_1, decode hb_h111.2.1 q.1 = .ok q.2 := by decide +kernel
theorem hb_d111_2 : ∀ q ∈ hb_c111_2, decode hb_h111.2.1 q.1 = .ok q.2 := by decide +kernel
theorem hb_g111 : px_bM hb_h111 749 97 = true := by decide +kernel
theorem hb_o111 : px_okM px_Ts px_Ns hb_cl hb_SL hb_P hb_m111 := ⟨px_bM_ok hb_g111, List.forall_mem_append.mpr ⟨hb_d111_0, List.forall_mem_append.mpr ⟨hb_d111_1, hb_d111_2⟩⟩, px_bL_ok hb_l9⟩
theorem hb_d112_0 : ∀ q ∈ hb_c112_0, decode hb_h112.2.1 q.1 = .ok q.2 := by decide +kernel
theorem hb_d112_1 : ∀ q ∈ hb_c112_1, decode hb_h112.2.1 q.1 = .ok q.2 := by decide +kernel
theorem hb_g112 : px_bM hb_h112 757 97 = true := by decide +kernel
theorem hb_o112 : px_okM px_Ts px_Ns hb_cl hb_SL hb_P hb_m112 := ⟨px_bM_ok hb_g112, List.forall_mem_append.mpr ⟨hb_d112_0, hb_d112_1⟩, px_bL_ok hb_l9⟩
theorem hb_d113_0 : ∀ q ∈ hb_c113_0, decode hb_h113.2.1 q.1 = .ok q.2 := by decide +kernel
theorem hb_d113_1 : ∀ q ∈ hb_c113_1, decode hb_h113.2.1 q.1 = .ok q.2 := by decide +kernel
theorem hb_g113 : px_bM hb_h113 768 97 = true := by decide +kernel
theorem hb_o113 : px_okM px_Ts px_Ns hb_cl hb_SL hb_P hb_m113 := ⟨px_bM_ok hb_g113, List.forall_mem_append.mpr ⟨hb_d113_0, hb_d113_1⟩, px_bL_ok hb_l9⟩
theorem hb_d114_0 : ∀ q ∈ hb_c114_0, decode hb_h114.2.1 q.1 = .ok q.2 := by decide +kernel
theorem hb_g114 : px_bM hb_h114 337 100 = true := by decide +kernel
theorem hb_o114 : px_okM px_Ts px_Ns hb_cl hb_SL hb_P hb_m114 := ⟨px_bM_ok hb_g114, hb_d114_0, px_bL_ok hb_l10⟩
theorem hb_d115_0 : ∀ q ∈ hb_c115_0, decode hb_h115.2.1 q.1 = .ok q.2 := by decide +kernel
theorem hb_g115 : px_bM hb_h115 1421 100 = true := by decide +kernel
theorem hb_o115 : px_okM px_Ts px_Ns hb_cl hb_SL hb_P hb_m115 := ⟨px_bM_ok hb_g115, hb_d115_0, px_bL_ok hb_l10⟩
theorem hb_d116_0 : ∀ q ∈ hb_c116_0, decode hb_h116.2.1 q.1 = .ok q.2 := by decide +kernel
theorem hb_g116 : px_bM hb_h116 986 100 = true := by decide +kernel
theorem hb_o116 : px_okM px_Ts px_Ns hb_cl hb_SL hb_P hb_m116 := ⟨px_bM_ok hb_g116, hb_d116_0, px_bL_ok hb_l10⟩
theorem hb_d117_0 : ∀ q ∈ hb_c117_0, decode hb_h117.2.1 q.1 = .ok q.2 := by decide +kernel
theorem hb_g117 : px_bM hb_h117 990 100 = true := by decide +kernel
theorem hb_o117 : px_okM px_Ts px_Ns hb_cl hb_SL hb_P hb_m117 := ⟨px_bM_ok hb_g117, hb_d117_0, px_bL_ok hb_l10⟩
theorem hb_d118_0 : ∀ q ∈ hb_c118_0, decode hb_h118.2.1 q.1 = .ok q.2 := by decide +kernel
theorem hb_g118 : px_bM hb_h118 999 100 = true := by decide +kernel
theorem hb_o118 : px_okM px_Ts px_Ns hb_cl hb_SL hb_P hb_m118 := ⟨px_bM_ok hb_g118, hb_d118_0, px_bL_ok hb_l10⟩
theorem hb_d119_0 : ∀ q ∈ hb_c119_0, decode hb_h119.2.1 q.1 = .ok q.2 := by decide +kernel
theorem hb_d119_1 : ∀ q ∈ hb_c119_1, decode hb_h119.2.1 q.1 = .ok q.2 := by decide +kernel
theorem hb_g119 : px_bM hb_h119 1007 100 = true := by decide +kernel
theorem hb_o119 : px_okM px_Ts px_Ns hb_cl hb_SL hb_P hb_m119 := ⟨px_bM_ok hb_g119, List.forall_mem_append.mpr ⟨hb_d119_0, hb_d119_1⟩, px_bL_ok hb_l10⟩
theorem hb_d120_0 : ∀ q ∈ hb_c120_0, decode hb_h120.2.1 q.1 = .ok q.2 := by decide +kernel
theorem hb_d120_1 : ∀ q ∈ hb_c120_1, decode hb_h120.2.1 q.1 = .ok q.2 := by decide +kernel
theorem hb_d120_2 : ∀ q ∈ hb_c120_2, decode hb_h120.2.1 q.1 = .ok q.2 := by decide +kernel
theorem hb_g120 : px_bM hb_h120 119 95 = true := by decide +kernel
theorem hb_o120 : px_okM px_Ts px_Ns hb_cl hb_SL hb_P hb_m120 := ⟨px_bM_ok hb_g120, List.forall_mem_append.mpr ⟨hb_d120_0, List.forall_mem_append.mpr ⟨hb_d120_1, hb_d120_2⟩⟩, px_bL_ok hb_l11⟩
theorem hb_d121_0 : ∀ q ∈ hb_c121_0, decode hb_h121.2.1 q.1 = .ok q.2 := by decide +kernel
theorem hb_g121 : px_bM hb_h121 655 95 = true := by decide +kernel
theorem hb_o121 : px_okM px_Ts px_Ns hb_cl hb_SL hb_P hb_m121 := ⟨px_bM_ok hb_g121, hb_d121_0, px_bL_ok hb_l11⟩
theorem hb_d122_0 : ∀ q ∈ hb_c122_0, decode hb_h122.2.1 q.1 = .ok q.2 := by decide +kernel
theorem hb_g122 : px_bM hb_h122 696 95 = true := by decide +kernel
theorem hb_o122 : px_okM px_Ts px_Ns hb_cl hb_SL hb_P hb_m122 := ⟨px_bM_ok hb_g122, hb_d122_0, px_bL_ok hb_l11⟩
theorem hb_d123_0 : ∀ q ∈ hb_c123_0, decode hb_h123.2.1 q.1 = .ok q.2 := by decide +kernel
theorem hb_g123 : px_bM hb_h123 712 95 = true := by decide +kernel
theorem hb_o123 : px_okM px_Ts px_Ns hb_cl hb_SL hb_P hb_m123 := ⟨px_bM_ok hb_g123, hb_d123_0, px_bL_ok hb_l11⟩
theorem hb_d124_0 : ∀ q ∈ hb_c124_0, decode hb_h124.2.1 q.1 = .ok q.2 := by decide +kernel
theorem hb_g124 : px_bM hb_h124 716 95 = true := by decide +kernel
theorem hb_o124 : px_okM px_Ts px_Ns hb_cl hb_SL hb_P hb_m124 := ⟨px_bM_ok hb_g124, hb_d124_0, px_bL_ok hb_l11⟩
theorem hb_d125_0 : ∀ q ∈ hb_c125_0, decode hb_h125.2.1 q.1 = .ok q.2 := by decide +kernel
theorem hb_g125 : px_bM hb_h125 720 95 = true := by decide +kernel
theorem hb_o125 : px_okM px_Ts px_Ns hb_cl hb_SL hb_P hb_m125 := ⟨px_bM_ok hb_g125, hb_d125_0, px_bL_ok hb_l11⟩
theorem hb_d126_0 : ∀ q ∈ hb_c126_0, decode hb_h126.2.1 q.1 = .ok q.2 := by decide +kernel
theorem hb_g126 : px_bM hb_h126 726 95 = true := by decide +kernel
theorem hb_o126 : px_okM px_Ts px_Ns hb_cl hb_SL hb_P hb_m126 := ⟨px_bM_ok hb_g126, hb_d126_0, px_bL_ok hb_l11⟩
theorem hb_d127_0 : ∀ q ∈ hb_c127_0, decode hb_h127.2.1 q.1 = .ok q.2 := by decide +kernel
theorem hb_d127_1 : ∀ q ∈ hb_c127_1, decode hb_h127.2.1 q.1 = .ok q.2 := by decide +kernel
theorem hb_g127 : px_bM hb_h127 730 95 = true := by decide +kernel
theorem hb_o127 : px_okM px_Ts px_Ns hb_cl hb_SL hb_P hb_m127 := ⟨px_bM_ok hb_g127, List.forall_mem_append.mpr ⟨hb_d127_0, hb_d127_1⟩, px_bL_ok hb_l11⟩
theorem hb_d128_0 : ∀ q ∈ hb_c128_0, decode hb_h128.2.1 q.1 = .ok q.2 := by decide +kernel
theorem hb_g128 : px_bM hb_h128 745 95 = true := by decide +kernel
theorem hb_o128 : px_okM px_Ts px_Ns hb_cl hb_SL hb_P hb_m128 := ⟨px_bM_ok hb_g128, hb_d128_0, px_bL_ok hb_l11⟩
theorem hb_d129_0 : ∀ q ∈ hb_c129_0, decode hb_h129.2.1 q.1 = .ok q.2 := by decide +kernel
theorem hb_g129 : px_bM hb_h129 753 95 = true := by decide +kernel
theorem hb_o129 : px_okM px_Ts px_Ns hb_cl hb_SL hb_P hb_m129 := ⟨px_bM_ok hb_g129, hb_d129_0, px_bL_ok hb_l11⟩
theorem hb_d130_0 : ∀ q ∈ hb_c130_0, decode hb_h130.2.1 q.1 = .ok q.2 := by decide +kernel
theorem hb_g130 : px_bM hb_h130 778 95 = true := by decide +kernel
theorem hb_o130 : px_okM px_Ts px_Ns hb_cl hb_SL hb_P hb_m130 := ⟨px_bM_ok hb_g130, hb_d130_0, px_bL_ok hb_l11⟩
theorem hb_d131_0 : ∀ q ∈ hb_c131_0, decode hb_h131.2.1 q.1 = .ok q.2 := by decide +kernel
theorem hb_g131 : px_bM hb_h131 792 95 = true := by decide +kernel
theorem hb_o131 : px_okM px_Ts px_Ns hb_cl hb_SL hb_P hb_m131 := ⟨px_bM_ok hb_g131, hb_d131_0, px_bL_ok hb_l11⟩

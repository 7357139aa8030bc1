noncomputable section
/-! THE LAW, CUT BY CUT, 1 -/
set_option maxRecDepth 100000 in
theorem hb_t0_0 : sy_ckT hb_cl hb_lt hb_P (hb_P ++ [hb_m302]) hb_GM (px_Hq hb_B) (px_g2 hb_AB) hb_A hb_LW hb_Cs 40 hb_zs 302 hb_cuts 6530 (hb_hd hb_RA hb_FA) 0 [] 0 = true := by decide +kernel
set_option maxRecDepth 100000 in
theorem hb_t1_0 : sy_ckT hb_cl hb_lt hb_P (hb_P ++ [hb_m302]) hb_GM (px_Hq hb_B) (px_g2 hb_AB) hb_A hb_LW hb_Cs 40 hb_zs 302 hb_cuts 6530 (hb_hd hb_RB hb_FB) 0 [] 0 = true := by decide +kernel
set_option maxRecDepth 100000 in
theorem hb_t2_0 : sy_ckT hb_cl hb_lt hb_P (hb_P ++ [hb_m302]) hb_GM (px_Hq hb_B) (px_g2 hb_AB) hb_A hb_LW hb_Cs 40 hb_zs 302 hb_cuts 6530 (hb_cs 256 hb_RA hb_FA) 0 [] 0 = true := by decide +kernel
set_option maxRecDepth 100000 in
theorem hb_t3_0 : sy_ckT hb_cl hb_lt hb_P (hb_P ++ [hb_m302]) hb_GM (px_Hq hb_B) (px_g2 hb_AB) hb_A hb_LW hb_Cs 40 hb_zs 302 hb_cuts 6530 (hb_cs 256 hb_RB hb_FB) 0 [] 0 = true := by decide +kernel
set_option maxRecDepth 100000 in
theorem hb_t4_0 : sy_ckT hb_cl hb_lt hb_P (hb_P ++ [hb_m302]) hb_GM (px_Hq hb_B) (px_g2 hb_AB) hb_A hb_LW hb_Cs 40 hb_zs 302 hb_cuts 6530 (hb_cs 279 hb_RA hb_FA) 0 [] 0 = true := by decide +kernel
set_option maxRecDepth 100000 in
theorem hb_t5_0 : sy_ckT hb_cl hb_lt hb_P (hb_P ++ [hb_m302]) hb_GM (px_Hq hb_B) (px_g2 hb_AB) hb_A hb_LW hb_Cs 40 hb_zs 302 hb_cuts 6530 (hb_cs 279 hb_RB hb_FB) 0 [] 0 = true := by decide +kernel
set_option maxRecDepth 100000 in
theorem hb_t6_0 : sy_ckT hb_cl hb_lt hb_P (hb_P ++ [hb_m302]) hb_GM (px_Hq hb_B) (px_g2 hb_AB) hb_A hb_LW hb_Cs 40 hb_zs 302 hb_cuts 6530 (hb_cs 322 hb_RA hb_FA) 0 [] 0 = true := by decide +kernel
set_option maxRecDepth 100000 in
theorem hb_t7_0 : sy_ckT hb_cl hb_lt hb_P (hb_P ++ [hb_m302]) hb_GM (px_Hq hb_B) (px_g2 hb_AB) hb_A hb_LW hb_Cs 40 hb_zs 302 hb_cuts 6530 (hb_cs 322 hb_RB hb_FB) 0 [] 0 = true := by decide +kernel
set_option maxRecDepth 100000 in
theorem hb_t8_0 : sy_ckT hb_cl hb_lt hb_P (hb_P ++ [hb_m302]) hb_GM (px_Hq hb_B) (px_g2 hb_AB) hb_A hb_LW hb_Cs 40 hb_zs 302 hb_cuts 6530 (hb_cs 355 hb_RA hb_FA) 0 [] 0 = true := by decide +kernel
set_option maxRecDepth 100000 in
theorem hb_t9_0 : sy_ckT hb_cl hb_lt hb_P (hb_P ++ [hb_m302]) hb_GM (px_Hq hb_B) (px_g2 hb_AB) hb_A hb_LW hb_Cs 40 hb_zs 302 hb_cuts 6530 (hb_cs 355 hb_RB hb_FB) 0 [] 0 = true := by decide +kernel
set_option maxRecDepth 100000 in
theorem hb_t10_0 : sy_ckT hb_cl hb_lt hb_P (hb_P ++ [hb_m302]) hb_GM (px_Hq hb_B) (px_g2 hb_AB) hb_A hb_LW hb_Cs 40 hb_zs 302 hb_cuts 6530 (hb_cs 404 hb_RA hb_FA) 0 [] 0 = true := by decide +kernel
set_option maxRecDepth 100000 in
theorem hb_t11_0 : sy_ckT hb_cl hb_lt hb_P (hb_P ++ [hb_m302]) hb_GM (px_Hq hb_B) (px_g2 hb_AB) hb_A hb_LW hb_Cs 40 hb_zs 302 hb_cuts 6530 (hb_cs 404 hb_RB hb_FB) 0 [] 0 = true := by decide +kernel
set_option maxRecDepth 100000 in
theorem hb_t12_0 : sy_ckT hb_cl hb_lt hb_P (hb_P ++ [hb_m302]) hb_GM (px_Hq hb_B) (px_g2 hb_AB) hb_A hb_LW hb_Cs 40 hb_zs 302 hb_cuts 6530 (hb_cs 437 hb_RA hb_FA) 0 [] 0 = true := by decide +kernel
set_option maxRecDepth 100000 in
theorem hb_t13_0 : sy_ckT hb_cl hb_lt hb_P (hb_P ++ [hb_m302]) hb_GM (px_Hq hb_B) (px_g2 hb_AB) hb_A hb_LW hb_Cs 40 hb_zs 302 hb_cuts 6530 (hb_cs 437 hb_RB hb_FB) 0 [] 0 = true := by decide +kernel
set_option maxRecDepth 100000 in
theorem hb_t14_0 : sy_ckT hb_cl hb_lt hb_P (hb_P ++ [hb_m302]) hb_GM (px_Hq hb_B) (px_g2 hb_AB) hb_A hb_LW hb_Cs 40 hb_zs 302 hb_cuts 6530 (hb_cs 450 hb_RA hb_FA) 0 [] 0 = true := by decide +kernel
set_option maxRecDepth 100000 in
theorem hb_t15_0 : sy_ckT hb_cl hb_lt hb_P (hb_P ++ [hb_m302]) hb_GM (px_Hq hb_B) (px_g2 hb_AB) hb_A hb_LW hb_Cs 40 hb_zs 302 hb_cuts 6530 (hb_cs 450 hb_RB hb_FB) 0 [] 0 = true := by decide +kernel
set_option maxRecDepth 100000 in
theorem hb_t16_0 : sy_ckT hb_cl hb_lt hb_P (hb_P ++ [hb_m302]) hb_GM (px_Hq hb_B) (px_g2 hb_AB) hb_A hb_LW hb_Cs 40 hb_zs 302 hb_cuts 6530 (hb_cs 483 hb_RA hb_FA) 0 [] 0 = true := by decide +kernel
set_option maxRecDepth 100000 in
theorem hb_t17_0 : sy_ckT hb_cl hb_lt hb_P (hb_P ++ [hb_m302]) hb_GM (px_Hq hb_B) (px_g2 hb_AB) hb_A hb_LW hb_Cs 40 hb_zs 302 hb_cuts 6530 (hb_cs 483 hb_RB hb_FB) 0 [] 0 = true := by decide +kernel
set_option maxRecDepth 100000 in
theorem hb_t18_0 : sy_ckT hb_cl hb_lt hb_P (hb_P ++ [hb_m302]) hb_GM (px_Hq hb_B) (px_g2 hb_AB) hb_A hb_LW hb_Cs 40 hb_zs 302 hb_cuts 6530 (hb_cs 536 hb_RA hb_FA) 0 [] 0 = true := by decide +kernel
set_option maxRecDepth 100000 in
theorem hb_t19_0 : sy_ckT hb_cl hb_lt hb_P (hb_P ++ [hb_m302]) hb_GM (px_Hq hb_B) (px_g2 hb_AB) hb_A hb_LW hb_Cs 40 hb_zs 302 hb_cuts 6530 (hb_cs 536 hb_RB hb_FB) 0 [] 0 = true := by decide +kernel
set_option maxRecDepth 100000 in
theorem hb_t20_0 : sy_ckT hb_cl hb_lt hb_P (hb_P ++ [hb_m302]) hb_GM (px_Hq hb_B) (px_g2 hb_AB) hb_A hb_LW hb_Cs 40 hb_zs 302 hb_cuts 6530 (hb_cs 559 hb_RA hb_FA) 0 [] 0 = true := by decide +kernel
set_option maxRecDepth 100000 in
theorem hb_t21_0 : sy_ckT hb_cl hb_lt hb_P (hb_P ++ [hb_m302]) hb_GM (px_Hq hb_B) (px_g2 hb_AB) hb_A hb_LW hb_Cs 40 hb_zs 302 hb_cuts 6530 (hb_cs 559 hb_RB hb_FB) 0 [] 0 = true := by decide +kernel
set_option maxRecDepth 100000 in
theorem hb_t22_0 : sy_ckT hb_cl hb_lt hb_P (hb_P ++ [hb_m302]) hb_GM (px_Hq hb_B) (px_g2 hb_AB) hb_A hb_LW hb_Cs 40 hb_zs 302 hb_cuts 6530 (hb_cs 612 hb_RA hb_FA) 0 [] 0 = true := by decide +kernel
set_option maxRecDepth 100000 in
theorem hb_t23_0 : sy_ckT hb_cl hb_lt hb_P (hb_P ++ [hb_m302]) hb_GM (px_Hq hb_B) (px_g2 hb_AB) hb_A hb_LW hb_Cs 40 hb_zs 302 hb_cuts 6530 (hb_cs 612 hb_RB hb_FB) 0 [] 0 = true := by decide +kernel
set_option maxRecDepth 100000 in
theorem hb_t24_0 : sy_ckT hb_cl hb_lt hb_P (hb_P ++ [hb_m302]) hb_GM (px_Hq hb_B) (px_g2 hb_AB) hb_A hb_LW hb_Cs 40 hb_zs 302 hb_cuts 6530 (hb_cs 665 hb_RA hb_FA) 0 [] 0 = true := by decide +kernel
set_option maxRecDepth 100000 in
theorem hb_t25_0 : sy_ckT hb_cl hb_lt hb_P (hb_P ++ [hb_m302]) hb_GM (px_Hq hb_B) (px_g2 hb_AB) hb_A hb_LW hb_Cs 40 hb_zs 302 hb_cuts 6530 (hb_cs 665 hb_RB hb_FB) 0 [] 0 = true := by decide +kernel
set_option maxRecDepth 100000 in
theorem hb_t26_0 : sy_ckT hb_cl hb_lt hb_P (hb_P ++ [hb_m302]) hb_GM (px_Hq hb_B) (px_g2 hb_AB) hb_A hb_LW hb_Cs 40 hb_zs 302 hb_cuts 6530 (hb_cs 698 hb_RA hb_FA) 0 [] 0 = true := by decide +kernel
set_option maxRecDepth 100000 in
theorem hb_t27_0 : sy_ckT hb_cl hb_lt hb_P (hb_P ++ [hb_m302]) hb_GM (px_Hq hb_B) (px_g2 hb_AB) hb_A hb_LW hb_Cs 40 hb_zs 302 hb_cuts 6530 (hb_cs 698 hb_RB hb_FB) 0 [] 0 = true := by decide +kernel
set_option maxRecDepth 100000 in
theorem hb_t28_0 : sy_ckT hb_cl hb_lt hb_P (hb_P ++ [hb_m302]) hb_GM (px_Hq hb_B) (px_g2 hb_AB) hb_A hb_LW hb_Cs 40 hb_zs 302 hb_cuts 6530 (hb_cs 751 hb_RA hb_FA) 0 [] 0 = true := by decide +kernel
set_option maxRecDepth 100000 in
theorem hb_t29_0 : sy_ckT hb_cl hb_lt hb_P (hb_P ++ [hb_m302]) hb_GM (px_Hq hb_B) (px_g2 hb_AB) hb_A hb_LW hb_Cs 40 hb_zs 302 hb_cuts 6530 (hb_cs 751 hb_RB hb_FB) 0 [] 0 = true := by decide +kernel
set_option maxRecDepth 100000 in
theorem hb_t30_0 : sy_ckT hb_cl hb_lt hb_P (hb_P ++ [hb_m302]) hb_GM (px_Hq hb_B) (px_g2 hb_AB) hb_A hb_LW hb_Cs 40 hb_zs 302 hb_cuts 6530 (hb_cs 774 hb_RA hb_FA) 0 [] 0 = true := by decide +kernel
set_option maxRecDepth 100000 in
theorem hb_t31_0 : sy_ckT hb_cl hb_lt hb_P (hb_P ++ [hb_m302]) hb_GM (px_Hq hb_B) (px_g2 hb_AB) hb_A hb_LW hb_Cs 40 hb_zs 302 hb_cuts 6530 (hb_cs 774 hb_RB hb_FB) 0 [] 0 = true := by decide +kernel
set_option maxRecDepth 100000 in
theorem hb_t32_0 : sy_ckT hb_cl hb_lt hb_P (hb_P ++ [hb_m302]) hb_GM (px_Hq hb_B) (px_g2 hb_AB) hb_A hb_LW hb_Cs 40 hb_zs 302 hb_cuts 6530 (hb_cs 787 hb_RA hb_FA) 0 [] 0 = true := by decide +kernel
set_option maxRecDepth 100000 in
theorem hb_t33_0 : sy_ckT hb_cl hb_lt hb_P (hb_P ++ [hb_m302]) hb_GM (px_Hq hb_B) (px_g2 hb_AB) hb_A hb_LW hb_Cs 40 hb_zs 302 hb_cuts 6530 (hb_cs 787 hb_RB hb_FB) 0 [] 0 = true := by decide +kernel
set_option maxRecDepth 100000 in
theorem hb_t34_0 : sy_ckT hb_cl hb_lt hb_P (hb_P ++ [hb_m302]) hb_GM (px_Hq hb_B) (px_g2 hb_AB) hb_A hb_LW hb_Cs 40 hb_zs 302 hb_cuts 6530 (hb_cs 800 hb_RA hb_FA) 0 [] 0 = true := by decide +kernel
set_option maxRecDepth 100000 in
theorem hb_t35_0 : sy_ckT hb_cl hb_lt hb_P (hb_P ++ [hb_m302]) hb_GM (px_Hq hb_B) (px_g2 hb_AB) hb_A hb_LW hb_Cs 40 hb_zs 302 hb_cuts 6530 (hb_cs 800 hb_RB hb_FB) 0 [] 0 = true := by decide +kernel
set_option maxRecDepth 100000 in
theorem hb_t36_0 : sy_ckT hb_cl hb_lt hb_P (hb_P ++ [hb_m302]) hb_GM (px_Hq hb_B) (px_g2 hb_AB) hb_A hb_LW hb_Cs 40 hb_zs 302 hb_cuts 6530 (hb_cs 833 hb_RA hb_FA) 0 [] 0 = true := by decide +kernel
set_option maxRecDepth 100000 in
theorem hb_t37_0 : sy_ckT hb_cl hb_lt hb_P (hb_P ++ [hb_m302]) hb_GM (px_Hq hb_B) (px_g2 hb_AB) hb_A hb_LW hb_Cs 40 hb_zs 302 hb_cuts 6530 (hb_cs 833 hb_RB hb_FB) 0 [] 0 = true := by decide +kernel
set_option maxRecDepth 100000 in
theorem hb_t38_0 : sy_ckT hb_cl hb_lt hb_P (hb_P ++ [hb_m302]) hb_GM (px_Hq hb_B) (px_g2 hb_AB) hb_A hb_LW hb_Cs 40 hb_zs 302 hb_cuts 6530 (hb_cs 876 hb_RA hb_FA) 0 [] 0 = true := by decide +kernel
set_option maxRecDepth 100000 in
theorem hb_t39_0 : sy_ckT hb_cl hb_lt hb_P (hb_P ++ [hb_m302]) hb_GM (px_Hq hb_B) (px_g2 hb_AB) hb_A hb_LW hb_Cs 40 hb_zs 302 hb_cuts 6530 (hb_cs 876 hb_RB hb_FB) 0 [] 0 = true := by decide +kernel
set_option maxRecDepth 100000 in
theorem hb_t40_0 : sy_ckT hb_cl hb_lt hb_P (hb_P ++ [hb_m302]) hb_GM (px_Hq hb_B) (px_g2 hb_AB) hb_A hb_LW hb_Cs 40 hb_zs 302 hb_cuts 6530 (hb_cs 889 hb_RA hb_FA) 0 [] 0 = true := by decide +kernel
set_option maxRecDepth 100000 in
theorem hb_t41_0 : sy_ckT hb_cl hb_lt hb_P (hb_P ++ [hb_m302]) hb_GM (px_Hq hb_B) (px_g2 hb_AB) hb_A hb_LW hb_Cs 40 hb_zs 302 hb_cuts 6530 (hb_cs 889 hb_RB hb_FB) 0 [] 0 = true := by decide +kernel
set_option maxRecDepth 100000 in
theorem hb_t42_0 : sy_ckT hb_cl hb_lt hb_P (hb_P ++ [hb_m302]) hb_GM (px_Hq hb_B) (px_g2 hb_AB) hb_A hb_LW hb_Cs 40 hb_zs 302 hb_cuts 6530 (hb_cs 932 hb_RA hb_FA) 0 [] 0 = true := by decide +kernel
set_option maxRecDepth 100000 in
theorem hb_t43_0 : sy_ckT hb_cl hb_lt hb_P (hb_P ++ [hb_m302]) hb_GM (px_Hq hb_B) (px_g2 hb_AB) hb_A hb_LW hb_Cs 40 hb_zs 302 hb_cuts 6530 (hb_cs 932 hb_RB hb_FB) 0 [] 0 = true := by decide +kernel
set_option maxRecDepth 100000 in
theorem hb_t44_0 : sy_ckT hb_cl hb_lt hb_P (hb_P ++ [hb_m302]) hb_GM (px_Hq hb_B) (px_g2 hb_AB) hb_A hb_LW hb_Cs 40 hb_zs 302 hb_cuts 6530 (hb_cs 985 hb_RA hb_FA) 0 [] 0 = true := by decide +kernel
set_option maxRecDepth 100000 in
theorem hb_t45_0 : sy_ckT hb_cl hb_lt hb_P (hb_P ++ [hb_m302]) hb_GM (px_Hq hb_B) (px_g2 hb_AB) hb_A hb_LW hb_Cs 40 hb_zs 302 hb_cuts 6530 (hb_cs 985 hb_RB hb_FB) 0 [] 0 = true := by decide +kernel
set_option maxRecDepth 100000 in
theorem hb_t46_0 : sy_ckT hb_cl hb_lt hb_P (hb_P ++ [hb_m302]) hb_GM (px_Hq hb_B) (px_g2 hb_AB) hb_A hb_LW hb_Cs 40 hb_zs 302 hb_cuts 6530 (hb_cs 1008 hb_RA hb_FA) 0 [] 0 = true := by decide +kernel
set_option maxRecDepth 100000 in
theorem hb_t47_0 : sy_ckT hb_cl hb_lt hb_P (hb_P ++ [hb_m302]) hb_GM (px_Hq hb_B) (px_g2 hb_AB) hb_A hb_LW hb_Cs 40 hb_zs 302 hb_cuts 6530 (hb_cs 1008 hb_RB hb_FB) 0 [] 0 = true := by decide +kernel
set_option maxRecDepth 100000 in
theorem hb_t48_0 : sy_ckT hb_cl hb_lt hb_P (hb_P ++ [hb_m302]) hb_GM (px_Hq hb_B) (px_g2 hb_AB) hb_A hb_LW hb_Cs 40 hb_zs 302 hb_cuts 6530 (hb_cs 1031 hb_RA hb_FA) 0 [] 0 = true := by decide +kernel
set_option maxRecDepth 100000 in
theorem hb_t49_0 : sy_ckT hb_cl hb_lt hb_P (hb_P ++ [hb_m302]) hb_GM (px_Hq hb_B) (px_g2 hb_AB) hb_A hb_LW hb_Cs 40 hb_zs 302 hb_cuts 6530 (hb_cs 1031 hb_RB hb_FB) 0 [] 0 = true := by decide +kernel
set_option maxRecDepth 100000 in
theorem hb_t50_0 : sy_ckT hb_cl hb_lt hb_P (hb_P ++ [hb_m302]) hb_GM (px_Hq hb_B) (px_g2 hb_AB) hb_A hb_LW hb_Cs 40 hb_zs 302 hb_cuts 6530 (hb_cs 1054 hb_RA hb_FA) 0 [] 0 = true := by decide +kernel
set_option maxRecDepth 100000 in
theorem hb_t51_0 : sy_ckT hb_cl hb_lt hb_P (hb_P ++ [hb_m302]) hb_GM (px_Hq hb_B) (px_g2 hb_AB) hb_A hb_LW hb_Cs 40 hb_zs 302 hb_cuts 6530 (hb_cs 1054 hb_RB hb_FB) 0 [] 0 = true := by decide +kernel
set_option maxRecDepth 100000 in
theorem hb_t52_0 : sy_ckT hb_cl hb_lt hb_P (hb_P ++ [hb_m302]) hb_GM (px_Hq hb_B) (px_g2 hb_AB) hb_A hb_LW hb_Cs 40 hb_zs 302 hb_cuts 6530 (hb_cs 1077 hb_RA hb_FA) 0 [] 0 = true := by decide +kernel
set_option maxRecDepth 100000 in
theorem hb_t53_0 : sy_ckT hb_cl hb_lt hb_P (hb_P ++ [hb_m302]) hb_GM (px_Hq hb_B) (px_g2 hb_AB) hb_A hb_LW hb_Cs 40 hb_zs 302 hb_cuts 6530 (hb_cs 1077 hb_RB hb_FB) 0 [] 0 = true := by decide +kernel
set_option maxRecDepth 100000 in
theorem hb_t54_0 : sy_ckT hb_cl hb_lt hb_P (hb_P ++ [hb_m302]) hb_GM (px_Hq hb_B) (px_g2 hb_AB) hb_A hb_LW hb_Cs 40 hb_zs 302 hb_cuts 6530 (hb_cs 1120 hb_RA hb_FA) 0 [] 0 = true := by decide +kernel
set_option maxRecDepth 100000 in
theorem hb_t55_0 : sy_ckT hb_cl hb_lt hb_P (hb_P ++ [hb_m302]) hb_GM (px_Hq hb_B) (px_g2 hb_AB) hb_A hb_LW hb_Cs 40 hb_zs 302 hb_cuts 6530 (hb_cs 1120 hb_RB hb_FB) 0 [] 0 = true := by decide +kernel
set_option maxRecDepth 100000 in
theorem hb_t56_0 : sy_ckT hb_cl hb_lt hb_P (hb_P ++ [hb_m302]) hb_GM (px_Hq hb_B) (px_g2 hb_AB) hb_A hb_LW hb_Cs 40 hb_zs 302 hb_cuts 6530 (hb_cs 1143 hb_RA hb_FA) 0 [] 0 = true := by decide +kernel
set_option maxRecDepth 100000 in
theorem hb_t57_0 : sy_ckT hb_cl hb_lt hb_P (hb_P ++ [hb_m302]) hb_GM (px_Hq hb_B) (px_g2 hb_AB) hb_A hb_LW hb_Cs 40 hb_zs 302 hb_cuts 6530 (hb_cs 1143 hb_RB hb_FB) 0 [] 0 = true := by decide +kernel
set_option maxRecDepth 100000 in
theorem hb_t58_0 : sy_ckT hb_cl hb_lt hb_P (hb_P ++ [hb_m302]) hb_GM (px_Hq hb_B) (px_g2 hb_AB) hb_A hb_LW hb_Cs 40 hb_zs 302 hb_cuts 6530 (hb_cs 1166 hb_RA hb_FA) 0 [] 0 = true := by decide +kernel
set_option maxRecDepth 100000 in
theorem hb_t59_0 : sy_ckT hb_cl hb_lt hb_P (hb_P ++ [hb_m302]) hb_GM (px_Hq hb_B) (px_g2 hb_AB) hb_A hb_LW hb_Cs 40 hb_zs 302 hb_cuts 6530 (hb_cs 1166 hb_RB hb_FB) 0 [] 0 = true := by decide +kernel
set_option maxRecDepth 100000 in
theorem hb_t60_0 : sy_ckT hb_cl hb_lt hb_P (hb_P ++ [hb_m302]) hb_GM (px_Hq hb_B) (px_g2 hb_AB) hb_A hb_LW hb_Cs 40 hb_zs 302 hb_cuts 6530 (hb_cs 1199 hb_RA hb_FA) 0 [] 0 = true := by decide +kernel
set_option maxRecDepth 100000 in
theorem hb_t61_0 : sy_ckT hb_cl hb_lt hb_P (hb_P ++ [hb_m302]) hb_GM (px_Hq hb_B) (px_g2 hb_AB) hb_A hb_LW hb_Cs 40 hb_zs 302 hb_cuts 6530 (hb_cs 1199 hb_RB hb_FB) 0 [] 0 = true := by decide +kernel
set_option maxRecDepth 100000 in
theorem hb_t62_0 : sy_ckT hb_cl hb_lt hb_P (hb_P ++ [hb_m302]) hb_GM (px_Hq hb_B) (px_g2 hb_AB) hb_A hb_LW hb_Cs 40 hb_zs 302 hb_cuts 6530 (hb_cs 1222 hb_RA hb_FA) 0 [] 0 = true := by decide +kernel
set_option maxRecDepth 100000 in
theorem hb_t63_0 : sy_ckT hb_cl hb_lt hb_P (hb_P ++ [hb_m302]) hb_GM (px_Hq hb_B) (px_g2 hb_AB) hb_A hb_LW hb_Cs 40 hb_zs 302 hb_cuts 6530 (hb_cs 1222 hb_RB hb_FB) 0 [] 0 = true := by decide +kernel
set_option maxRecDepth 100000 in
theorem hb_t64_0 : sy_ckT hb_cl hb_lt hb_P (hb_P ++ [hb_m302]) hb_GM (px_Hq hb_B) (px_g2 hb_AB) hb_A hb_LW hb_Cs 40 hb_zs 302 hb_cuts 6530 (hb_cs 1245 hb_RA hb_FA) 0 [] 0 = true := by decide +kernel
set_option maxRecDepth 100000 in
theorem hb_t65_0 : sy_ckT hb_cl hb_lt hb_P (hb_P ++ [hb_m302]) hb_GM (px_Hq hb_B) (px_g2 hb_AB) hb_A hb_LW hb_Cs 40 hb_zs 302 hb_cuts 6530 (hb_cs 1245 hb_RB hb_FB) 0 [] 0 = true := by decide +kernel
set_option maxRecDepth 100000 in
theorem hb_t66_0 : sy_ckT hb_cl hb_lt hb_P (hb_P ++ [hb_m302]) hb_GM (px_Hq hb_B) (px_g2 hb_AB) hb_A hb_LW hb_Cs 40 hb_zs 302 hb_cuts 6530 (hb_cs 1268 hb_RA hb_FA) 0 [] 0 = true := by decide +kernel
set_option maxRecDepth 100000 in
theorem hb_t67_0 : sy_ckT hb_cl hb_lt hb_P (hb_P ++ [hb_m302]) hb_GM (px_Hq hb_B) (px_g2 hb_AB) hb_A hb_LW hb_Cs 40 hb_zs 302 hb_cuts 6530 (hb_cs 1268 hb_RB hb_FB) 0 [] 0 = true := by decide +kernel

end

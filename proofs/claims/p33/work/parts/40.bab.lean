noncomputable section
/-! THE LAW, CUT BY CUT, 2 -/
set_option maxRecDepth 100000 in
theorem hb_t22_0 : sy_ckT hb_cl hb_lt hb_P (hb_P ++ [hb_m302]) hb_GM (px_Hq hb_B) (px_g2 hb_AB) hb_A hb_Wc10 hb_Cs 40 hb_zs 302 hb_cuts 14424 (hb_cs 612 hb_RA hb_FA) hb_rl10 0 [] 0 = true := by decide +kernel
set_option maxRecDepth 100000 in
theorem hb_t23_0 : sy_ckT hb_cl hb_lt hb_P (hb_P ++ [hb_m302]) hb_GM (px_Hq hb_B) (px_g2 hb_AB) hb_A hb_Wc10 hb_Cs 40 hb_zs 302 hb_cuts 14424 (hb_cs 612 hb_RB hb_FB) hb_rl10 0 [] 0 = true := by decide +kernel
set_option maxRecDepth 100000 in
theorem hb_t24_0 : sy_ckT hb_cl hb_lt hb_P (hb_P ++ [hb_m302]) hb_GM (px_Hq hb_B) (px_g2 hb_AB) hb_A hb_Wc11 hb_Cs 40 hb_zs 302 hb_cuts 14424 (hb_cs 665 hb_RA hb_FA) hb_rl11 0 [] 0 = true := by decide +kernel
set_option maxRecDepth 100000 in
theorem hb_t25_0 : sy_ckT hb_cl hb_lt hb_P (hb_P ++ [hb_m302]) hb_GM (px_Hq hb_B) (px_g2 hb_AB) hb_A hb_Wc11 hb_Cs 40 hb_zs 302 hb_cuts 14424 (hb_cs 665 hb_RB hb_FB) hb_rl11 0 [] 0 = true := by decide +kernel
set_option maxRecDepth 100000 in
theorem hb_t26_0 : sy_ckT hb_cl hb_lt hb_P (hb_P ++ [hb_m302]) hb_GM (px_Hq hb_B) (px_g2 hb_AB) hb_A hb_Wc12 hb_Cs 40 hb_zs 302 hb_cuts 14424 (hb_cs 698 hb_RA hb_FA) hb_rl12 0 [] 0 = true := by decide +kernel
set_option maxRecDepth 100000 in
theorem hb_t27_0 : sy_ckT hb_cl hb_lt hb_P (hb_P ++ [hb_m302]) hb_GM (px_Hq hb_B) (px_g2 hb_AB) hb_A hb_Wc12 hb_Cs 40 hb_zs 302 hb_cuts 14424 (hb_cs 698 hb_RB hb_FB) hb_rl12 0 [] 0 = true := by decide +kernel
set_option maxRecDepth 100000 in
theorem hb_t28_0 : sy_ckT hb_cl hb_lt hb_P (hb_P ++ [hb_m302]) hb_GM (px_Hq hb_B) (px_g2 hb_AB) hb_A hb_Wc13 hb_Cs 40 hb_zs 302 hb_cuts 14424 (hb_cs 751 hb_RA hb_FA) hb_rl13 0 [] 0 = true := by decide +kernel
set_option maxRecDepth 100000 in
theorem hb_t29_0 : sy_ckT hb_cl hb_lt hb_P (hb_P ++ [hb_m302]) hb_GM (px_Hq hb_B) (px_g2 hb_AB) hb_A hb_Wc13 hb_Cs 40 hb_zs 302 hb_cuts 14424 (hb_cs 751 hb_RB hb_FB) hb_rl13 0 [] 0 = true := by decide +kernel
set_option maxRecDepth 100000 in
theorem hb_t30_0 : sy_ckT hb_cl hb_lt hb_P (hb_P ++ [hb_m302]) hb_GM (px_Hq hb_B) (px_g2 hb_AB) hb_A hb_Wc14 hb_Cs 40 hb_zs 302 hb_cuts 14424 (hb_cs 774 hb_RA hb_FA) hb_rl14 0 [] 0 = true := by decide +kernel
set_option maxRecDepth 100000 in
theorem hb_t31_0 : sy_ckT hb_cl hb_lt hb_P (hb_P ++ [hb_m302]) hb_GM (px_Hq hb_B) (px_g2 hb_AB) hb_A hb_Wc14 hb_Cs 40 hb_zs 302 hb_cuts 14424 (hb_cs 774 hb_RB hb_FB) hb_rl14 0 [] 0 = true := by decide +kernel
set_option maxRecDepth 100000 in
theorem hb_t32_0 : sy_ckT hb_cl hb_lt hb_P (hb_P ++ [hb_m302]) hb_GM (px_Hq hb_B) (px_g2 hb_AB) hb_A hb_Wc15 hb_Cs 40 hb_zs 302 hb_cuts 14424 (hb_cs 787 hb_RA hb_FA) hb_rl15 0 [] 0 = true := by decide +kernel
set_option maxRecDepth 100000 in
theorem hb_t33_0 : sy_ckT hb_cl hb_lt hb_P (hb_P ++ [hb_m302]) hb_GM (px_Hq hb_B) (px_g2 hb_AB) hb_A hb_Wc15 hb_Cs 40 hb_zs 302 hb_cuts 14424 (hb_cs 787 hb_RB hb_FB) hb_rl15 0 [] 0 = true := by decide +kernel
set_option maxRecDepth 100000 in
theorem hb_t34_0 : sy_ckT hb_cl hb_lt hb_P (hb_P ++ [hb_m302]) hb_GM (px_Hq hb_B) (px_g2 hb_AB) hb_A hb_Wc0 hb_Cs 40 hb_zs 302 hb_cuts 14424 (hb_cs 800 hb_RA hb_FA) hb_rl0 0 [] 0 = true := by decide +kernel
set_option maxRecDepth 100000 in
theorem hb_t35_0 : sy_ckT hb_cl hb_lt hb_P (hb_P ++ [hb_m302]) hb_GM (px_Hq hb_B) (px_g2 hb_AB) hb_A hb_Wc0 hb_Cs 40 hb_zs 302 hb_cuts 14424 (hb_cs 800 hb_RB hb_FB) hb_rl0 0 [] 0 = true := by decide +kernel
set_option maxRecDepth 100000 in
theorem hb_t36_0 : sy_ckT hb_cl hb_lt hb_P (hb_P ++ [hb_m302]) hb_GM (px_Hq hb_B) (px_g2 hb_AB) hb_A hb_Wc16 hb_Cs 40 hb_zs 302 hb_cuts 14424 (hb_cs 833 hb_RA hb_FA) hb_rl16 0 [] 0 = true := by decide +kernel
set_option maxRecDepth 100000 in
theorem hb_t37_0 : sy_ckT hb_cl hb_lt hb_P (hb_P ++ [hb_m302]) hb_GM (px_Hq hb_B) (px_g2 hb_AB) hb_A hb_Wc16 hb_Cs 40 hb_zs 302 hb_cuts 14424 (hb_cs 833 hb_RB hb_FB) hb_rl16 0 [] 0 = true := by decide +kernel
set_option maxRecDepth 100000 in
theorem hb_t38_0 : sy_ckT hb_cl hb_lt hb_P (hb_P ++ [hb_m302]) hb_GM (px_Hq hb_B) (px_g2 hb_AB) hb_A hb_Wc13 hb_Cs 40 hb_zs 302 hb_cuts 14424 (hb_cs 876 hb_RA hb_FA) hb_rl13 0 [] 0 = true := by decide +kernel
set_option maxRecDepth 100000 in
theorem hb_t39_0 : sy_ckT hb_cl hb_lt hb_P (hb_P ++ [hb_m302]) hb_GM (px_Hq hb_B) (px_g2 hb_AB) hb_A hb_Wc13 hb_Cs 40 hb_zs 302 hb_cuts 14424 (hb_cs 876 hb_RB hb_FB) hb_rl13 0 [] 0 = true := by decide +kernel
set_option maxRecDepth 100000 in
theorem hb_t40_0 : sy_ckT hb_cl hb_lt hb_P (hb_P ++ [hb_m302]) hb_GM (px_Hq hb_B) (px_g2 hb_AB) hb_A hb_Wc17 hb_Cs 40 hb_zs 302 hb_cuts 14424 (hb_cs 889 hb_RA hb_FA) hb_rl17 0 [] 0 = true := by decide +kernel
set_option maxRecDepth 100000 in
theorem hb_t41_0 : sy_ckT hb_cl hb_lt hb_P (hb_P ++ [hb_m302]) hb_GM (px_Hq hb_B) (px_g2 hb_AB) hb_A hb_Wc17 hb_Cs 40 hb_zs 302 hb_cuts 14424 (hb_cs 889 hb_RB hb_FB) hb_rl17 0 [] 0 = true := by decide +kernel
set_option maxRecDepth 100000 in
theorem hb_t42_0 : sy_ckT hb_cl hb_lt hb_P (hb_P ++ [hb_m302]) hb_GM (px_Hq hb_B) (px_g2 hb_AB) hb_A hb_Wc18 hb_Cs 40 hb_zs 302 hb_cuts 14424 (hb_cs 932 hb_RA hb_FA) hb_rl18 0 [] 0 = true := by decide +kernel
set_option maxRecDepth 100000 in
theorem hb_t43_0 : sy_ckT hb_cl hb_lt hb_P (hb_P ++ [hb_m302]) hb_GM (px_Hq hb_B) (px_g2 hb_AB) hb_A hb_Wc18 hb_Cs 40 hb_zs 302 hb_cuts 14424 (hb_cs 932 hb_RB hb_FB) hb_rl18 0 [] 0 = true := by decide +kernel
set_option maxRecDepth 100000 in
theorem hb_t44_0 : sy_ckT hb_cl hb_lt hb_P (hb_P ++ [hb_m302]) hb_GM (px_Hq hb_B) (px_g2 hb_AB) hb_A hb_Wc19 hb_Cs 40 hb_zs 302 hb_cuts 14424 (hb_cs 985 hb_RA hb_FA) hb_rl19 0 [] 0 = true := by decide +kernel
set_option maxRecDepth 100000 in
theorem hb_t45_0 : sy_ckT hb_cl hb_lt hb_P (hb_P ++ [hb_m302]) hb_GM (px_Hq hb_B) (px_g2 hb_AB) hb_A hb_Wc19 hb_Cs 40 hb_zs 302 hb_cuts 14424 (hb_cs 985 hb_RB hb_FB) hb_rl19 0 [] 0 = true := by decide +kernel
set_option maxRecDepth 100000 in
theorem hb_t46_0 : sy_ckT hb_cl hb_lt hb_P (hb_P ++ [hb_m302]) hb_GM (px_Hq hb_B) (px_g2 hb_AB) hb_A hb_Wc20 hb_Cs 40 hb_zs 302 hb_cuts 14424 (hb_cs 1008 hb_RA hb_FA) hb_rl20 0 [] 0 = true := by decide +kernel
set_option maxRecDepth 100000 in
theorem hb_t47_0 : sy_ckT hb_cl hb_lt hb_P (hb_P ++ [hb_m302]) hb_GM (px_Hq hb_B) (px_g2 hb_AB) hb_A hb_Wc20 hb_Cs 40 hb_zs 302 hb_cuts 14424 (hb_cs 1008 hb_RB hb_FB) hb_rl20 0 [] 0 = true := by decide +kernel
set_option maxRecDepth 100000 in
theorem hb_t48_0 : sy_ckT hb_cl hb_lt hb_P (hb_P ++ [hb_m302]) hb_GM (px_Hq hb_B) (px_g2 hb_AB) hb_A hb_Wc0 hb_Cs 40 hb_zs 302 hb_cuts 14424 (hb_cs 1031 hb_RA hb_FA) hb_rl0 0 [] 0 = true := by decide +kernel
set_option maxRecDepth 100000 in
theorem hb_t49_0 : sy_ckT hb_cl hb_lt hb_P (hb_P ++ [hb_m302]) hb_GM (px_Hq hb_B) (px_g2 hb_AB) hb_A hb_Wc0 hb_Cs 40 hb_zs 302 hb_cuts 14424 (hb_cs 1031 hb_RB hb_FB) hb_rl0 0 [] 0 = true := by decide +kernel
set_option maxRecDepth 100000 in
theorem hb_t50_0 : sy_ckT hb_cl hb_lt hb_P (hb_P ++ [hb_m302]) hb_GM (px_Hq hb_B) (px_g2 hb_AB) hb_A hb_Wc0 hb_Cs 40 hb_zs 302 hb_cuts 14424 (hb_cs 1054 hb_RA hb_FA) hb_rl0 0 [] 0 = true := by decide +kernel
set_option maxRecDepth 100000 in
theorem hb_t51_0 : sy_ckT hb_cl hb_lt hb_P (hb_P ++ [hb_m302]) hb_GM (px_Hq hb_B) (px_g2 hb_AB) hb_A hb_Wc0 hb_Cs 40 hb_zs 302 hb_cuts 14424 (hb_cs 1054 hb_RB hb_FB) hb_rl0 0 [] 0 = true := by decide +kernel
set_option maxRecDepth 100000 in
theorem hb_t52_0 : sy_ckT hb_cl hb_lt hb_P (hb_P ++ [hb_m302]) hb_GM (px_Hq hb_B) (px_g2 hb_AB) hb_A hb_Wc21 hb_Cs 40 hb_zs 302 hb_cuts 14424 (hb_cs 1077 hb_RA hb_FA) hb_rl21 0 [] 0 = true := by decide +kernel
set_option maxRecDepth 100000 in
theorem hb_t53_0 : sy_ckT hb_cl hb_lt hb_P (hb_P ++ [hb_m302]) hb_GM (px_Hq hb_B) (px_g2 hb_AB) hb_A hb_Wc21 hb_Cs 40 hb_zs 302 hb_cuts 14424 (hb_cs 1077 hb_RB hb_FB) hb_rl21 0 [] 0 = true := by decide +kernel
set_option maxRecDepth 100000 in
theorem hb_t54_0 : sy_ckT hb_cl hb_lt hb_P (hb_P ++ [hb_m302]) hb_GM (px_Hq hb_B) (px_g2 hb_AB) hb_A hb_Wc0 hb_Cs 40 hb_zs 302 hb_cuts 14424 (hb_cs 1120 hb_RA hb_FA) hb_rl0 0 [] 0 = true := by decide +kernel
set_option maxRecDepth 100000 in
theorem hb_t55_0 : sy_ckT hb_cl hb_lt hb_P (hb_P ++ [hb_m302]) hb_GM (px_Hq hb_B) (px_g2 hb_AB) hb_A hb_Wc0 hb_Cs 40 hb_zs 302 hb_cuts 14424 (hb_cs 1120 hb_RB hb_FB) hb_rl0 0 [] 0 = true := by decide +kernel
set_option maxRecDepth 100000 in
theorem hb_t56_0 : sy_ckT hb_cl hb_lt hb_P (hb_P ++ [hb_m302]) hb_GM (px_Hq hb_B) (px_g2 hb_AB) hb_A hb_Wc0 hb_Cs 40 hb_zs 302 hb_cuts 14424 (hb_cs 1143 hb_RA hb_FA) hb_rl0 0 [] 0 = true := by decide +kernel
set_option maxRecDepth 100000 in
theorem hb_t57_0 : sy_ckT hb_cl hb_lt hb_P (hb_P ++ [hb_m302]) hb_GM (px_Hq hb_B) (px_g2 hb_AB) hb_A hb_Wc0 hb_Cs 40 hb_zs 302 hb_cuts 14424 (hb_cs 1143 hb_RB hb_FB) hb_rl0 0 [] 0 = true := by decide +kernel
set_option maxRecDepth 100000 in
theorem hb_t58_0 : sy_ckT hb_cl hb_lt hb_P (hb_P ++ [hb_m302]) hb_GM (px_Hq hb_B) (px_g2 hb_AB) hb_A hb_Wc22 hb_Cs 40 hb_zs 302 hb_cuts 14424 (hb_cs 1166 hb_RA hb_FA) hb_rl22 0 [] 0 = true := by decide +kernel
set_option maxRecDepth 100000 in
theorem hb_t59_0 : sy_ckT hb_cl hb_lt hb_P (hb_P ++ [hb_m302]) hb_GM (px_Hq hb_B) (px_g2 hb_AB) hb_A hb_Wc22 hb_Cs 40 hb_zs 302 hb_cuts 14424 (hb_cs 1166 hb_RB hb_FB) hb_rl22 0 [] 0 = true := by decide +kernel
set_option maxRecDepth 100000 in
theorem hb_t60_0 : sy_ckT hb_cl hb_lt hb_P (hb_P ++ [hb_m302]) hb_GM (px_Hq hb_B) (px_g2 hb_AB) hb_A hb_Wc0 hb_Cs 40 hb_zs 302 hb_cuts 14424 (hb_cs 1199 hb_RA hb_FA) hb_rl0 0 [] 0 = true := by decide +kernel
set_option maxRecDepth 100000 in
theorem hb_t61_0 : sy_ckT hb_cl hb_lt hb_P (hb_P ++ [hb_m302]) hb_GM (px_Hq hb_B) (px_g2 hb_AB) hb_A hb_Wc0 hb_Cs 40 hb_zs 302 hb_cuts 14424 (hb_cs 1199 hb_RB hb_FB) hb_rl0 0 [] 0 = true := by decide +kernel

end

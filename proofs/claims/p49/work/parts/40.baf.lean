noncomputable section
/-! THE LAW, CUT BY CUT, 6 -/
set_option maxRecDepth 100000 in
theorem hb_t27_0 : sy_ckT hb_cl hb_lt hb_P (hb_P ++ [hb_m302]) hb_GM (px_Hq hb_B) (px_g2 hb_AB) hb_A hb_Wc12 hb_Cs 40 hb_zs 302 hb_cuts 27484 (hb_cs 698 hb_RB hb_FB) hb_rl12 0 [] 0 = true := by decide +kernel
set_option maxRecDepth 100000 in
theorem hb_t28_0 : sy_ckT hb_cl hb_lt hb_P (hb_P ++ [hb_m302]) hb_GM (px_Hq hb_B) (px_g2 hb_AB) hb_A hb_Wc13 hb_Cs 40 hb_zs 302 hb_cuts 27484 (hb_cs 751 hb_RA hb_FA) hb_rl13 0 [] 0 = true := by decide +kernel
set_option maxRecDepth 100000 in
theorem hb_t29_0 : sy_ckT hb_cl hb_lt hb_P (hb_P ++ [hb_m302]) hb_GM (px_Hq hb_B) (px_g2 hb_AB) hb_A hb_Wc13 hb_Cs 40 hb_zs 302 hb_cuts 27484 (hb_cs 751 hb_RB hb_FB) hb_rl13 0 [] 0 = true := by decide +kernel
set_option maxRecDepth 100000 in
theorem hb_t30_0 : sy_ckT hb_cl hb_lt hb_P (hb_P ++ [hb_m302]) hb_GM (px_Hq hb_B) (px_g2 hb_AB) hb_A hb_Wc14 hb_Cs 40 hb_zs 302 hb_cuts 27484 (hb_cs 774 hb_RA hb_FA) hb_rl14 0 [] 0 = true := by decide +kernel
set_option maxRecDepth 100000 in
theorem hb_t31_0 : sy_ckT hb_cl hb_lt hb_P (hb_P ++ [hb_m302]) hb_GM (px_Hq hb_B) (px_g2 hb_AB) hb_A hb_Wc14 hb_Cs 40 hb_zs 302 hb_cuts 27484 (hb_cs 774 hb_RB hb_FB) hb_rl14 0 [] 0 = true := by decide +kernel
set_option maxRecDepth 100000 in
theorem hb_t32_0 : sy_ckT hb_cl hb_lt hb_P (hb_P ++ [hb_m302]) hb_GM (px_Hq hb_B) (px_g2 hb_AB) hb_A hb_Wc15 hb_Cs 40 hb_zs 302 hb_cuts 27484 (hb_cs 787 hb_RA hb_FA) hb_rl15 0 [] 0 = true := by decide +kernel
set_option maxRecDepth 100000 in
theorem hb_t33_0 : sy_ckT hb_cl hb_lt hb_P (hb_P ++ [hb_m302]) hb_GM (px_Hq hb_B) (px_g2 hb_AB) hb_A hb_Wc15 hb_Cs 40 hb_zs 302 hb_cuts 27484 (hb_cs 787 hb_RB hb_FB) hb_rl15 0 [] 0 = true := by decide +kernel
set_option maxRecDepth 100000 in
theorem hb_t34_0 : sy_ckT hb_cl hb_lt hb_P (hb_P ++ [hb_m302]) hb_GM (px_Hq hb_B) (px_g2 hb_AB) hb_A hb_Wc0 hb_Cs 40 hb_zs 302 hb_cuts 27484 (hb_cs 800 hb_RA hb_FA) hb_rl0 0 [] 0 = true := by decide +kernel
set_option maxRecDepth 100000 in
theorem hb_t35_0 : sy_ckT hb_cl hb_lt hb_P (hb_P ++ [hb_m302]) hb_GM (px_Hq hb_B) (px_g2 hb_AB) hb_A hb_Wc0 hb_Cs 40 hb_zs 302 hb_cuts 27484 (hb_cs 800 hb_RB hb_FB) hb_rl0 0 [] 0 = true := by decide +kernel
set_option maxRecDepth 100000 in
theorem hb_t36_0 : sy_ckT hb_cl hb_lt hb_P (hb_P ++ [hb_m302]) hb_GM (px_Hq hb_B) (px_g2 hb_AB) hb_A hb_Wc16 hb_Cs 40 hb_zs 302 hb_cuts 27484 (hb_cs 833 hb_RA hb_FA) hb_rl16 0 [] 0 = true := by decide +kernel
set_option maxRecDepth 100000 in
theorem hb_t37_0 : sy_ckT hb_cl hb_lt hb_P (hb_P ++ [hb_m302]) hb_GM (px_Hq hb_B) (px_g2 hb_AB) hb_A hb_Wc16 hb_Cs 40 hb_zs 302 hb_cuts 27484 (hb_cs 833 hb_RB hb_FB) hb_rl16 0 [] 0 = true := by decide +kernel
set_option maxRecDepth 100000 in
theorem hb_t38_0 : sy_ckT hb_cl hb_lt hb_P (hb_P ++ [hb_m302]) hb_GM (px_Hq hb_B) (px_g2 hb_AB) hb_A hb_Wc13 hb_Cs 40 hb_zs 302 hb_cuts 27484 (hb_cs 876 hb_RA hb_FA) hb_rl13 0 [] 0 = true := by decide +kernel
set_option maxRecDepth 100000 in
theorem hb_t39_0 : sy_ckT hb_cl hb_lt hb_P (hb_P ++ [hb_m302]) hb_GM (px_Hq hb_B) (px_g2 hb_AB) hb_A hb_Wc13 hb_Cs 40 hb_zs 302 hb_cuts 27484 (hb_cs 876 hb_RB hb_FB) hb_rl13 0 [] 0 = true := by decide +kernel
set_option maxRecDepth 100000 in
theorem hb_t40_0 : sy_ckT hb_cl hb_lt hb_P (hb_P ++ [hb_m302]) hb_GM (px_Hq hb_B) (px_g2 hb_AB) hb_A hb_Wc17 hb_Cs 40 hb_zs 302 hb_cuts 27484 (hb_cs 889 hb_RA hb_FA) hb_rl17 0 [] 0 = true := by decide +kernel
set_option maxRecDepth 100000 in
theorem hb_t41_0 : sy_ckT hb_cl hb_lt hb_P (hb_P ++ [hb_m302]) hb_GM (px_Hq hb_B) (px_g2 hb_AB) hb_A hb_Wc17 hb_Cs 40 hb_zs 302 hb_cuts 27484 (hb_cs 889 hb_RB hb_FB) hb_rl17 0 [] 0 = true := by decide +kernel
set_option maxRecDepth 100000 in
theorem hb_t42_0 : sy_ckT hb_cl hb_lt hb_P (hb_P ++ [hb_m302]) hb_GM (px_Hq hb_B) (px_g2 hb_AB) hb_A hb_Wc18 hb_Cs 40 hb_zs 302 hb_cuts 27484 (hb_cs 932 hb_RA hb_FA) hb_rl18 0 [] 0 = true := by decide +kernel
set_option maxRecDepth 100000 in
theorem hb_t43_0 : sy_ckT hb_cl hb_lt hb_P (hb_P ++ [hb_m302]) hb_GM (px_Hq hb_B) (px_g2 hb_AB) hb_A hb_Wc18 hb_Cs 40 hb_zs 302 hb_cuts 27484 (hb_cs 932 hb_RB hb_FB) hb_rl18 0 [] 0 = true := by decide +kernel
set_option maxRecDepth 100000 in
theorem hb_t44_0 : sy_ckT hb_cl hb_lt hb_P (hb_P ++ [hb_m302]) hb_GM (px_Hq hb_B) (px_g2 hb_AB) hb_A hb_Wc19 hb_Cs 40 hb_zs 302 hb_cuts 27484 (hb_cs 985 hb_RA hb_FA) hb_rl19 0 [] 0 = true := by decide +kernel
set_option maxRecDepth 100000 in
theorem hb_t45_0 : sy_ckT hb_cl hb_lt hb_P (hb_P ++ [hb_m302]) hb_GM (px_Hq hb_B) (px_g2 hb_AB) hb_A hb_Wc19 hb_Cs 40 hb_zs 302 hb_cuts 27484 (hb_cs 985 hb_RB hb_FB) hb_rl19 0 [] 0 = true := by decide +kernel
set_option maxRecDepth 100000 in
theorem hb_t46_0 : sy_ckT hb_cl hb_lt hb_P (hb_P ++ [hb_m302]) hb_GM (px_Hq hb_B) (px_g2 hb_AB) hb_A hb_Wc20 hb_Cs 40 hb_zs 302 hb_cuts 27484 (hb_cs 1008 hb_RA hb_FA) hb_rl20 0 [] 0 = true := by decide +kernel

end

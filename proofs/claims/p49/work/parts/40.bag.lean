noncomputable section
/-! THE LAW, CUT BY CUT, 7 -/
set_option maxRecDepth 100000 in
theorem hb_t47_0 : sy_ckT hb_cl hb_lt hb_P (hb_P ++ [hb_m302]) hb_GM (px_Hq hb_B) (px_g2 hb_AB) hb_A hb_Wc20 hb_Cs 40 hb_zs 302 hb_cuts 27484 (hb_cs 1008 hb_RB hb_FB) hb_rl20 0 [] 0 = true := by decide +kernel
set_option maxRecDepth 100000 in
theorem hb_t48_0 : sy_ckT hb_cl hb_lt hb_P (hb_P ++ [hb_m302]) hb_GM (px_Hq hb_B) (px_g2 hb_AB) hb_A hb_Wc0 hb_Cs 40 hb_zs 302 hb_cuts 27484 (hb_cs 1031 hb_RA hb_FA) hb_rl0 0 [] 0 = true := by decide +kernel
set_option maxRecDepth 100000 in
theorem hb_t49_0 : sy_ckT hb_cl hb_lt hb_P (hb_P ++ [hb_m302]) hb_GM (px_Hq hb_B) (px_g2 hb_AB) hb_A hb_Wc0 hb_Cs 40 hb_zs 302 hb_cuts 27484 (hb_cs 1031 hb_RB hb_FB) hb_rl0 0 [] 0 = true := by decide +kernel
set_option maxRecDepth 100000 in
theorem hb_t50_0 : sy_ckT hb_cl hb_lt hb_P (hb_P ++ [hb_m302]) hb_GM (px_Hq hb_B) (px_g2 hb_AB) hb_A hb_Wc0 hb_Cs 40 hb_zs 302 hb_cuts 27484 (hb_cs 1054 hb_RA hb_FA) hb_rl0 0 [] 0 = true := by decide +kernel
set_option maxRecDepth 100000 in
theorem hb_t51_0 : sy_ckT hb_cl hb_lt hb_P (hb_P ++ [hb_m302]) hb_GM (px_Hq hb_B) (px_g2 hb_AB) hb_A hb_Wc0 hb_Cs 40 hb_zs 302 hb_cuts 27484 (hb_cs 1054 hb_RB hb_FB) hb_rl0 0 [] 0 = true := by decide +kernel
set_option maxRecDepth 100000 in
theorem hb_t52_0 : sy_ckT hb_cl hb_lt hb_P (hb_P ++ [hb_m302]) hb_GM (px_Hq hb_B) (px_g2 hb_AB) hb_A hb_Wc21 hb_Cs 40 hb_zs 302 hb_cuts 27484 (hb_cs 1077 hb_RA hb_FA) hb_rl21 0 [] 0 = true := by decide +kernel
set_option maxRecDepth 100000 in
theorem hb_t53_0 : sy_ckT hb_cl hb_lt hb_P (hb_P ++ [hb_m302]) hb_GM (px_Hq hb_B) (px_g2 hb_AB) hb_A hb_Wc21 hb_Cs 40 hb_zs 302 hb_cuts 27484 (hb_cs 1077 hb_RB hb_FB) hb_rl21 0 [] 0 = true := by decide +kernel
set_option maxRecDepth 100000 in
theorem hb_t54_0 : sy_ckT hb_cl hb_lt hb_P (hb_P ++ [hb_m302]) hb_GM (px_Hq hb_B) (px_g2 hb_AB) hb_A hb_Wc0 hb_Cs 40 hb_zs 302 hb_cuts 27484 (hb_cs 1120 hb_RA hb_FA) hb_rl0 0 [] 0 = true := by decide +kernel
set_option maxRecDepth 100000 in
theorem hb_t55_0 : sy_ckT hb_cl hb_lt hb_P (hb_P ++ [hb_m302]) hb_GM (px_Hq hb_B) (px_g2 hb_AB) hb_A hb_Wc0 hb_Cs 40 hb_zs 302 hb_cuts 27484 (hb_cs 1120 hb_RB hb_FB) hb_rl0 0 [] 0 = true := by decide +kernel
set_option maxRecDepth 100000 in
theorem hb_t56_0 : sy_ckT hb_cl hb_lt hb_P (hb_P ++ [hb_m302]) hb_GM (px_Hq hb_B) (px_g2 hb_AB) hb_A hb_Wc0 hb_Cs 40 hb_zs 302 hb_cuts 27484 (hb_cs 1143 hb_RA hb_FA) hb_rl0 0 [] 0 = true := by decide +kernel

end

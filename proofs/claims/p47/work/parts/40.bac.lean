noncomputable section
/-! THE LAW, CUT BY CUT, 3 -/
set_option maxRecDepth 100000 in
theorem hb_t52_0 : sy_ckT hb_cl hb_lt hb_P (hb_P ++ [hb_m302]) hb_GM (px_Hq hb_B) (px_g2 hb_AB) hb_A hb_LW hb_Cs 40 hb_zs 302 hb_cuts 6332 (hb_cs 1077 hb_RA hb_FA) 0 [] 0 = true := by decide +kernel
set_option maxRecDepth 100000 in
theorem hb_t53_0 : sy_ckT hb_cl hb_lt hb_P (hb_P ++ [hb_m302]) hb_GM (px_Hq hb_B) (px_g2 hb_AB) hb_A hb_LW hb_Cs 40 hb_zs 302 hb_cuts 6332 (hb_cs 1077 hb_RB hb_FB) 0 [] 0 = true := by decide +kernel
set_option maxRecDepth 100000 in
theorem hb_t54_0 : sy_ckT hb_cl hb_lt hb_P (hb_P ++ [hb_m302]) hb_GM (px_Hq hb_B) (px_g2 hb_AB) hb_A hb_LW hb_Cs 40 hb_zs 302 hb_cuts 6332 (hb_cs 1120 hb_RA hb_FA) 0 [] 0 = true := by decide +kernel
set_option maxRecDepth 100000 in
theorem hb_t55_0 : sy_ckT hb_cl hb_lt hb_P (hb_P ++ [hb_m302]) hb_GM (px_Hq hb_B) (px_g2 hb_AB) hb_A hb_LW hb_Cs 40 hb_zs 302 hb_cuts 6332 (hb_cs 1120 hb_RB hb_FB) 0 [] 0 = true := by decide +kernel
set_option maxRecDepth 100000 in
theorem hb_t56_0 : sy_ckT hb_cl hb_lt hb_P (hb_P ++ [hb_m302]) hb_GM (px_Hq hb_B) (px_g2 hb_AB) hb_A hb_LW hb_Cs 40 hb_zs 302 hb_cuts 6332 (hb_cs 1143 hb_RA hb_FA) 0 [] 0 = true := by decide +kernel
set_option maxRecDepth 100000 in
theorem hb_t57_0 : sy_ckT hb_cl hb_lt hb_P (hb_P ++ [hb_m302]) hb_GM (px_Hq hb_B) (px_g2 hb_AB) hb_A hb_LW hb_Cs 40 hb_zs 302 hb_cuts 6332 (hb_cs 1143 hb_RB hb_FB) 0 [] 0 = true := by decide +kernel
set_option maxRecDepth 100000 in
theorem hb_t58_0 : sy_ckT hb_cl hb_lt hb_P (hb_P ++ [hb_m302]) hb_GM (px_Hq hb_B) (px_g2 hb_AB) hb_A hb_LW hb_Cs 40 hb_zs 302 hb_cuts 6332 (hb_cs 1166 hb_RA hb_FA) 0 [] 0 = true := by decide +kernel
set_option maxRecDepth 100000 in
theorem hb_t59_0 : sy_ckT hb_cl hb_lt hb_P (hb_P ++ [hb_m302]) hb_GM (px_Hq hb_B) (px_g2 hb_AB) hb_A hb_LW hb_Cs 40 hb_zs 302 hb_cuts 6332 (hb_cs 1166 hb_RB hb_FB) 0 [] 0 = true := by decide +kernel
set_option maxRecDepth 100000 in
theorem hb_t60_0 : sy_ckT hb_cl hb_lt hb_P (hb_P ++ [hb_m302]) hb_GM (px_Hq hb_B) (px_g2 hb_AB) hb_A hb_LW hb_Cs 40 hb_zs 302 hb_cuts 6332 (hb_cs 1199 hb_RA hb_FA) 0 [] 0 = true := by decide +kernel
set_option maxRecDepth 100000 in
theorem hb_t61_0 : sy_ckT hb_cl hb_lt hb_P (hb_P ++ [hb_m302]) hb_GM (px_Hq hb_B) (px_g2 hb_AB) hb_A hb_LW hb_Cs 40 hb_zs 302 hb_cuts 6332 (hb_cs 1199 hb_RB hb_FB) 0 [] 0 = true := by decide +kernel

end

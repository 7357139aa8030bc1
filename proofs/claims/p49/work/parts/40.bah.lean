noncomputable section
/-! THE LAW, CUT BY CUT, 8 -/
set_option maxRecDepth 100000 in
theorem hb_t57_0 : sy_ckT hb_cl hb_lt hb_P (hb_P ++ [hb_m302]) hb_GM (px_Hq hb_B) (px_g2 hb_AB) hb_A hb_Wc0 hb_Cs 40 hb_zs 302 hb_cuts 27484 (hb_cs 1143 hb_RB hb_FB) hb_rl0 0 [] 0 = true := by decide +kernel
set_option maxRecDepth 100000 in
theorem hb_t58_0 : sy_ckT hb_cl hb_lt hb_P (hb_P ++ [hb_m302]) hb_GM (px_Hq hb_B) (px_g2 hb_AB) hb_A hb_Wc22 hb_Cs 40 hb_zs 302 hb_cuts 27484 (hb_cs 1166 hb_RA hb_FA) hb_rl22 0 [] 0 = true := by decide +kernel
set_option maxRecDepth 100000 in
theorem hb_t59_0 : sy_ckT hb_cl hb_lt hb_P (hb_P ++ [hb_m302]) hb_GM (px_Hq hb_B) (px_g2 hb_AB) hb_A hb_Wc22 hb_Cs 40 hb_zs 302 hb_cuts 27484 (hb_cs 1166 hb_RB hb_FB) hb_rl22 0 [] 0 = true := by decide +kernel
set_option maxRecDepth 100000 in
theorem hb_t60_0 : sy_ckT hb_cl hb_lt hb_P (hb_P ++ [hb_m302]) hb_GM (px_Hq hb_B) (px_g2 hb_AB) hb_A hb_Wc0 hb_Cs 40 hb_zs 302 hb_cuts 27484 (hb_cs 1199 hb_RA hb_FA) hb_rl0 0 [] 0 = true := by decide +kernel
set_option maxRecDepth 100000 in
theorem hb_t61_0 : sy_ckT hb_cl hb_lt hb_P (hb_P ++ [hb_m302]) hb_GM (px_Hq hb_B) (px_g2 hb_AB) hb_A hb_Wc0 hb_Cs 40 hb_zs 302 hb_cuts 27484 (hb_cs 1199 hb_RB hb_FB) hb_rl0 0 [] 0 = true := by decide +kernel
set_option maxRecDepth 100000 in
theorem hb_t62_0 : sy_ckT hb_cl hb_lt hb_P (hb_P ++ [hb_m302]) hb_GM (px_Hq hb_B) (px_g2 hb_AB) hb_A hb_Wc23 hb_Cs 40 hb_zs 302 hb_cuts 27484 (hb_cs 1222 hb_RA hb_FA) hb_rl23 0 [] 0 = true := by decide +kernel

end

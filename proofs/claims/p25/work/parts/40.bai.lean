noncomputable section
/-! THE LAW, CUT BY CUT, 9 -/
set_option maxRecDepth 100000 in
theorem hb_t47_0 : sy_ckT hb_cl hb_lt hb_P (hb_P ++ [hb_m302]) hb_GM (px_Hq hb_B) (px_g2 hb_AB) hb_A hb_Wc20 hb_Cs 40 hb_zs 302 hb_cuts 5216 (hb_cs 1008 hb_RB hb_FB) hb_rl20 21 [8] 0 = true := by decide +kernel
set_option maxRecDepth 100000 in
theorem hb_t47_1 : sy_ckT hb_cl hb_lt hb_P (hb_P ++ [hb_m302]) hb_GM (px_Hq hb_B) (px_g2 hb_AB) hb_A hb_Wc20 hb_Cs 40 hb_zs 302 hb_cuts 5216 (hb_cs 1008 hb_RB hb_FB) hb_rl20 21 [8] 1 = true := by decide +kernel
set_option maxRecDepth 100000 in
theorem hb_s48 : sy_ckQ hb_cl hb_lt hb_P (hb_P ++ [hb_m302]) hb_GM (px_Hq hb_B) (px_g2 hb_AB) hb_A hb_Wc0 hb_Cs 40 hb_zs 302 hb_cuts 5216 hb_K91_126 hb_PC 0 (hb_cs 1031 hb_RA hb_FA) hb_rl21 = true := by decide +kernel
set_option maxRecDepth 100000 in
theorem hb_s49 : sy_ckQ hb_cl hb_lt hb_P (hb_P ++ [hb_m302]) hb_GM (px_Hq hb_B) (px_g2 hb_AB) hb_A hb_Wc0 hb_Cs 40 hb_zs 302 hb_cuts 5216 hb_K91_126 hb_PC 0 (hb_cs 1031 hb_RB hb_FB) hb_rl21 = true := by decide +kernel
set_option maxRecDepth 100000 in
theorem hb_t50_0 : sy_ckT hb_cl hb_lt hb_P (hb_P ++ [hb_m302]) hb_GM (px_Hq hb_B) (px_g2 hb_AB) hb_A hb_Wc0 hb_Cs 40 hb_zs 302 hb_cuts 5216 (hb_cs 1054 hb_RA hb_FA) hb_rl0 0 [] 0 = true := by decide +kernel

end

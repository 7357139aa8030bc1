noncomputable section
/-! THE LAW, CUT BY CUT, 25 -/
set_option maxRecDepth 100000 in
theorem hb_t97_4 : sy_ckT hb_cl hb_lt hb_P (hb_P ++ [hb_m302]) hb_GM (px_Hq hb_B) (px_g2 hb_AB) hb_A hb_Wc34 hb_Cs 40 hb_zs 302 hb_cuts 27484 (hb_cs 1823 hb_RB hb_FB) hb_rl34 104 [7, 2, 2, 2] 4 = true := by decide +kernel
set_option maxRecDepth 100000 in
theorem hb_t98_0 : sy_ckT hb_cl hb_lt hb_P (hb_P ++ [hb_m302]) hb_GM (px_Hq hb_B) (px_g2 hb_AB) hb_A hb_Wc0 hb_Cs 40 hb_zs 302 hb_cuts 27484 (hb_cs 1866 hb_RA hb_FA) hb_rl0 0 [] 0 = true := by decide +kernel
set_option maxRecDepth 100000 in
theorem hb_t99_0 : sy_ckT hb_cl hb_lt hb_P (hb_P ++ [hb_m302]) hb_GM (px_Hq hb_B) (px_g2 hb_AB) hb_A hb_Wc0 hb_Cs 40 hb_zs 302 hb_cuts 27484 (hb_cs 1866 hb_RB hb_FB) hb_rl0 0 [] 0 = true := by decide +kernel
set_option maxRecDepth 100000 in
theorem hb_t100_0 : sy_ckT hb_cl hb_lt hb_P (hb_P ++ [hb_m302]) hb_GM (px_Hq hb_B) (px_g2 hb_AB) hb_A hb_Wc0 hb_Cs 40 hb_zs 302 hb_cuts 27484 (hb_cs 1889 hb_RA hb_FA) hb_rl0 0 [] 0 = true := by decide +kernel
set_option maxRecDepth 100000 in
theorem hb_t101_0 : sy_ckT hb_cl hb_lt hb_P (hb_P ++ [hb_m302]) hb_GM (px_Hq hb_B) (px_g2 hb_AB) hb_A hb_Wc0 hb_Cs 40 hb_zs 302 hb_cuts 27484 (hb_cs 1889 hb_RB hb_FB) hb_rl0 0 [] 0 = true := by decide +kernel
set_option maxRecDepth 100000 in
theorem hb_t102_0 : sy_ckT hb_cl hb_lt hb_P (hb_P ++ [hb_m302]) hb_GM (px_Hq hb_B) (px_g2 hb_AB) hb_A hb_Wc35 hb_Cs 40 hb_zs 302 hb_cuts 27484 (hb_cs 1912 hb_RA hb_FA) hb_rl35 0 [] 0 = true := by decide +kernel

end

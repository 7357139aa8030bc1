noncomputable section
/-! THE LAW, CUT BY CUT, 4 -/
set_option maxRecDepth 100000 in
theorem hb_t102_0 : sy_ckT hb_cl hb_lt hb_P (hb_P ++ [hb_m302]) hb_GM (px_Hq hb_B) (px_g2 hb_AB) hb_A hb_LW hb_Cs 40 hb_zs 302 hb_cuts 6530 (hb_cs 1912 hb_RA hb_FA) 0 [] 0 = true := by decide +kernel
set_option maxRecDepth 100000 in
theorem hb_t103_0 : sy_ckT hb_cl hb_lt hb_P (hb_P ++ [hb_m302]) hb_GM (px_Hq hb_B) (px_g2 hb_AB) hb_A hb_LW hb_Cs 40 hb_zs 302 hb_cuts 6530 (hb_cs 1912 hb_RB hb_FB) 0 [] 0 = true := by decide +kernel
set_option maxRecDepth 100000 in
theorem hb_t104_0 : sy_ckT hb_cl hb_lt hb_P (hb_P ++ [hb_m302]) hb_GM (px_Hq hb_B) (px_g2 hb_AB) hb_A hb_LW hb_Cs 40 hb_zs 302 hb_cuts 6530 (hb_cs 1925 hb_RA hb_FA) 0 [] 0 = true := by decide +kernel
set_option maxRecDepth 100000 in
theorem hb_t105_0 : sy_ckT hb_cl hb_lt hb_P (hb_P ++ [hb_m302]) hb_GM (px_Hq hb_B) (px_g2 hb_AB) hb_A hb_LW hb_Cs 40 hb_zs 302 hb_cuts 6530 (hb_cs 1925 hb_RB hb_FB) 0 [] 0 = true := by decide +kernel

end

noncomputable section
/-! THE LAW, CUT BY CUT, 1 -/
set_option maxRecDepth 100000 in
theorem hb_t0_0 : sy_ckT hb_cl hb_lt hb_P (hb_P ++ [hb_m302]) hb_GM (px_Hq hb_B) (px_g2 hb_AB) hb_A hb_LW hb_Cs 40 hb_zs 302 hb_cuts 2064 (hb_hd hb_RA hb_FA) 0 [] 0 = true := by decide +kernel
set_option maxRecDepth 100000 in
theorem hb_t1_0 : sy_ckT hb_cl hb_lt hb_P (hb_P ++ [hb_m302]) hb_GM (px_Hq hb_B) (px_g2 hb_AB) hb_A hb_LW hb_Cs 40 hb_zs 302 hb_cuts 2064 (hb_hd hb_RB hb_FB) 0 [] 0 = true := by decide +kernel
set_option maxRecDepth 100000 in
theorem hb_t2_0 : sy_ckT hb_cl hb_lt hb_P (hb_P ++ [hb_m302]) hb_GM (px_Hq hb_B) (px_g2 hb_AB) hb_A hb_LW hb_Cs 40 hb_zs 302 hb_cuts 2064 (hb_cs 256 hb_RA hb_FA) 0 [] 0 = true := by decide +kernel
set_option maxRecDepth 100000 in
theorem hb_t3_0 : sy_ckT hb_cl hb_lt hb_P (hb_P ++ [hb_m302]) hb_GM (px_Hq hb_B) (px_g2 hb_AB) hb_A hb_LW hb_Cs 40 hb_zs 302 hb_cuts 2064 (hb_cs 256 hb_RB hb_FB) 0 [] 0 = true := by decide +kernel
set_option maxRecDepth 100000 in
theorem hb_t4_0 : sy_ckT hb_cl hb_lt hb_P (hb_P ++ [hb_m302]) hb_GM (px_Hq hb_B) (px_g2 hb_AB) hb_A hb_LW hb_Cs 40 hb_zs 302 hb_cuts 2064 (hb_cs 279 hb_RA hb_FA) 0 [] 0 = true := by decide +kernel
set_option maxRecDepth 100000 in
theorem hb_t5_0 : sy_ckT hb_cl hb_lt hb_P (hb_P ++ [hb_m302]) hb_GM (px_Hq hb_B) (px_g2 hb_AB) hb_A hb_LW hb_Cs 40 hb_zs 302 hb_cuts 2064 (hb_cs 279 hb_RB hb_FB) 0 [] 0 = true := by decide +kernel
set_option maxRecDepth 100000 in
theorem hb_t6_0 : sy_ckT hb_cl hb_lt hb_P (hb_P ++ [hb_m302]) hb_GM (px_Hq hb_B) (px_g2 hb_AB) hb_A hb_LW hb_Cs 40 hb_zs 302 hb_cuts 2064 (hb_cs 322 hb_RA hb_FA) 0 [] 0 = true := by decide +kernel
set_option maxRecDepth 100000 in
theorem hb_t7_0 : sy_ckT hb_cl hb_lt hb_P (hb_P ++ [hb_m302]) hb_GM (px_Hq hb_B) (px_g2 hb_AB) hb_A hb_LW hb_Cs 40 hb_zs 302 hb_cuts 2064 (hb_cs 322 hb_RB hb_FB) 0 [] 0 = true := by decide +kernel
set_option maxRecDepth 100000 in
theorem hb_t8_0 : sy_ckT hb_cl hb_lt hb_P (hb_P ++ [hb_m302]) hb_GM (px_Hq hb_B) (px_g2 hb_AB) hb_A hb_LW hb_Cs 40 hb_zs 302 hb_cuts 2064 (hb_cs 355 hb_RA hb_FA) 0 [] 0 = true := by decide +kernel
set_option maxRecDepth 100000 in
theorem hb_t9_0 : sy_ckT hb_cl hb_lt hb_P (hb_P ++ [hb_m302]) hb_GM (px_Hq hb_B) (px_g2 hb_AB) hb_A hb_LW hb_Cs 40 hb_zs 302 hb_cuts 2064 (hb_cs 355 hb_RB hb_FB) 0 [] 0 = true := by decide +kernel
set_option maxRecDepth 100000 in
theorem hb_t10_0 : sy_ckT hb_cl hb_lt hb_P (hb_P ++ [hb_m302]) hb_GM (px_Hq hb_B) (px_g2 hb_AB) hb_A hb_LW hb_Cs 40 hb_zs 302 hb_cuts 2064 (hb_cs 404 hb_RA hb_FA) 0 [] 0 = true := by decide +kernel

end

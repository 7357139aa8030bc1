noncomputable section
/-! THE LAW, CUT BY CUT, 4 -/
set_option maxRecDepth 100000 in
theorem hb_t64_0 : sy_ckT hb_cl hb_lt hb_P (hb_P ++ [hb_m302]) hb_GM (px_Hq hb_B) (px_g2 hb_AB) hb_A hb_LW hb_Cs 40 hb_zs 302 hb_cuts 5004 (hb_cs 1245 hb_RA hb_FA) 29 [5, 3, 3] 0 = true := by decide +kernel
set_option maxRecDepth 100000 in
theorem hb_t64_1 : sy_ckT hb_cl hb_lt hb_P (hb_P ++ [hb_m302]) hb_GM (px_Hq hb_B) (px_g2 hb_AB) hb_A hb_LW hb_Cs 40 hb_zs 302 hb_cuts 5004 (hb_cs 1245 hb_RA hb_FA) 29 [5, 3, 3] 1 = true := by decide +kernel
set_option maxRecDepth 100000 in
theorem hb_t64_2 : sy_ckT hb_cl hb_lt hb_P (hb_P ++ [hb_m302]) hb_GM (px_Hq hb_B) (px_g2 hb_AB) hb_A hb_LW hb_Cs 40 hb_zs 302 hb_cuts 5004 (hb_cs 1245 hb_RA hb_FA) 29 [5, 3, 3] 2 = true := by decide +kernel
set_option maxRecDepth 100000 in
theorem hb_t64_3 : sy_ckT hb_cl hb_lt hb_P (hb_P ++ [hb_m302]) hb_GM (px_Hq hb_B) (px_g2 hb_AB) hb_A hb_LW hb_Cs 40 hb_zs 302 hb_cuts 5004 (hb_cs 1245 hb_RA hb_FA) 29 [5, 3, 3] 3 = true := by decide +kernel

end

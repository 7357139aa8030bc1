noncomputable section
/-! THE LAW, CUT BY CUT, 6 -/
set_option maxRecDepth 100000 in
theorem hb_t63_2 : sy_ckT hb_cl hb_lt hb_P (hb_P ++ [hb_m302]) hb_GM (px_Hq hb_B) (px_g2 hb_AB) hb_A hb_Wc23 hb_Cs 40 hb_zs 302 hb_cuts 14424 (hb_cs 1222 hb_RB hb_FB) hb_rl23 13 [3, 3, 3, 3] 2 = true := by decide +kernel
set_option maxRecDepth 100000 in
theorem hb_t63_3 : sy_ckT hb_cl hb_lt hb_P (hb_P ++ [hb_m302]) hb_GM (px_Hq hb_B) (px_g2 hb_AB) hb_A hb_Wc23 hb_Cs 40 hb_zs 302 hb_cuts 14424 (hb_cs 1222 hb_RB hb_FB) hb_rl23 13 [3, 3, 3, 3] 3 = true := by decide +kernel
set_option maxRecDepth 100000 in
theorem hb_t63_4 : sy_ckT hb_cl hb_lt hb_P (hb_P ++ [hb_m302]) hb_GM (px_Hq hb_B) (px_g2 hb_AB) hb_A hb_Wc23 hb_Cs 40 hb_zs 302 hb_cuts 14424 (hb_cs 1222 hb_RB hb_FB) hb_rl23 13 [3, 3, 3, 3] 4 = true := by decide +kernel

end

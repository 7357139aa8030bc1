noncomputable section
/-! THE LAW, CUT BY CUT, 12 -/
set_option maxRecDepth 100000 in
theorem hb_t5_4 : sy_ckT hb_cl hb_lt hb_P (hb_P ++ [hb_m302]) hb_GM (px_Hq hb_B) (px_g2 hb_AB) hb_A hb_LW hb_Cs 40 hb_zs 302 hb_cuts 15866 (hb_cs 279 hb_RB hb_FB) 93 [8, 4, 4, 4, 10, 8] 4 = true := by decide +kernel

end

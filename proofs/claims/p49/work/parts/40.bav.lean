noncomputable section
/-! THE LAW, CUT BY CUT, 22 -/
set_option maxRecDepth 100000 in
theorem hb_t97_1 : sy_ckT hb_cl hb_lt hb_P (hb_P ++ [hb_m302]) hb_GM (px_Hq hb_B) (px_g2 hb_AB) hb_A hb_Wc34 hb_Cs 40 hb_zs 302 hb_cuts 27484 (hb_cs 1823 hb_RB hb_FB) hb_rl34 104 [7, 2, 2, 2] 1 = true := by decide +kernel

end

noncomputable section
/-! THE LAW, CUT BY CUT, 8 -/
set_option maxRecDepth 100000 in
theorem hb_s65 : sy_ckQ hb_cl hb_lt hb_P (hb_P ++ [hb_m302]) hb_GM (px_Hq hb_B) (px_g2 hb_AB) hb_A hb_Wc24 hb_Cs 40 hb_zs 302 hb_cuts 14424 hb_K119_137 hb_PC 1 (hb_cs 1245 hb_RB hb_FB) hb_rl24 = true := by decide +kernel

end

noncomputable section
/-! THE LAW, CUT BY CUT, 3 -/
set_option maxRecDepth 100000 in
theorem hb_t69_0 : sy_ckT hb_cl hb_lt hb_P (hb_P ++ [hb_m302]) hb_GM (px_Hq hb_B) (px_g2 hb_AB) hb_A hb_LW hb_Cs 40 hb_zs 302 hb_cuts 6530 (hb_cs 1291 hb_RB hb_FB) 0 [] 0 = true := by decide +kernel
set_option maxRecDepth 100000 in
theorem hb_t70_0 : sy_ckT hb_cl hb_lt hb_P (hb_P ++ [hb_m302]) hb_GM (px_Hq hb_B) (px_g2 hb_AB) hb_A hb_LW hb_Cs 40 hb_zs 302 hb_cuts 6530 (hb_cs 1354 hb_RA hb_FA) 0 [] 0 = true := by decide +kernel
set_option maxRecDepth 100000 in
theorem hb_t71_0 : sy_ckT hb_cl hb_lt hb_P (hb_P ++ [hb_m302]) hb_GM (px_Hq hb_B) (px_g2 hb_AB) hb_A hb_LW hb_Cs 40 hb_zs 302 hb_cuts 6530 (hb_cs 1354 hb_RB hb_FB) 0 [] 0 = true := by decide +kernel
set_option maxRecDepth 100000 in
theorem hb_t72_0 : sy_ckT hb_cl hb_lt hb_P (hb_P ++ [hb_m302]) hb_GM (px_Hq hb_B) (px_g2 hb_AB) hb_A hb_LW hb_Cs 40 hb_zs 302 hb_cuts 6530 (hb_cs 1367 hb_RA hb_FA) 0 [] 0 = true := by decide +kernel
set_option maxRecDepth 100000 in
theorem hb_t73_0 : sy_ckT hb_cl hb_lt hb_P (hb_P ++ [hb_m302]) hb_GM (px_Hq hb_B) (px_g2 hb_AB) hb_A hb_LW hb_Cs 40 hb_zs 302 hb_cuts 6530 (hb_cs 1367 hb_RB hb_FB) 0 [] 0 = true := by decide +kernel
set_option maxRecDepth 100000 in
theorem hb_t74_0 : sy_ckT hb_cl hb_lt hb_P (hb_P ++ [hb_m302]) hb_GM (px_Hq hb_B) (px_g2 hb_AB) hb_A hb_LW hb_Cs 40 hb_zs 302 hb_cuts 6530 (hb_cs 1400 hb_RA hb_FA) 0 [] 0 = true := by decide +kernel
set_option maxRecDepth 100000 in
theorem hb_t75_0 : sy_ckT hb_cl hb_lt hb_P (hb_P ++ [hb_m302]) hb_GM (px_Hq hb_B) (px_g2 hb_AB) hb_A hb_LW hb_Cs 40 hb_zs 302 hb_cuts 6530 (hb_cs 1400 hb_RB hb_FB) 0 [] 0 = true := by decide +kernel
set_option maxRecDepth 100000 in
theorem hb_t76_0 : sy_ckT hb_cl hb_lt hb_P (hb_P ++ [hb_m302]) hb_GM (px_Hq hb_B) (px_g2 hb_AB) hb_A hb_LW hb_Cs 40 hb_zs 302 hb_cuts 6530 (hb_cs 1423 hb_RA hb_FA) 0 [] 0 = true := by decide +kernel
set_option maxRecDepth 100000 in
theorem hb_t77_0 : sy_ckT hb_cl hb_lt hb_P (hb_P ++ [hb_m302]) hb_GM (px_Hq hb_B) (px_g2 hb_AB) hb_A hb_LW hb_Cs 40 hb_zs 302 hb_cuts 6530 (hb_cs 1423 hb_RB hb_FB) 0 [] 0 = true := by decide +kernel
set_option maxRecDepth 100000 in
theorem hb_t78_0 : sy_ckT hb_cl hb_lt hb_P (hb_P ++ [hb_m302]) hb_GM (px_Hq hb_B) (px_g2 hb_AB) hb_A hb_LW hb_Cs 40 hb_zs 302 hb_cuts 6530 (hb_cs 1456 hb_RA hb_FA) 0 [] 0 = true := by decide +kernel
set_option maxRecDepth 100000 in
theorem hb_t79_0 : sy_ckT hb_cl hb_lt hb_P (hb_P ++ [hb_m302]) hb_GM (px_Hq hb_B) (px_g2 hb_AB) hb_A hb_LW hb_Cs 40 hb_zs 302 hb_cuts 6530 (hb_cs 1456 hb_RB hb_FB) 0 [] 0 = true := by decide +kernel
set_option maxRecDepth 100000 in
theorem hb_t80_0 : sy_ckT hb_cl hb_lt hb_P (hb_P ++ [hb_m302]) hb_GM (px_Hq hb_B) (px_g2 hb_AB) hb_A hb_LW hb_Cs 40 hb_zs 302 hb_cuts 6530 (hb_cs 1489 hb_RA hb_FA) 0 [] 0 = true := by decide +kernel
set_option maxRecDepth 100000 in
theorem hb_t81_0 : sy_ckT hb_cl hb_lt hb_P (hb_P ++ [hb_m302]) hb_GM (px_Hq hb_B) (px_g2 hb_AB) hb_A hb_LW hb_Cs 40 hb_zs 302 hb_cuts 6530 (hb_cs 1489 hb_RB hb_FB) 0 [] 0 = true := by decide +kernel
set_option maxRecDepth 100000 in
theorem hb_t82_0 : sy_ckT hb_cl hb_lt hb_P (hb_P ++ [hb_m302]) hb_GM (px_Hq hb_B) (px_g2 hb_AB) hb_A hb_LW hb_Cs 40 hb_zs 302 hb_cuts 6530 (hb_cs 1522 hb_RA hb_FA) 0 [] 0 = true := by decide +kernel
set_option maxRecDepth 100000 in
theorem hb_t83_0 : sy_ckT hb_cl hb_lt hb_P (hb_P ++ [hb_m302]) hb_GM (px_Hq hb_B) (px_g2 hb_AB) hb_A hb_LW hb_Cs 40 hb_zs 302 hb_cuts 6530 (hb_cs 1522 hb_RB hb_FB) 0 [] 0 = true := by decide +kernel
set_option maxRecDepth 100000 in
theorem hb_t84_0 : sy_ckT hb_cl hb_lt hb_P (hb_P ++ [hb_m302]) hb_GM (px_Hq hb_B) (px_g2 hb_AB) hb_A hb_LW hb_Cs 40 hb_zs 302 hb_cuts 6530 (hb_cs 1555 hb_RA hb_FA) 0 [] 0 = true := by decide +kernel
set_option maxRecDepth 100000 in
theorem hb_t85_0 : sy_ckT hb_cl hb_lt hb_P (hb_P ++ [hb_m302]) hb_GM (px_Hq hb_B) (px_g2 hb_AB) hb_A hb_LW hb_Cs 40 hb_zs 302 hb_cuts 6530 (hb_cs 1555 hb_RB hb_FB) 0 [] 0 = true := by decide +kernel
set_option maxRecDepth 100000 in
theorem hb_t86_0 : sy_ckT hb_cl hb_lt hb_P (hb_P ++ [hb_m302]) hb_GM (px_Hq hb_B) (px_g2 hb_AB) hb_A hb_LW hb_Cs 40 hb_zs 302 hb_cuts 6530 (hb_cs 1598 hb_RA hb_FA) 0 [] 0 = true := by decide +kernel
set_option maxRecDepth 100000 in
theorem hb_t87_0 : sy_ckT hb_cl hb_lt hb_P (hb_P ++ [hb_m302]) hb_GM (px_Hq hb_B) (px_g2 hb_AB) hb_A hb_LW hb_Cs 40 hb_zs 302 hb_cuts 6530 (hb_cs 1598 hb_RB hb_FB) 0 [] 0 = true := by decide +kernel
set_option maxRecDepth 100000 in
theorem hb_t88_0 : sy_ckT hb_cl hb_lt hb_P (hb_P ++ [hb_m302]) hb_GM (px_Hq hb_B) (px_g2 hb_AB) hb_A hb_LW hb_Cs 40 hb_zs 302 hb_cuts 6530 (hb_cs 1641 hb_RA hb_FA) 0 [] 0 = true := by decide +kernel
set_option maxRecDepth 100000 in
theorem hb_t89_0 : sy_ckT hb_cl hb_lt hb_P (hb_P ++ [hb_m302]) hb_GM (px_Hq hb_B) (px_g2 hb_AB) hb_A hb_LW hb_Cs 40 hb_zs 302 hb_cuts 6530 (hb_cs 1641 hb_RB hb_FB) 0 [] 0 = true := by decide +kernel
set_option maxRecDepth 100000 in
theorem hb_t90_0 : sy_ckT hb_cl hb_lt hb_P (hb_P ++ [hb_m302]) hb_GM (px_Hq hb_B) (px_g2 hb_AB) hb_A hb_LW hb_Cs 40 hb_zs 302 hb_cuts 6530 (hb_cs 1684 hb_RA hb_FA) 0 [] 0 = true := by decide +kernel
set_option maxRecDepth 100000 in
theorem hb_t91_0 : sy_ckT hb_cl hb_lt hb_P (hb_P ++ [hb_m302]) hb_GM (px_Hq hb_B) (px_g2 hb_AB) hb_A hb_LW hb_Cs 40 hb_zs 302 hb_cuts 6530 (hb_cs 1684 hb_RB hb_FB) 0 [] 0 = true := by decide +kernel
set_option maxRecDepth 100000 in
theorem hb_t92_0 : sy_ckT hb_cl hb_lt hb_P (hb_P ++ [hb_m302]) hb_GM (px_Hq hb_B) (px_g2 hb_AB) hb_A hb_LW hb_Cs 40 hb_zs 302 hb_cuts 6530 (hb_cs 1747 hb_RA hb_FA) 0 [] 0 = true := by decide +kernel
set_option maxRecDepth 100000 in
theorem hb_t93_0 : sy_ckT hb_cl hb_lt hb_P (hb_P ++ [hb_m302]) hb_GM (px_Hq hb_B) (px_g2 hb_AB) hb_A hb_LW hb_Cs 40 hb_zs 302 hb_cuts 6530 (hb_cs 1747 hb_RB hb_FB) 0 [] 0 = true := by decide +kernel
set_option maxRecDepth 100000 in
theorem hb_t94_0 : sy_ckT hb_cl hb_lt hb_P (hb_P ++ [hb_m302]) hb_GM (px_Hq hb_B) (px_g2 hb_AB) hb_A hb_LW hb_Cs 40 hb_zs 302 hb_cuts 6530 (hb_cs 1790 hb_RA hb_FA) 0 [] 0 = true := by decide +kernel
set_option maxRecDepth 100000 in
theorem hb_t95_0 : sy_ckT hb_cl hb_lt hb_P (hb_P ++ [hb_m302]) hb_GM (px_Hq hb_B) (px_g2 hb_AB) hb_A hb_LW hb_Cs 40 hb_zs 302 hb_cuts 6530 (hb_cs 1790 hb_RB hb_FB) 0 [] 0 = true := by decide +kernel
set_option maxRecDepth 100000 in
theorem hb_t96_0 : sy_ckT hb_cl hb_lt hb_P (hb_P ++ [hb_m302]) hb_GM (px_Hq hb_B) (px_g2 hb_AB) hb_A hb_LW hb_Cs 40 hb_zs 302 hb_cuts 6530 (hb_cs 1823 hb_RA hb_FA) 0 [] 0 = true := by decide +kernel
set_option maxRecDepth 100000 in
theorem hb_t97_0 : sy_ckT hb_cl hb_lt hb_P (hb_P ++ [hb_m302]) hb_GM (px_Hq hb_B) (px_g2 hb_AB) hb_A hb_LW hb_Cs 40 hb_zs 302 hb_cuts 6530 (hb_cs 1823 hb_RB hb_FB) 0 [] 0 = true := by decide +kernel
set_option maxRecDepth 100000 in
theorem hb_t98_0 : sy_ckT hb_cl hb_lt hb_P (hb_P ++ [hb_m302]) hb_GM (px_Hq hb_B) (px_g2 hb_AB) hb_A hb_LW hb_Cs 40 hb_zs 302 hb_cuts 6530 (hb_cs 1866 hb_RA hb_FA) 0 [] 0 = true := by decide +kernel
set_option maxRecDepth 100000 in
theorem hb_t99_0 : sy_ckT hb_cl hb_lt hb_P (hb_P ++ [hb_m302]) hb_GM (px_Hq hb_B) (px_g2 hb_AB) hb_A hb_LW hb_Cs 40 hb_zs 302 hb_cuts 6530 (hb_cs 1866 hb_RB hb_FB) 0 [] 0 = true := by decide +kernel
set_option maxRecDepth 100000 in
theorem hb_t100_0 : sy_ckT hb_cl hb_lt hb_P (hb_P ++ [hb_m302]) hb_GM (px_Hq hb_B) (px_g2 hb_AB) hb_A hb_LW hb_Cs 40 hb_zs 302 hb_cuts 6530 (hb_cs 1889 hb_RA hb_FA) 0 [] 0 = true := by decide +kernel
set_option maxRecDepth 100000 in
theorem hb_t101_0 : sy_ckT hb_cl hb_lt hb_P (hb_P ++ [hb_m302]) hb_GM (px_Hq hb_B) (px_g2 hb_AB) hb_A hb_LW hb_Cs 40 hb_zs 302 hb_cuts 6530 (hb_cs 1889 hb_RB hb_FB) 0 [] 0 = true := by decide +kernel

end

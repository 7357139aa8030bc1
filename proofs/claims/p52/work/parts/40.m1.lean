/-! THE LAW, CASE BY CASE -/
set_option maxRecDepth 100000 in
theorem hb_ca0 : sy_ckL hb_cl hb_lt hb_P (hb_P ++ [hb_m302]) hb_A hb_LW hb_Cs 40 302 hb_cuts 636 hb_hd = true := by decide +kernel
set_option maxRecDepth 100000 in
theorem hb_ca1 : sy_ckL hb_cl hb_lt hb_P (hb_P ++ [hb_m302]) hb_A hb_LW hb_Cs 40 302 hb_cuts 636 (hb_cs 256) = true := by decide +kernel
set_option maxRecDepth 100000 in
theorem hb_ca2 : sy_ckL hb_cl hb_lt hb_P (hb_P ++ [hb_m302]) hb_A hb_LW hb_Cs 40 302 hb_cuts 636 (hb_cs 279) = true := by decide +kernel
set_option maxRecDepth 100000 in
theorem hb_ca3 : sy_ckL hb_cl hb_lt hb_P (hb_P ++ [hb_m302]) hb_A hb_LW hb_Cs 40 302 hb_cuts 636 (hb_cs 322) = true := by decide +kernel
set_option maxRecDepth 100000 in
theorem hb_ca4 : sy_ckL hb_cl hb_lt hb_P (hb_P ++ [hb_m302]) hb_A hb_LW hb_Cs 40 302 hb_cuts 636 (hb_cs 355) = true := by decide +kernel
set_option maxRecDepth 100000 in
theorem hb_ca5 : sy_ckL hb_cl hb_lt hb_P (hb_P ++ [hb_m302]) hb_A hb_LW hb_Cs 40 302 hb_cuts 636 (hb_cs 404) = true := by decide +kernel
set_option maxRecDepth 100000 in
theorem hb_ca6 : sy_ckL hb_cl hb_lt hb_P (hb_P ++ [hb_m302]) hb_A hb_LW hb_Cs 40 302 hb_cuts 636 (hb_cs 437) = true := by decide +kernel
set_option maxRecDepth 100000 in
theorem hb_ca7 : sy_ckL hb_cl hb_lt hb_P (hb_P ++ [hb_m302]) hb_A hb_LW hb_Cs 40 302 hb_cuts 636 (hb_cs 450) = true := by decide +kernel
set_option maxRecDepth 100000 in
theorem hb_ca8 : sy_ckL hb_cl hb_lt hb_P (hb_P ++ [hb_m302]) hb_A hb_LW hb_Cs 40 302 hb_cuts 636 (hb_cs 483) = true := by decide +kernel
set_option maxRecDepth 100000 in
theorem hb_ca9 : sy_ckL hb_cl hb_lt hb_P (hb_P ++ [hb_m302]) hb_A hb_LW hb_Cs 40 302 hb_cuts 636 (hb_cs 536) = true := by decide +kernel
set_option maxRecDepth 100000 in
theorem hb_ca10 : sy_ckL hb_cl hb_lt hb_P (hb_P ++ [hb_m302]) hb_A hb_LW hb_Cs 40 302 hb_cuts 636 (hb_cs 559) = true := by decide +kernel
set_option maxRecDepth 100000 in
theorem hb_ca11 : sy_ckL hb_cl hb_lt hb_P (hb_P ++ [hb_m302]) hb_A hb_LW hb_Cs 40 302 hb_cuts 636 (hb_cs 612) = true := by decide +kernel
set_option maxRecDepth 100000 in
theorem hb_ca12 : sy_ckL hb_cl hb_lt hb_P (hb_P ++ [hb_m302]) hb_A hb_LW hb_Cs 40 302 hb_cuts 636 (hb_cs 665) = true := by decide +kernel
set_option maxRecDepth 100000 in
theorem hb_ca13 : sy_ckL hb_cl hb_lt hb_P (hb_P ++ [hb_m302]) hb_A hb_LW hb_Cs 40 302 hb_cuts 636 (hb_cs 698) = true := by decide +kernel
set_option maxRecDepth 100000 in
theorem hb_ca14 : sy_ckL hb_cl hb_lt hb_P (hb_P ++ [hb_m302]) hb_A hb_LW hb_Cs 40 302 hb_cuts 636 (hb_cs 751) = true := by decide +kernel
set_option maxRecDepth 100000 in
theorem hb_ca15 : sy_ckL hb_cl hb_lt hb_P (hb_P ++ [hb_m302]) hb_A hb_LW hb_Cs 40 302 hb_cuts 636 (hb_cs 774) = true := by decide +kernel
set_option maxRecDepth 100000 in
theorem hb_ca16 : sy_ckL hb_cl hb_lt hb_P (hb_P ++ [hb_m302]) hb_A hb_LW hb_Cs 40 302 hb_cuts 636 (hb_cs 787) = true := by decide +kernel
set_option maxRecDepth 100000 in
theorem hb_ca17 : sy_ckL hb_cl hb_lt hb_P (hb_P ++ [hb_m302]) hb_A hb_LW hb_Cs 40 302 hb_cuts 636 (hb_cs 800) = true := by decide +kernel
set_option maxRecDepth 100000 in
theorem hb_ca18 : sy_ckL hb_cl hb_lt hb_P (hb_P ++ [hb_m302]) hb_A hb_LW hb_Cs 40 302 hb_cuts 636 (hb_cs 833) = true := by decide +kernel
set_option maxRecDepth 100000 in
theorem hb_ca19 : sy_ckL hb_cl hb_lt hb_P (hb_P ++ [hb_m302]) hb_A hb_LW hb_Cs 40 302 hb_cuts 636 (hb_cs 876) = true := by decide +kernel
set_option maxRecDepth 100000 in
theorem hb_ca20 : sy_ckL hb_cl hb_lt hb_P (hb_P ++ [hb_m302]) hb_A hb_LW hb_Cs 40 302 hb_cuts 636 (hb_cs 889) = true := by decide +kernel
set_option maxRecDepth 100000 in
theorem hb_ca21 : sy_ckL hb_cl hb_lt hb_P (hb_P ++ [hb_m302]) hb_A hb_LW hb_Cs 40 302 hb_cuts 636 (hb_cs 932) = true := by decide +kernel
set_option maxRecDepth 100000 in
theorem hb_ca22 : sy_ckL hb_cl hb_lt hb_P (hb_P ++ [hb_m302]) hb_A hb_LW hb_Cs 40 302 hb_cuts 636 (hb_cs 985) = true := by decide +kernel
set_option maxRecDepth 100000 in
theorem hb_ca23 : sy_ckL hb_cl hb_lt hb_P (hb_P ++ [hb_m302]) hb_A hb_LW hb_Cs 40 302 hb_cuts 636 (hb_cs 1008) = true := by decide +kernel
set_option maxRecDepth 100000 in
theorem hb_ca24 : sy_ckL hb_cl hb_lt hb_P (hb_P ++ [hb_m302]) hb_A hb_LW hb_Cs 40 302 hb_cuts 636 (hb_cs 1031) = true := by decide +kernel
set_option maxRecDepth 100000 in
theorem hb_ca25 : sy_ckL hb_cl hb_lt hb_P (hb_P ++ [hb_m302]) hb_A hb_LW hb_Cs 40 302 hb_cuts 636 (hb_cs 1054) = true := by decide +kernel

/-! THE LAW, CASE BY CASE -/
set_option maxRecDepth 100000 in
theorem hb_ca26 : sy_ckL hb_cl hb_lt hb_P (hb_P ++ [hb_m302]) hb_A hb_LW hb_Cs 40 302 hb_cuts 636 (hb_cs 1077) = true := by decide +kernel
set_option maxRecDepth 100000 in
theorem hb_ca27 : sy_ckL hb_cl hb_lt hb_P (hb_P ++ [hb_m302]) hb_A hb_LW hb_Cs 40 302 hb_cuts 636 (hb_cs 1120) = true := by decide +kernel
set_option maxRecDepth 100000 in
theorem hb_ca28 : sy_ckL hb_cl hb_lt hb_P (hb_P ++ [hb_m302]) hb_A hb_LW hb_Cs 40 302 hb_cuts 636 (hb_cs 1143) = true := by decide +kernel
set_option maxRecDepth 100000 in
theorem hb_ca29 : sy_ckL hb_cl hb_lt hb_P (hb_P ++ [hb_m302]) hb_A hb_LW hb_Cs 40 302 hb_cuts 636 (hb_cs 1166) = true := by decide +kernel
set_option maxRecDepth 100000 in
theorem hb_ca30 : sy_ckL hb_cl hb_lt hb_P (hb_P ++ [hb_m302]) hb_A hb_LW hb_Cs 40 302 hb_cuts 636 (hb_cs 1199) = true := by decide +kernel
set_option maxRecDepth 100000 in
theorem hb_ca31 : sy_ckL hb_cl hb_lt hb_P (hb_P ++ [hb_m302]) hb_A hb_LW hb_Cs 40 302 hb_cuts 636 (hb_cs 1222) = true := by decide +kernel
set_option maxRecDepth 100000 in
theorem hb_ca32 : sy_ckL hb_cl hb_lt hb_P (hb_P ++ [hb_m302]) hb_A hb_LW hb_Cs 40 302 hb_cuts 636 (hb_cs 1245) = true := by decide +kernel
set_option maxRecDepth 100000 in
theorem hb_ca33 : sy_ckL hb_cl hb_lt hb_P (hb_P ++ [hb_m302]) hb_A hb_LW hb_Cs 40 302 hb_cuts 636 (hb_cs 1268) = true := by decide +kernel
set_option maxRecDepth 100000 in
theorem hb_ca34 : sy_ckL hb_cl hb_lt hb_P (hb_P ++ [hb_m302]) hb_A hb_LW hb_Cs 40 302 hb_cuts 636 (hb_cs 1291) = true := by decide +kernel
set_option maxRecDepth 100000 in
theorem hb_ca35 : sy_ckL hb_cl hb_lt hb_P (hb_P ++ [hb_m302]) hb_A hb_LW hb_Cs 40 302 hb_cuts 636 (hb_cs 1354) = true := by decide +kernel
set_option maxRecDepth 100000 in
theorem hb_ca36 : sy_ckL hb_cl hb_lt hb_P (hb_P ++ [hb_m302]) hb_A hb_LW hb_Cs 40 302 hb_cuts 636 (hb_cs 1367) = true := by decide +kernel
set_option maxRecDepth 100000 in
theorem hb_ca37 : sy_ckL hb_cl hb_lt hb_P (hb_P ++ [hb_m302]) hb_A hb_LW hb_Cs 40 302 hb_cuts 636 (hb_cs 1400) = true := by decide +kernel
set_option maxRecDepth 100000 in
theorem hb_ca38 : sy_ckL hb_cl hb_lt hb_P (hb_P ++ [hb_m302]) hb_A hb_LW hb_Cs 40 302 hb_cuts 636 (hb_cs 1423) = true := by decide +kernel
set_option maxRecDepth 100000 in
theorem hb_ca39 : sy_ckL hb_cl hb_lt hb_P (hb_P ++ [hb_m302]) hb_A hb_LW hb_Cs 40 302 hb_cuts 636 (hb_cs 1456) = true := by decide +kernel
set_option maxRecDepth 100000 in
theorem hb_ca40 : sy_ckL hb_cl hb_lt hb_P (hb_P ++ [hb_m302]) hb_A hb_LW hb_Cs 40 302 hb_cuts 636 (hb_cs 1489) = true := by decide +kernel
set_option maxRecDepth 100000 in
theorem hb_ca41 : sy_ckL hb_cl hb_lt hb_P (hb_P ++ [hb_m302]) hb_A hb_LW hb_Cs 40 302 hb_cuts 636 (hb_cs 1522) = true := by decide +kernel
set_option maxRecDepth 100000 in
theorem hb_ca42 : sy_ckL hb_cl hb_lt hb_P (hb_P ++ [hb_m302]) hb_A hb_LW hb_Cs 40 302 hb_cuts 636 (hb_cs 1555) = true := by decide +kernel
set_option maxRecDepth 100000 in
theorem hb_ca43 : sy_ckL hb_cl hb_lt hb_P (hb_P ++ [hb_m302]) hb_A hb_LW hb_Cs 40 302 hb_cuts 636 (hb_cs 1598) = true := by decide +kernel
set_option maxRecDepth 100000 in
theorem hb_ca44 : sy_ckL hb_cl hb_lt hb_P (hb_P ++ [hb_m302]) hb_A hb_LW hb_Cs 40 302 hb_cuts 636 (hb_cs 1641) = true := by decide +kernel
set_option maxRecDepth 100000 in
theorem hb_ca45 : sy_ckL hb_cl hb_lt hb_P (hb_P ++ [hb_m302]) hb_A hb_LW hb_Cs 40 302 hb_cuts 636 (hb_cs 1684) = true := by decide +kernel
set_option maxRecDepth 100000 in
theorem hb_ca46 : sy_ckL hb_cl hb_lt hb_P (hb_P ++ [hb_m302]) hb_A hb_LW hb_Cs 40 302 hb_cuts 636 (hb_cs 1747) = true := by decide +kernel
set_option maxRecDepth 100000 in
theorem hb_ca47 : sy_ckL hb_cl hb_lt hb_P (hb_P ++ [hb_m302]) hb_A hb_LW hb_Cs 40 302 hb_cuts 636 (hb_cs 1790) = true := by decide +kernel
set_option maxRecDepth 100000 in
theorem hb_ca48 : sy_ckL hb_cl hb_lt hb_P (hb_P ++ [hb_m302]) hb_A hb_LW hb_Cs 40 302 hb_cuts 636 (hb_cs 1823) = true := by decide +kernel
set_option maxRecDepth 100000 in
theorem hb_ca49 : sy_ckL hb_cl hb_lt hb_P (hb_P ++ [hb_m302]) hb_A hb_LW hb_Cs 40 302 hb_cuts 636 (hb_cs 1866) = true := by decide +kernel
set_option maxRecDepth 100000 in
theorem hb_ca50 : sy_ckL hb_cl hb_lt hb_P (hb_P ++ [hb_m302]) hb_A hb_LW hb_Cs 40 302 hb_cuts 636 (hb_cs 1889) = true := by decide +kernel
set_option maxRecDepth 100000 in
theorem hb_ca51 : sy_ckL hb_cl hb_lt hb_P (hb_P ++ [hb_m302]) hb_A hb_LW hb_Cs 40 302 hb_cuts 636 (hb_cs 1912) = true := by decide +kernel
set_option maxRecDepth 100000 in
theorem hb_ca52 : sy_ckL hb_cl hb_lt hb_P (hb_P ++ [hb_m302]) hb_A hb_LW hb_Cs 40 302 hb_cuts 636 (hb_cs 1925) = true := by decide +kernel

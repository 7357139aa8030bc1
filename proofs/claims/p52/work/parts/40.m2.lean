/-! THE LAW, CASE BY CASE -/
set_option maxRecDepth 100000 in
theorem hb_t26 : sy_ckL hb_cl hb_lt hb_P (hb_P ++ [hb_m302]) hb_A hb_LW hb_Cs 40 302 hb_cuts 636 (hb_cs 1077) = true := by decide +kernel
set_option maxRecDepth 100000 in
theorem hb_t27 : sy_ckL hb_cl hb_lt hb_P (hb_P ++ [hb_m302]) hb_A hb_LW hb_Cs 40 302 hb_cuts 636 (hb_cs 1120) = true := by decide +kernel
set_option maxRecDepth 100000 in
theorem hb_t28 : sy_ckL hb_cl hb_lt hb_P (hb_P ++ [hb_m302]) hb_A hb_LW hb_Cs 40 302 hb_cuts 636 (hb_cs 1143) = true := by decide +kernel
set_option maxRecDepth 100000 in
theorem hb_t29 : sy_ckL hb_cl hb_lt hb_P (hb_P ++ [hb_m302]) hb_A hb_LW hb_Cs 40 302 hb_cuts 636 (hb_cs 1166) = true := by decide +kernel
set_option maxRecDepth 100000 in
theorem hb_t30 : sy_ckL hb_cl hb_lt hb_P (hb_P ++ [hb_m302]) hb_A hb_LW hb_Cs 40 302 hb_cuts 636 (hb_cs 1199) = true := by decide +kernel
set_option maxRecDepth 100000 in
theorem hb_t31 : sy_ckL hb_cl hb_lt hb_P (hb_P ++ [hb_m302]) hb_A hb_LW hb_Cs 40 302 hb_cuts 636 (hb_cs 1222) = true := by decide +kernel
set_option maxRecDepth 100000 in
theorem hb_t32 : sy_ckL hb_cl hb_lt hb_P (hb_P ++ [hb_m302]) hb_A hb_LW hb_Cs 40 302 hb_cuts 636 (hb_cs 1245) = true := by decide +kernel
set_option maxRecDepth 100000 in
theorem hb_t33 : sy_ckL hb_cl hb_lt hb_P (hb_P ++ [hb_m302]) hb_A hb_LW hb_Cs 40 302 hb_cuts 636 (hb_cs 1268) = true := by decide +kernel
set_option maxRecDepth 100000 in
theorem hb_t34 : sy_ckL hb_cl hb_lt hb_P (hb_P ++ [hb_m302]) hb_A hb_LW hb_Cs 40 302 hb_cuts 636 (hb_cs 1291) = true := by decide +kernel
set_option maxRecDepth 100000 in
theorem hb_t35 : sy_ckL hb_cl hb_lt hb_P (hb_P ++ [hb_m302]) hb_A hb_LW hb_Cs 40 302 hb_cuts 636 (hb_cs 1354) = true := by decide +kernel
set_option maxRecDepth 100000 in
theorem hb_t36 : sy_ckL hb_cl hb_lt hb_P (hb_P ++ [hb_m302]) hb_A hb_LW hb_Cs 40 302 hb_cuts 636 (hb_cs 1367) = true := by decide +kernel
set_option maxRecDepth 100000 in
theorem hb_t37 : sy_ckL hb_cl hb_lt hb_P (hb_P ++ [hb_m302]) hb_A hb_LW hb_Cs 40 302 hb_cuts 636 (hb_cs 1400) = true := by decide +kernel
set_option maxRecDepth 100000 in
theorem hb_t38 : sy_ckL hb_cl hb_lt hb_P (hb_P ++ [hb_m302]) hb_A hb_LW hb_Cs 40 302 hb_cuts 636 (hb_cs 1423) = true := by decide +kernel
set_option maxRecDepth 100000 in
theorem hb_t39 : sy_ckL hb_cl hb_lt hb_P (hb_P ++ [hb_m302]) hb_A hb_LW hb_Cs 40 302 hb_cuts 636 (hb_cs 1456) = true := by decide +kernel
set_option maxRecDepth 100000 in
theorem hb_t40 : sy_ckL hb_cl hb_lt hb_P (hb_P ++ [hb_m302]) hb_A hb_LW hb_Cs 40 302 hb_cuts 636 (hb_cs 1489) = true := by decide +kernel
set_option maxRecDepth 100000 in
theorem hb_t41 : sy_ckL hb_cl hb_lt hb_P (hb_P ++ [hb_m302]) hb_A hb_LW hb_Cs 40 302 hb_cuts 636 (hb_cs 1522) = true := by decide +kernel
set_option maxRecDepth 100000 in
theorem hb_t42 : sy_ckL hb_cl hb_lt hb_P (hb_P ++ [hb_m302]) hb_A hb_LW hb_Cs 40 302 hb_cuts 636 (hb_cs 1555) = true := by decide +kernel
set_option maxRecDepth 100000 in
theorem hb_t43 : sy_ckL hb_cl hb_lt hb_P (hb_P ++ [hb_m302]) hb_A hb_LW hb_Cs 40 302 hb_cuts 636 (hb_cs 1598) = true := by decide +kernel
set_option maxRecDepth 100000 in
theorem hb_t44 : sy_ckL hb_cl hb_lt hb_P (hb_P ++ [hb_m302]) hb_A hb_LW hb_Cs 40 302 hb_cuts 636 (hb_cs 1641) = true := by decide +kernel
set_option maxRecDepth 100000 in
theorem hb_t45 : sy_ckL hb_cl hb_lt hb_P (hb_P ++ [hb_m302]) hb_A hb_LW hb_Cs 40 302 hb_cuts 636 (hb_cs 1684) = true := by decide +kernel
set_option maxRecDepth 100000 in
theorem hb_t46 : sy_ckL hb_cl hb_lt hb_P (hb_P ++ [hb_m302]) hb_A hb_LW hb_Cs 40 302 hb_cuts 636 (hb_cs 1747) = true := by decide +kernel
set_option maxRecDepth 100000 in
theorem hb_t47 : sy_ckL hb_cl hb_lt hb_P (hb_P ++ [hb_m302]) hb_A hb_LW hb_Cs 40 302 hb_cuts 636 (hb_cs 1790) = true := by decide +kernel
set_option maxRecDepth 100000 in
theorem hb_t48 : sy_ckL hb_cl hb_lt hb_P (hb_P ++ [hb_m302]) hb_A hb_LW hb_Cs 40 302 hb_cuts 636 (hb_cs 1823) = true := by decide +kernel
set_option maxRecDepth 100000 in
theorem hb_t49 : sy_ckL hb_cl hb_lt hb_P (hb_P ++ [hb_m302]) hb_A hb_LW hb_Cs 40 302 hb_cuts 636 (hb_cs 1866) = true := by decide +kernel
set_option maxRecDepth 100000 in
theorem hb_t50 : sy_ckL hb_cl hb_lt hb_P (hb_P ++ [hb_m302]) hb_A hb_LW hb_Cs 40 302 hb_cuts 636 (hb_cs 1889) = true := by decide +kernel
set_option maxRecDepth 100000 in
theorem hb_t51 : sy_ckL hb_cl hb_lt hb_P (hb_P ++ [hb_m302]) hb_A hb_LW hb_Cs 40 302 hb_cuts 636 (hb_cs 1912) = true := by decide +kernel
set_option maxRecDepth 100000 in
theorem hb_t52 : sy_ckL hb_cl hb_lt hb_P (hb_P ++ [hb_m302]) hb_A hb_LW hb_Cs 40 302 hb_cuts 636 (hb_cs 1925) = true := by decide +kernel

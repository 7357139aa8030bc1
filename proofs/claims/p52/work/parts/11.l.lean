theorem hb_d220_0 : ∀ q ∈ hb_c220_0, decode hb_h220.2.1 q.1 = .ok q.2 := by decide +kernel
theorem hb_d220_1 : ∀ q ∈ hb_c220_1, decode hb_h220.2.1 q.1 = .ok q.2 := by decide +kernel
theorem hb_d220_2 : ∀ q ∈ hb_c220_2, decode hb_h220.2.1 q.1 = .ok q.2 := by decide +kernel
set_option maxRecDepth 100000 in
theorem hb_w220 : lw_tbl[1740]? = some (Cond.code hb_h220.1 hb_h220.2.1 hb_h220.2.2.1 hb_h220.2.2.2.1) := by rfl
theorem hb_g220 : px_bM hb_h220 107 = true := by decide +kernel
theorem hb_o220 : px_okM px_Ts px_Ns hb_cl hb_SL hb_P hb_m220 := ⟨px_bM_ok hb_w220 hb_g220, List.forall_mem_append.mpr ⟨hb_d220_0, List.forall_mem_append.mpr ⟨hb_d220_1, hb_d220_2⟩⟩, px_bL_ok hb_l12⟩
theorem hb_d221_0 : ∀ q ∈ hb_c221_0, decode hb_h221.2.1 q.1 = .ok q.2 := by decide +kernel
set_option maxRecDepth 100000 in
theorem hb_w221 : lw_tbl[1752]? = some (Cond.code hb_h221.1 hb_h221.2.1 hb_h221.2.2.1 hb_h221.2.2.2.1) := by rfl
theorem hb_g221 : px_bM hb_h221 107 = true := by decide +kernel
theorem hb_o221 : px_okM px_Ts px_Ns hb_cl hb_SL hb_P hb_m221 := ⟨px_bM_ok hb_w221 hb_g221, hb_d221_0, px_bL_ok hb_l12⟩
theorem hb_d222_0 : ∀ q ∈ hb_c222_0, decode hb_h222.2.1 q.1 = .ok q.2 := by decide +kernel
set_option maxRecDepth 100000 in
theorem hb_w222 : lw_tbl[1748]? = some (Cond.code hb_h222.1 hb_h222.2.1 hb_h222.2.2.1 hb_h222.2.2.2.1) := by rfl
theorem hb_g222 : px_bM hb_h222 107 = true := by decide +kernel
theorem hb_o222 : px_okM px_Ts px_Ns hb_cl hb_SL hb_P hb_m222 := ⟨px_bM_ok hb_w222 hb_g222, hb_d222_0, px_bL_ok hb_l12⟩
theorem hb_d223_0 : ∀ q ∈ hb_c223_0, decode hb_h223.2.1 q.1 = .ok q.2 := by decide +kernel
set_option maxRecDepth 100000 in
theorem hb_w223 : lw_tbl[1756]? = some (Cond.code hb_h223.1 hb_h223.2.1 hb_h223.2.2.1 hb_h223.2.2.2.1) := by rfl
theorem hb_g223 : px_bM hb_h223 107 = true := by decide +kernel
theorem hb_o223 : px_okM px_Ts px_Ns hb_cl hb_SL hb_P hb_m223 := ⟨px_bM_ok hb_w223 hb_g223, hb_d223_0, px_bL_ok hb_l12⟩
theorem hb_d224_0 : ∀ q ∈ hb_c224_0, decode hb_h224.2.1 q.1 = .ok q.2 := by decide +kernel
theorem hb_d224_1 : ∀ q ∈ hb_c224_1, decode hb_h224.2.1 q.1 = .ok q.2 := by decide +kernel
theorem hb_d224_2 : ∀ q ∈ hb_c224_2, decode hb_h224.2.1 q.1 = .ok q.2 := by decide +kernel
theorem hb_d224_3 : ∀ q ∈ hb_c224_3, decode hb_h224.2.1 q.1 = .ok q.2 := by decide +kernel
set_option maxRecDepth 100000 in
theorem hb_w224 : lw_tbl[1760]? = some (Cond.code hb_h224.1 hb_h224.2.1 hb_h224.2.2.1 hb_h224.2.2.2.1) := by rfl
theorem hb_g224 : px_bM hb_h224 107 = true := by decide +kernel
theorem hb_o224 : px_okM px_Ts px_Ns hb_cl hb_SL hb_P hb_m224 := ⟨px_bM_ok hb_w224 hb_g224, List.forall_mem_append.mpr ⟨hb_d224_0, List.forall_mem_append.mpr ⟨hb_d224_1, List.forall_mem_append.mpr ⟨hb_d224_2, hb_d224_3⟩⟩⟩, px_bL_ok hb_l12⟩
theorem hb_d225_0 : ∀ q ∈ hb_c225_0, decode hb_h225.2.1 q.1 = .ok q.2 := by decide +kernel
theorem hb_d225_1 : ∀ q ∈ hb_c225_1, decode hb_h225.2.1 q.1 = .ok q.2 := by decide +kernel
set_option maxRecDepth 100000 in
theorem hb_w225 : lw_tbl[1772]? = some (Cond.code hb_h225.1 hb_h225.2.1 hb_h225.2.2.1 hb_h225.2.2.2.1) := by rfl
theorem hb_g225 : px_bM hb_h225 107 = true := by decide +kernel
theorem hb_o225 : px_okM px_Ts px_Ns hb_cl hb_SL hb_P hb_m225 := ⟨px_bM_ok hb_w225 hb_g225, List.forall_mem_append.mpr ⟨hb_d225_0, hb_d225_1⟩, px_bL_ok hb_l12⟩
theorem hb_d226_0 : ∀ q ∈ hb_c226_0, decode hb_h226.2.1 q.1 = .ok q.2 := by decide +kernel
theorem hb_d226_1 : ∀ q ∈ hb_c226_1, decode hb_h226.2.1 q.1 = .ok q.2 := by decide +kernel
theorem hb_d226_2 : ∀ q ∈ hb_c226_2, decode hb_h226.2.1 q.1 = .ok q.2 := by decide +kernel
theorem hb_d226_3 : ∀ q ∈ hb_c226_3, decode hb_h226.2.1 q.1 = .ok q.2 := by decide +kernel
set_option maxRecDepth 100000 in
theorem hb_w226 : lw_tbl[1768]? = some (Cond.code hb_h226.1 hb_h226.2.1 hb_h226.2.2.1 hb_h226.2.2.2.1) := by rfl
theorem hb_g226 : px_bM hb_h226 107 = true := by decide +kernel
theorem hb_o226 : px_okM px_Ts px_Ns hb_cl hb_SL hb_P hb_m226 := ⟨px_bM_ok hb_w226 hb_g226, List.forall_mem_append.mpr ⟨hb_d226_0, List.forall_mem_append.mpr ⟨hb_d226_1, List.forall_mem_append.mpr ⟨hb_d226_2, hb_d226_3⟩⟩⟩, px_bL_ok hb_l12⟩
theorem hb_d227_0 : ∀ q ∈ hb_c227_0, decode hb_h227.2.1 q.1 = .ok q.2 := by decide +kernel
theorem hb_d227_1 : ∀ q ∈ hb_c227_1, decode hb_h227.2.1 q.1 = .ok q.2 := by decide +kernel
theorem hb_d227_2 : ∀ q ∈ hb_c227_2, decode hb_h227.2.1 q.1 = .ok q.2 := by decide +kernel
set_option maxRecDepth 100000 in
theorem hb_w227 : lw_tbl[1776]? = some (Cond.code hb_h227.1 hb_h227.2.1 hb_h227.2.2.1 hb_h227.2.2.2.1) := by rfl
theorem hb_g227 : px_bM hb_h227 107 = true := by decide +kernel
theorem hb_o227 : px_okM px_Ts px_Ns hb_cl hb_SL hb_P hb_m227 := ⟨px_bM_ok hb_w227 hb_g227, List.forall_mem_append.mpr ⟨hb_d227_0, List.forall_mem_append.mpr ⟨hb_d227_1, hb_d227_2⟩⟩, px_bL_ok hb_l12⟩
theorem hb_d228_0 : ∀ q ∈ hb_c228_0, decode hb_h228.2.1 q.1 = .ok q.2 := by decide +kernel
set_option maxRecDepth 100000 in
theorem hb_w228 : lw_tbl[1805]? = some (Cond.code hb_h228.1 hb_h228.2.1 hb_h228.2.2.1 hb_h228.2.2.2.1) := by rfl
theorem hb_g228 : px_bM hb_h228 107 = true := by decide +kernel
theorem hb_o228 : px_okM px_Ts px_Ns hb_cl hb_SL hb_P hb_m228 := ⟨px_bM_ok hb_w228 hb_g228, hb_d228_0, px_bL_ok hb_l12⟩
theorem hb_d229_0 : ∀ q ∈ hb_c229_0, decode hb_h229.2.1 q.1 = .ok q.2 := by decide +kernel
set_option maxRecDepth 100000 in
theorem hb_w229 : lw_tbl[1797]? = some (Cond.code hb_h229.1 hb_h229.2.1 hb_h229.2.2.1 hb_h229.2.2.2.1) := by rfl
theorem hb_g229 : px_bM hb_h229 107 = true := by decide +kernel
theorem hb_o229 : px_okM px_Ts px_Ns hb_cl hb_SL hb_P hb_m229 := ⟨px_bM_ok hb_w229 hb_g229, hb_d229_0, px_bL_ok hb_l12⟩
theorem hb_d230_0 : ∀ q ∈ hb_c230_0, decode hb_h230.2.1 q.1 = .ok q.2 := by decide +kernel
set_option maxRecDepth 100000 in
theorem hb_w230 : lw_tbl[1781]? = some (Cond.code hb_h230.1 hb_h230.2.1 hb_h230.2.2.1 hb_h230.2.2.2.1) := by rfl
theorem hb_g230 : px_bM hb_h230 107 = true := by decide +kernel
theorem hb_o230 : px_okM px_Ts px_Ns hb_cl hb_SL hb_P hb_m230 := ⟨px_bM_ok hb_w230 hb_g230, hb_d230_0, px_bL_ok hb_l12⟩
theorem hb_d231_0 : ∀ q ∈ hb_c231_0, decode hb_h231.2.1 q.1 = .ok q.2 := by decide +kernel
set_option maxRecDepth 100000 in
theorem hb_w231 : lw_tbl[1785]? = some (Cond.code hb_h231.1 hb_h231.2.1 hb_h231.2.2.1 hb_h231.2.2.2.1) := by rfl
theorem hb_g231 : px_bM hb_h231 107 = true := by decide +kernel
theorem hb_o231 : px_okM px_Ts px_Ns hb_cl hb_SL hb_P hb_m231 := ⟨px_bM_ok hb_w231 hb_g231, hb_d231_0, px_bL_ok hb_l12⟩
theorem hb_d232_0 : ∀ q ∈ hb_c232_0, decode hb_h232.2.1 q.1 = .ok q.2 := by decide +kernel
set_option maxRecDepth 100000 in
theorem hb_w232 : lw_tbl[1793]? = some (Cond.code hb_h232.1 hb_h232.2.1 hb_h232.2.2.1 hb_h232.2.2.2.1) := by rfl
theorem hb_g232 : px_bM hb_h232 107 = true := by decide +kernel
theorem hb_o232 : px_okM px_Ts px_Ns hb_cl hb_SL hb_P hb_m232 := ⟨px_bM_ok hb_w232 hb_g232, hb_d232_0, px_bL_ok hb_l12⟩
theorem hb_d233_0 : ∀ q ∈ hb_c233_0, decode hb_h233.2.1 q.1 = .ok q.2 := by decide +kernel
theorem hb_d233_1 : ∀ q ∈ hb_c233_1, decode hb_h233.2.1 q.1 = .ok q.2 := by decide +kernel
set_option maxRecDepth 100000 in
theorem hb_w233 : lw_tbl[1789]? = some (Cond.code hb_h233.1 hb_h233.2.1 hb_h233.2.2.1 hb_h233.2.2.2.1) := by rfl
theorem hb_g233 : px_bM hb_h233 107 = true := by decide +kernel
theorem hb_o233 : px_okM px_Ts px_Ns hb_cl hb_SL hb_P hb_m233 := ⟨px_bM_ok hb_w233 hb_g233, List.forall_mem_append.mpr ⟨hb_d233_0, hb_d233_1⟩, px_bL_ok hb_l12⟩
theorem hb_d234_0 : ∀ q ∈ hb_c234_0, decode hb_h234.2.1 q.1 = .ok q.2 := by decide +kernel
set_option maxRecDepth 100000 in
theorem hb_w234 : lw_tbl[1809]? = some (Cond.code hb_h234.1 hb_h234.2.1 hb_h234.2.2.1 hb_h234.2.2.2.1) := by rfl
theorem hb_g234 : px_bM hb_h234 107 = true := by decide +kernel
theorem hb_o234 : px_okM px_Ts px_Ns hb_cl hb_SL hb_P hb_m234 := ⟨px_bM_ok hb_w234 hb_g234, hb_d234_0, px_bL_ok hb_l12⟩
theorem hb_d235_0 : ∀ q ∈ hb_c235_0, decode hb_h235.2.1 q.1 = .ok q.2 := by decide +kernel
theorem hb_d235_1 : ∀ q ∈ hb_c235_1, decode hb_h235.2.1 q.1 = .ok q.2 := by decide +kernel
set_option maxRecDepth 100000 in
theorem hb_w235 : lw_tbl[1801]? = some (Cond.code hb_h235.1 hb_h235.2.1 hb_h235.2.2.1 hb_h235.2.2.2.1) := by rfl
theorem hb_g235 : px_bM hb_h235 107 = true := by decide +kernel
theorem hb_o235 : px_okM px_Ts px_Ns hb_cl hb_SL hb_P hb_m235 := ⟨px_bM_ok hb_w235 hb_g235, List.forall_mem_append.mpr ⟨hb_d235_0, hb_d235_1⟩, px_bL_ok hb_l12⟩
theorem hb_d236_0 : ∀ q ∈ hb_c236_0, decode hb_h236.2.1 q.1 = .ok q.2 := by decide +kernel
theorem hb_d236_1 : ∀ q ∈ hb_c236_1, decode hb_h236.2.1 q.1 = .ok q.2 := by decide +kernel
set_option maxRecDepth 100000 in
theorem hb_w236 : lw_tbl[1813]? = some (Cond.code hb_h236.1 hb_h236.2.1 hb_h236.2.2.1 hb_h236.2.2.2.1) := by rfl
theorem hb_g236 : px_bM hb_h236 107 = true := by decide +kernel
theorem hb_o236 : px_okM px_Ts px_Ns hb_cl hb_SL hb_P hb_m236 := ⟨px_bM_ok hb_w236 hb_g236, List.forall_mem_append.mpr ⟨hb_d236_0, hb_d236_1⟩, px_bL_ok hb_l12⟩
theorem hb_d237_0 : ∀ q ∈ hb_c237_0, decode hb_h237.2.1 q.1 = .ok q.2 := by decide +kernel
set_option maxRecDepth 100000 in
theorem hb_w237 : lw_tbl[1821]? = some (Cond.code hb_h237.1 hb_h237.2.1 hb_h237.2.2.1 hb_h237.2.2.2.1) := by rfl
theorem hb_g237 : px_bM hb_h237 107 = true := by decide +kernel
theorem hb_o237 : px_okM px_Ts px_Ns hb_cl hb_SL hb_P hb_m237 := ⟨px_bM_ok hb_w237 hb_g237, hb_d237_0, px_bL_ok hb_l12⟩
theorem hb_d238_0 : ∀ q ∈ hb_c238_0, decode hb_h238.2.1 q.1 = .ok q.2 := by decide +kernel
theorem hb_d238_1 : ∀ q ∈ hb_c238_1, decode hb_h238.2.1 q.1 = .ok q.2 := by decide +kernel
theorem hb_d238_2 : ∀ q ∈ hb_c238_2, decode hb_h238.2.1 q.1 = .ok q.2 := by decide +kernel
set_option maxRecDepth 100000 in
theorem hb_w238 : lw_tbl[1825]? = some (Cond.code hb_h238.1 hb_h238.2.1 hb_h238.2.2.1 hb_h238.2.2.2.1) := by rfl
theorem hb_g238 : px_bM hb_h238 107 = true := by decide +kernel
theorem hb_o238 : px_okM px_Ts px_Ns hb_cl hb_SL hb_P hb_m238 := ⟨px_bM_ok hb_w238 hb_g238, List.forall_mem_append.mpr ⟨hb_d238_0, List.forall_mem_append.mpr ⟨hb_d238_1, hb_d238_2⟩⟩, px_bL_ok hb_l12⟩
theorem hb_d239_0 : ∀ q ∈ hb_c239_0, decode hb_h239.2.1 q.1 = .ok q.2 := by decide +kernel
set_option maxRecDepth 100000 in
theorem hb_w239 : lw_tbl[1817]? = some (Cond.code hb_h239.1 hb_h239.2.1 hb_h239.2.2.1 hb_h239.2.2.2.1) := by rfl
theorem hb_g239 : px_bM hb_h239 107 = true := by decide +kernel
theorem hb_o239 : px_okM px_Ts px_Ns hb_cl hb_SL hb_P hb_m239 := ⟨px_bM_ok hb_w239 hb_g239, hb_d239_0, px_bL_ok hb_l12⟩

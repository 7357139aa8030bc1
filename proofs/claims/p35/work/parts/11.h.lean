noncomputable section
theorem hb_d140_0 : ∀ q ∈ hb_c140_0, decode hb_h140.2.1 q.1 = .ok q.2 := px_rwc_ok (by decide +kernel)
theorem hb_d140_1 : ∀ q ∈ hb_c140_1, decode hb_h140.2.1 q.1 = .ok q.2 := px_rwc_ok (by decide +kernel)
theorem hb_d140_2 : ∀ q ∈ hb_c140_2, decode hb_h140.2.1 q.1 = .ok q.2 := px_rwc_ok (by decide +kernel)
theorem hb_d140_3 : ∀ q ∈ hb_c140_3, decode hb_h140.2.1 q.1 = .ok q.2 := px_rwc_ok (by decide +kernel)
theorem hb_d140_4 : ∀ q ∈ hb_c140_4, decode hb_h140.2.1 q.1 = .ok q.2 := px_rwc_ok (by decide +kernel)
theorem hb_d140_5 : ∀ q ∈ hb_c140_5, decode hb_h140.2.1 q.1 = .ok q.2 := px_rwc_ok (by decide +kernel)
theorem hb_d140_6 : ∀ q ∈ hb_c140_6, decode hb_h140.2.1 q.1 = .ok q.2 := px_rwc_ok (by decide +kernel)
theorem hb_d140_7 : ∀ q ∈ hb_c140_7, decode hb_h140.2.1 q.1 = .ok q.2 := px_rwc_ok (by decide +kernel)
set_option maxRecDepth 100000 in
theorem hb_w140 : lw_tbl[885]? = some (Cond.code hb_h140.1 hb_h140.2.1 hb_h140.2.2.1 hb_h140.2.2.2.1) := by rfl
theorem hb_g140 : px_bM hb_h140 95 = true := by decide +kernel
set_option maxRecDepth 100000 in
theorem hb_o140 : px_okM px_Ts px_Ns hb_cl hb_SL hb_P hb_m140 := ⟨px_bM_ok hb_w140 hb_g140, List.forall_mem_append.mpr ⟨hb_d140_0, List.forall_mem_append.mpr ⟨hb_d140_1, List.forall_mem_append.mpr ⟨hb_d140_2, List.forall_mem_append.mpr ⟨hb_d140_3, List.forall_mem_append.mpr ⟨hb_d140_4, List.forall_mem_append.mpr ⟨hb_d140_5, List.forall_mem_append.mpr ⟨hb_d140_6, hb_d140_7⟩⟩⟩⟩⟩⟩⟩, px_bL_ok hb_l11⟩
theorem hb_d141_0 : ∀ q ∈ hb_c141_0, decode hb_h141.2.1 q.1 = .ok q.2 := px_rwc_ok (by decide +kernel)
theorem hb_d141_1 : ∀ q ∈ hb_c141_1, decode hb_h141.2.1 q.1 = .ok q.2 := px_rwc_ok (by decide +kernel)
theorem hb_d141_2 : ∀ q ∈ hb_c141_2, decode hb_h141.2.1 q.1 = .ok q.2 := px_rwc_ok (by decide +kernel)
theorem hb_d141_3 : ∀ q ∈ hb_c141_3, decode hb_h141.2.1 q.1 = .ok q.2 := px_rwc_ok (by decide +kernel)
theorem hb_d141_4 : ∀ q ∈ hb_c141_4, decode hb_h141.2.1 q.1 = .ok q.2 := px_rwc_ok (by decide +kernel)
theorem hb_d141_5 : ∀ q ∈ hb_c141_5, decode hb_h141.2.1 q.1 = .ok q.2 := px_rwc_ok (by decide +kernel)
set_option maxRecDepth 100000 in
theorem hb_w141 : lw_tbl[902]? = some (Cond.code hb_h141.1 hb_h141.2.1 hb_h141.2.2.1 hb_h141.2.2.2.1) := by rfl
theorem hb_g141 : px_bM hb_h141 95 = true := by decide +kernel
set_option maxRecDepth 100000 in
theorem hb_o141 : px_okM px_Ts px_Ns hb_cl hb_SL hb_P hb_m141 := ⟨px_bM_ok hb_w141 hb_g141, List.forall_mem_append.mpr ⟨hb_d141_0, List.forall_mem_append.mpr ⟨hb_d141_1, List.forall_mem_append.mpr ⟨hb_d141_2, List.forall_mem_append.mpr ⟨hb_d141_3, List.forall_mem_append.mpr ⟨hb_d141_4, hb_d141_5⟩⟩⟩⟩⟩, px_bL_ok hb_l11⟩
theorem hb_d142_0 : ∀ q ∈ hb_c142_0, decode hb_h142.2.1 q.1 = .ok q.2 := px_rwc_ok (by decide +kernel)
theorem hb_d142_1 : ∀ q ∈ hb_c142_1, decode hb_h142.2.1 q.1 = .ok q.2 := px_rwc_ok (by decide +kernel)
theorem hb_d142_2 : ∀ q ∈ hb_c142_2, decode hb_h142.2.1 q.1 = .ok q.2 := px_rwc_ok (by decide +kernel)
set_option maxRecDepth 100000 in
theorem hb_w142 : lw_tbl[914]? = some (Cond.code hb_h142.1 hb_h142.2.1 hb_h142.2.2.1 hb_h142.2.2.2.1) := by rfl
theorem hb_g142 : px_bM hb_h142 95 = true := by decide +kernel
set_option maxRecDepth 100000 in
theorem hb_o142 : px_okM px_Ts px_Ns hb_cl hb_SL hb_P hb_m142 := ⟨px_bM_ok hb_w142 hb_g142, List.forall_mem_append.mpr ⟨hb_d142_0, List.forall_mem_append.mpr ⟨hb_d142_1, hb_d142_2⟩⟩, px_bL_ok hb_l11⟩
theorem hb_d143_0 : ∀ q ∈ hb_c143_0, decode hb_h143.2.1 q.1 = .ok q.2 := px_rwc_ok (by decide +kernel)
theorem hb_d143_1 : ∀ q ∈ hb_c143_1, decode hb_h143.2.1 q.1 = .ok q.2 := px_rwc_ok (by decide +kernel)
theorem hb_d143_2 : ∀ q ∈ hb_c143_2, decode hb_h143.2.1 q.1 = .ok q.2 := px_rwc_ok (by decide +kernel)
set_option maxRecDepth 100000 in
theorem hb_w143 : lw_tbl[918]? = some (Cond.code hb_h143.1 hb_h143.2.1 hb_h143.2.2.1 hb_h143.2.2.2.1) := by rfl
theorem hb_g143 : px_bM hb_h143 95 = true := by decide +kernel
set_option maxRecDepth 100000 in
theorem hb_o143 : px_okM px_Ts px_Ns hb_cl hb_SL hb_P hb_m143 := ⟨px_bM_ok hb_w143 hb_g143, List.forall_mem_append.mpr ⟨hb_d143_0, List.forall_mem_append.mpr ⟨hb_d143_1, hb_d143_2⟩⟩, px_bL_ok hb_l11⟩
theorem hb_d144_0 : ∀ q ∈ hb_c144_0, decode hb_h144.2.1 q.1 = .ok q.2 := px_rwc_ok (by decide +kernel)
theorem hb_d144_1 : ∀ q ∈ hb_c144_1, decode hb_h144.2.1 q.1 = .ok q.2 := px_rwc_ok (by decide +kernel)
set_option maxRecDepth 100000 in
theorem hb_w144 : lw_tbl[926]? = some (Cond.code hb_h144.1 hb_h144.2.1 hb_h144.2.2.1 hb_h144.2.2.2.1) := by rfl
theorem hb_g144 : px_bM hb_h144 95 = true := by decide +kernel
set_option maxRecDepth 100000 in
theorem hb_o144 : px_okM px_Ts px_Ns hb_cl hb_SL hb_P hb_m144 := ⟨px_bM_ok hb_w144 hb_g144, List.forall_mem_append.mpr ⟨hb_d144_0, hb_d144_1⟩, px_bL_ok hb_l11⟩
theorem hb_d145_0 : ∀ q ∈ hb_c145_0, decode hb_h145.2.1 q.1 = .ok q.2 := px_rwc_ok (by decide +kernel)
theorem hb_d145_1 : ∀ q ∈ hb_c145_1, decode hb_h145.2.1 q.1 = .ok q.2 := px_rwc_ok (by decide +kernel)
set_option maxRecDepth 100000 in
theorem hb_w145 : lw_tbl[939]? = some (Cond.code hb_h145.1 hb_h145.2.1 hb_h145.2.2.1 hb_h145.2.2.2.1) := by rfl
theorem hb_g145 : px_bM hb_h145 95 = true := by decide +kernel
set_option maxRecDepth 100000 in
theorem hb_o145 : px_okM px_Ts px_Ns hb_cl hb_SL hb_P hb_m145 := ⟨px_bM_ok hb_w145 hb_g145, List.forall_mem_append.mpr ⟨hb_d145_0, hb_d145_1⟩, px_bL_ok hb_l11⟩
theorem hb_d146_0 : ∀ q ∈ hb_c146_0, decode hb_h146.2.1 q.1 = .ok q.2 := px_rwc_ok (by decide +kernel)
theorem hb_d146_1 : ∀ q ∈ hb_c146_1, decode hb_h146.2.1 q.1 = .ok q.2 := px_rwc_ok (by decide +kernel)
theorem hb_d146_2 : ∀ q ∈ hb_c146_2, decode hb_h146.2.1 q.1 = .ok q.2 := px_rwc_ok (by decide +kernel)
theorem hb_d146_3 : ∀ q ∈ hb_c146_3, decode hb_h146.2.1 q.1 = .ok q.2 := px_rwc_ok (by decide +kernel)
set_option maxRecDepth 100000 in
theorem hb_w146 : lw_tbl[951]? = some (Cond.code hb_h146.1 hb_h146.2.1 hb_h146.2.2.1 hb_h146.2.2.2.1) := by rfl
theorem hb_g146 : px_bM hb_h146 95 = true := by decide +kernel
set_option maxRecDepth 100000 in
theorem hb_o146 : px_okM px_Ts px_Ns hb_cl hb_SL hb_P hb_m146 := ⟨px_bM_ok hb_w146 hb_g146, List.forall_mem_append.mpr ⟨hb_d146_0, List.forall_mem_append.mpr ⟨hb_d146_1, List.forall_mem_append.mpr ⟨hb_d146_2, hb_d146_3⟩⟩⟩, px_bL_ok hb_l11⟩
theorem hb_d147_0 : ∀ q ∈ hb_c147_0, decode hb_h147.2.1 q.1 = .ok q.2 := px_rwc_ok (by decide +kernel)
theorem hb_d147_1 : ∀ q ∈ hb_c147_1, decode hb_h147.2.1 q.1 = .ok q.2 := px_rwc_ok (by decide +kernel)
set_option maxRecDepth 100000 in
theorem hb_w147 : lw_tbl[959]? = some (Cond.code hb_h147.1 hb_h147.2.1 hb_h147.2.2.1 hb_h147.2.2.2.1) := by rfl
theorem hb_g147 : px_bM hb_h147 95 = true := by decide +kernel
set_option maxRecDepth 100000 in
theorem hb_o147 : px_okM px_Ts px_Ns hb_cl hb_SL hb_P hb_m147 := ⟨px_bM_ok hb_w147 hb_g147, List.forall_mem_append.mpr ⟨hb_d147_0, hb_d147_1⟩, px_bL_ok hb_l11⟩
theorem hb_d148_0 : ∀ q ∈ hb_c148_0, decode hb_h148.2.1 q.1 = .ok q.2 := px_rwc_ok (by decide +kernel)
theorem hb_d148_1 : ∀ q ∈ hb_c148_1, decode hb_h148.2.1 q.1 = .ok q.2 := px_rwc_ok (by decide +kernel)
theorem hb_d148_2 : ∀ q ∈ hb_c148_2, decode hb_h148.2.1 q.1 = .ok q.2 := px_rwc_ok (by decide +kernel)
theorem hb_d148_3 : ∀ q ∈ hb_c148_3, decode hb_h148.2.1 q.1 = .ok q.2 := px_rwc_ok (by decide +kernel)
set_option maxRecDepth 100000 in
theorem hb_w148 : lw_tbl[972]? = some (Cond.code hb_h148.1 hb_h148.2.1 hb_h148.2.2.1 hb_h148.2.2.2.1) := by rfl
theorem hb_g148 : px_bM hb_h148 95 = true := by decide +kernel
set_option maxRecDepth 100000 in
theorem hb_o148 : px_okM px_Ts px_Ns hb_cl hb_SL hb_P hb_m148 := ⟨px_bM_ok hb_w148 hb_g148, List.forall_mem_append.mpr ⟨hb_d148_0, List.forall_mem_append.mpr ⟨hb_d148_1, List.forall_mem_append.mpr ⟨hb_d148_2, hb_d148_3⟩⟩⟩, px_bL_ok hb_l11⟩
theorem hb_d149_0 : ∀ q ∈ hb_c149_0, decode hb_h149.2.1 q.1 = .ok q.2 := px_rwc_ok (by decide +kernel)
theorem hb_d149_1 : ∀ q ∈ hb_c149_1, decode hb_h149.2.1 q.1 = .ok q.2 := px_rwc_ok (by decide +kernel)
theorem hb_d149_2 : ∀ q ∈ hb_c149_2, decode hb_h149.2.1 q.1 = .ok q.2 := px_rwc_ok (by decide +kernel)
theorem hb_d149_3 : ∀ q ∈ hb_c149_3, decode hb_h149.2.1 q.1 = .ok q.2 := px_rwc_ok (by decide +kernel)
set_option maxRecDepth 100000 in
theorem hb_w149 : lw_tbl[977]? = some (Cond.code hb_h149.1 hb_h149.2.1 hb_h149.2.2.1 hb_h149.2.2.2.1) := by rfl
theorem hb_g149 : px_bM hb_h149 95 = true := by decide +kernel
set_option maxRecDepth 100000 in
theorem hb_o149 : px_okM px_Ts px_Ns hb_cl hb_SL hb_P hb_m149 := ⟨px_bM_ok hb_w149 hb_g149, List.forall_mem_append.mpr ⟨hb_d149_0, List.forall_mem_append.mpr ⟨hb_d149_1, List.forall_mem_append.mpr ⟨hb_d149_2, hb_d149_3⟩⟩⟩, px_bL_ok hb_l11⟩
theorem hb_d150_0 : ∀ q ∈ hb_c150_0, decode hb_h150.2.1 q.1 = .ok q.2 := px_rwc_ok (by decide +kernel)
theorem hb_d150_1 : ∀ q ∈ hb_c150_1, decode hb_h150.2.1 q.1 = .ok q.2 := px_rwc_ok (by decide +kernel)
theorem hb_d150_2 : ∀ q ∈ hb_c150_2, decode hb_h150.2.1 q.1 = .ok q.2 := px_rwc_ok (by decide +kernel)
set_option maxRecDepth 100000 in
theorem hb_w150 : lw_tbl[982]? = some (Cond.code hb_h150.1 hb_h150.2.1 hb_h150.2.2.1 hb_h150.2.2.2.1) := by rfl
theorem hb_g150 : px_bM hb_h150 95 = true := by decide +kernel
set_option maxRecDepth 100000 in
theorem hb_o150 : px_okM px_Ts px_Ns hb_cl hb_SL hb_P hb_m150 := ⟨px_bM_ok hb_w150 hb_g150, List.forall_mem_append.mpr ⟨hb_d150_0, List.forall_mem_append.mpr ⟨hb_d150_1, hb_d150_2⟩⟩, px_bL_ok hb_l11⟩
theorem hb_d151_0 : ∀ q ∈ hb_c151_0, decode hb_h151.2.1 q.1 = .ok q.2 := px_rwc_ok (by decide +kernel)
theorem hb_d151_1 : ∀ q ∈ hb_c151_1, decode hb_h151.2.1 q.1 = .ok q.2 := px_rwc_ok (by decide +kernel)
theorem hb_d151_2 : ∀ q ∈ hb_c151_2, decode hb_h151.2.1 q.1 = .ok q.2 := px_rwc_ok (by decide +kernel)
theorem hb_d151_3 : ∀ q ∈ hb_c151_3, decode hb_h151.2.1 q.1 = .ok q.2 := px_rwc_ok (by decide +kernel)
set_option maxRecDepth 100000 in
theorem hb_w151 : lw_tbl[995]? = some (Cond.code hb_h151.1 hb_h151.2.1 hb_h151.2.2.1 hb_h151.2.2.2.1) := by rfl
theorem hb_g151 : px_bM hb_h151 95 = true := by decide +kernel
set_option maxRecDepth 100000 in
theorem hb_o151 : px_okM px_Ts px_Ns hb_cl hb_SL hb_P hb_m151 := ⟨px_bM_ok hb_w151 hb_g151, List.forall_mem_append.mpr ⟨hb_d151_0, List.forall_mem_append.mpr ⟨hb_d151_1, List.forall_mem_append.mpr ⟨hb_d151_2, hb_d151_3⟩⟩⟩, px_bL_ok hb_l11⟩
theorem hb_d152_0 : ∀ q ∈ hb_c152_0, decode hb_h152.2.1 q.1 = .ok q.2 := px_rwc_ok (by decide +kernel)
theorem hb_d152_1 : ∀ q ∈ hb_c152_1, decode hb_h152.2.1 q.1 = .ok q.2 := px_rwc_ok (by decide +kernel)
theorem hb_d152_2 : ∀ q ∈ hb_c152_2, decode hb_h152.2.1 q.1 = .ok q.2 := px_rwc_ok (by decide +kernel)
theorem hb_d152_3 : ∀ q ∈ hb_c152_3, decode hb_h152.2.1 q.1 = .ok q.2 := px_rwc_ok (by decide +kernel)
theorem hb_d152_4 : ∀ q ∈ hb_c152_4, decode hb_h152.2.1 q.1 = .ok q.2 := px_rwc_ok (by decide +kernel)
set_option maxRecDepth 100000 in
theorem hb_w152 : lw_tbl[1003]? = some (Cond.code hb_h152.1 hb_h152.2.1 hb_h152.2.2.1 hb_h152.2.2.2.1) := by rfl
theorem hb_g152 : px_bM hb_h152 95 = true := by decide +kernel
set_option maxRecDepth 100000 in
theorem hb_o152 : px_okM px_Ts px_Ns hb_cl hb_SL hb_P hb_m152 := ⟨px_bM_ok hb_w152 hb_g152, List.forall_mem_append.mpr ⟨hb_d152_0, List.forall_mem_append.mpr ⟨hb_d152_1, List.forall_mem_append.mpr ⟨hb_d152_2, List.forall_mem_append.mpr ⟨hb_d152_3, hb_d152_4⟩⟩⟩⟩, px_bL_ok hb_l11⟩
theorem hb_d153_0 : ∀ q ∈ hb_c153_0, decode hb_h153.2.1 q.1 = .ok q.2 := px_rwc_ok (by decide +kernel)
theorem hb_d153_1 : ∀ q ∈ hb_c153_1, decode hb_h153.2.1 q.1 = .ok q.2 := px_rwc_ok (by decide +kernel)
set_option maxRecDepth 100000 in
theorem hb_w153 : lw_tbl[1011]? = some (Cond.code hb_h153.1 hb_h153.2.1 hb_h153.2.2.1 hb_h153.2.2.2.1) := by rfl
theorem hb_g153 : px_bM hb_h153 95 = true := by decide +kernel
set_option maxRecDepth 100000 in
theorem hb_o153 : px_okM px_Ts px_Ns hb_cl hb_SL hb_P hb_m153 := ⟨px_bM_ok hb_w153 hb_g153, List.forall_mem_append.mpr ⟨hb_d153_0, hb_d153_1⟩, px_bL_ok hb_l11⟩
theorem hb_d154_0 : ∀ q ∈ hb_c154_0, decode hb_h154.2.1 q.1 = .ok q.2 := px_rwc_ok (by decide +kernel)
theorem hb_d154_1 : ∀ q ∈ hb_c154_1, decode hb_h154.2.1 q.1 = .ok q.2 := px_rwc_ok (by decide +kernel)
theorem hb_d154_2 : ∀ q ∈ hb_c154_2, decode hb_h154.2.1 q.1 = .ok q.2 := px_rwc_ok (by decide +kernel)
set_option maxRecDepth 100000 in
theorem hb_w154 : lw_tbl[1015]? = some (Cond.code hb_h154.1 hb_h154.2.1 hb_h154.2.2.1 hb_h154.2.2.2.1) := by rfl
theorem hb_g154 : px_bM hb_h154 95 = true := by decide +kernel
set_option maxRecDepth 100000 in
theorem hb_o154 : px_okM px_Ts px_Ns hb_cl hb_SL hb_P hb_m154 := ⟨px_bM_ok hb_w154 hb_g154, List.forall_mem_append.mpr ⟨hb_d154_0, List.forall_mem_append.mpr ⟨hb_d154_1, hb_d154_2⟩⟩, px_bL_ok hb_l11⟩
theorem hb_d155_0 : ∀ q ∈ hb_c155_0, decode hb_h155.2.1 q.1 = .ok q.2 := px_rwc_ok (by decide +kernel)
theorem hb_d155_1 : ∀ q ∈ hb_c155_1, decode hb_h155.2.1 q.1 = .ok q.2 := px_rwc_ok (by decide +kernel)
theorem hb_d155_2 : ∀ q ∈ hb_c155_2, decode hb_h155.2.1 q.1 = .ok q.2 := px_rwc_ok (by decide +kernel)
theorem hb_d155_3 : ∀ q ∈ hb_c155_3, decode hb_h155.2.1 q.1 = .ok q.2 := px_rwc_ok (by decide +kernel)
set_option maxRecDepth 100000 in
theorem hb_w155 : lw_tbl[1024]? = some (Cond.code hb_h155.1 hb_h155.2.1 hb_h155.2.2.1 hb_h155.2.2.2.1) := by rfl
theorem hb_g155 : px_bM hb_h155 95 = true := by decide +kernel
set_option maxRecDepth 100000 in
theorem hb_o155 : px_okM px_Ts px_Ns hb_cl hb_SL hb_P hb_m155 := ⟨px_bM_ok hb_w155 hb_g155, List.forall_mem_append.mpr ⟨hb_d155_0, List.forall_mem_append.mpr ⟨hb_d155_1, List.forall_mem_append.mpr ⟨hb_d155_2, hb_d155_3⟩⟩⟩, px_bL_ok hb_l11⟩
theorem hb_d156_0 : ∀ q ∈ hb_c156_0, decode hb_h156.2.1 q.1 = .ok q.2 := px_rwc_ok (by decide +kernel)
theorem hb_d156_1 : ∀ q ∈ hb_c156_1, decode hb_h156.2.1 q.1 = .ok q.2 := px_rwc_ok (by decide +kernel)
theorem hb_d156_2 : ∀ q ∈ hb_c156_2, decode hb_h156.2.1 q.1 = .ok q.2 := px_rwc_ok (by decide +kernel)
theorem hb_d156_3 : ∀ q ∈ hb_c156_3, decode hb_h156.2.1 q.1 = .ok q.2 := px_rwc_ok (by decide +kernel)
theorem hb_d156_4 : ∀ q ∈ hb_c156_4, decode hb_h156.2.1 q.1 = .ok q.2 := px_rwc_ok (by decide +kernel)
theorem hb_d156_5 : ∀ q ∈ hb_c156_5, decode hb_h156.2.1 q.1 = .ok q.2 := px_rwc_ok (by decide +kernel)
theorem hb_d156_6 : ∀ q ∈ hb_c156_6, decode hb_h156.2.1 q.1 = .ok q.2 := px_rwc_ok (by decide +kernel)
set_option maxRecDepth 100000 in
theorem hb_w156 : lw_tbl[1188]? = some (Cond.code hb_h156.1 hb_h156.2.1 hb_h156.2.2.1 hb_h156.2.2.2.1) := by rfl
theorem hb_g156 : px_bM hb_h156 95 = true := by decide +kernel
set_option maxRecDepth 100000 in
theorem hb_o156 : px_okM px_Ts px_Ns hb_cl hb_SL hb_P hb_m156 := ⟨px_bM_ok hb_w156 hb_g156, List.forall_mem_append.mpr ⟨hb_d156_0, List.forall_mem_append.mpr ⟨hb_d156_1, List.forall_mem_append.mpr ⟨hb_d156_2, List.forall_mem_append.mpr ⟨hb_d156_3, List.forall_mem_append.mpr ⟨hb_d156_4, List.forall_mem_append.mpr ⟨hb_d156_5, hb_d156_6⟩⟩⟩⟩⟩⟩, px_bL_ok hb_l11⟩
theorem hb_d157_0 : ∀ q ∈ hb_c157_0, decode hb_h157.2.1 q.1 = .ok q.2 := px_rwc_ok (by decide +kernel)
theorem hb_d157_1 : ∀ q ∈ hb_c157_1, decode hb_h157.2.1 q.1 = .ok q.2 := px_rwc_ok (by decide +kernel)
theorem hb_d157_2 : ∀ q ∈ hb_c157_2, decode hb_h157.2.1 q.1 = .ok q.2 := px_rwc_ok (by decide +kernel)
set_option maxRecDepth 100000 in
theorem hb_w157 : lw_tbl[1192]? = some (Cond.code hb_h157.1 hb_h157.2.1 hb_h157.2.2.1 hb_h157.2.2.2.1) := by rfl
theorem hb_g157 : px_bM hb_h157 95 = true := by decide +kernel
set_option maxRecDepth 100000 in
theorem hb_o157 : px_okM px_Ts px_Ns hb_cl hb_SL hb_P hb_m157 := ⟨px_bM_ok hb_w157 hb_g157, List.forall_mem_append.mpr ⟨hb_d157_0, List.forall_mem_append.mpr ⟨hb_d157_1, hb_d157_2⟩⟩, px_bL_ok hb_l11⟩
theorem hb_d158_0 : ∀ q ∈ hb_c158_0, decode hb_h158.2.1 q.1 = .ok q.2 := px_rwc_ok (by decide +kernel)
theorem hb_d158_1 : ∀ q ∈ hb_c158_1, decode hb_h158.2.1 q.1 = .ok q.2 := px_rwc_ok (by decide +kernel)
set_option maxRecDepth 100000 in
theorem hb_w158 : lw_tbl[1217]? = some (Cond.code hb_h158.1 hb_h158.2.1 hb_h158.2.2.1 hb_h158.2.2.2.1) := by rfl
theorem hb_g158 : px_bM hb_h158 95 = true := by decide +kernel
set_option maxRecDepth 100000 in
theorem hb_o158 : px_okM px_Ts px_Ns hb_cl hb_SL hb_P hb_m158 := ⟨px_bM_ok hb_w158 hb_g158, List.forall_mem_append.mpr ⟨hb_d158_0, hb_d158_1⟩, px_bL_ok hb_l11⟩
theorem hb_d159_0 : ∀ q ∈ hb_c159_0, decode hb_h159.2.1 q.1 = .ok q.2 := px_rwc_ok (by decide +kernel)
theorem hb_d159_1 : ∀ q ∈ hb_c159_1, decode hb_h159.2.1 q.1 = .ok q.2 := px_rwc_ok (by decide +kernel)
theorem hb_d159_2 : ∀ q ∈ hb_c159_2, decode hb_h159.2.1 q.1 = .ok q.2 := px_rwc_ok (by decide +kernel)
theorem hb_d159_3 : ∀ q ∈ hb_c159_3, decode hb_h159.2.1 q.1 = .ok q.2 := px_rwc_ok (by decide +kernel)
set_option maxRecDepth 100000 in
theorem hb_w159 : lw_tbl[1225]? = some (Cond.code hb_h159.1 hb_h159.2.1 hb_h159.2.2.1 hb_h159.2.2.2.1) := by rfl
theorem hb_g159 : px_bM hb_h159 95 = true := by decide +kernel
set_option maxRecDepth 100000 in
theorem hb_o159 : px_okM px_Ts px_Ns hb_cl hb_SL hb_P hb_m159 := ⟨px_bM_ok hb_w159 hb_g159, List.forall_mem_append.mpr ⟨hb_d159_0, List.forall_mem_append.mpr ⟨hb_d159_1, List.forall_mem_append.mpr ⟨hb_d159_2, hb_d159_3⟩⟩⟩, px_bL_ok hb_l11⟩

end

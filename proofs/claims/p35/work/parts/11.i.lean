noncomputable section
theorem hb_d160_0 : ∀ q ∈ hb_c160_0, decode hb_h160.2.1 q.1 = .ok q.2 := px_rwc_ok (by decide +kernel)
theorem hb_d160_1 : ∀ q ∈ hb_c160_1, decode hb_h160.2.1 q.1 = .ok q.2 := px_rwc_ok (by decide +kernel)
theorem hb_d160_2 : ∀ q ∈ hb_c160_2, decode hb_h160.2.1 q.1 = .ok q.2 := px_rwc_ok (by decide +kernel)
theorem hb_d160_3 : ∀ q ∈ hb_c160_3, decode hb_h160.2.1 q.1 = .ok q.2 := px_rwc_ok (by decide +kernel)
set_option maxRecDepth 100000 in
theorem hb_w160 : lw_tbl[1241]? = some (Cond.code hb_h160.1 hb_h160.2.1 hb_h160.2.2.1 hb_h160.2.2.2.1) := by rfl
theorem hb_g160 : px_bM hb_h160 95 = true := by decide +kernel
set_option maxRecDepth 100000 in
theorem hb_o160 : px_okM px_Ts px_Ns hb_cl hb_SL hb_P hb_m160 := ⟨px_bM_ok hb_w160 hb_g160, List.forall_mem_append.mpr ⟨hb_d160_0, List.forall_mem_append.mpr ⟨hb_d160_1, List.forall_mem_append.mpr ⟨hb_d160_2, hb_d160_3⟩⟩⟩, px_bL_ok hb_l11⟩
theorem hb_d161_0 : ∀ q ∈ hb_c161_0, decode hb_h161.2.1 q.1 = .ok q.2 := px_rwc_ok (by decide +kernel)
theorem hb_d161_1 : ∀ q ∈ hb_c161_1, decode hb_h161.2.1 q.1 = .ok q.2 := px_rwc_ok (by decide +kernel)
theorem hb_d161_2 : ∀ q ∈ hb_c161_2, decode hb_h161.2.1 q.1 = .ok q.2 := px_rwc_ok (by decide +kernel)
theorem hb_d161_3 : ∀ q ∈ hb_c161_3, decode hb_h161.2.1 q.1 = .ok q.2 := px_rwc_ok (by decide +kernel)
theorem hb_d161_4 : ∀ q ∈ hb_c161_4, decode hb_h161.2.1 q.1 = .ok q.2 := px_rwc_ok (by decide +kernel)
theorem hb_d161_5 : ∀ q ∈ hb_c161_5, decode hb_h161.2.1 q.1 = .ok q.2 := px_rwc_ok (by decide +kernel)
set_option maxRecDepth 100000 in
theorem hb_w161 : lw_tbl[1249]? = some (Cond.code hb_h161.1 hb_h161.2.1 hb_h161.2.2.1 hb_h161.2.2.2.1) := by rfl
theorem hb_g161 : px_bM hb_h161 95 = true := by decide +kernel
set_option maxRecDepth 100000 in
theorem hb_o161 : px_okM px_Ts px_Ns hb_cl hb_SL hb_P hb_m161 := ⟨px_bM_ok hb_w161 hb_g161, List.forall_mem_append.mpr ⟨hb_d161_0, List.forall_mem_append.mpr ⟨hb_d161_1, List.forall_mem_append.mpr ⟨hb_d161_2, List.forall_mem_append.mpr ⟨hb_d161_3, List.forall_mem_append.mpr ⟨hb_d161_4, hb_d161_5⟩⟩⟩⟩⟩, px_bL_ok hb_l11⟩
theorem hb_d162_0 : ∀ q ∈ hb_c162_0, decode hb_h162.2.1 q.1 = .ok q.2 := px_rwc_ok (by decide +kernel)
theorem hb_d162_1 : ∀ q ∈ hb_c162_1, decode hb_h162.2.1 q.1 = .ok q.2 := px_rwc_ok (by decide +kernel)
theorem hb_d162_2 : ∀ q ∈ hb_c162_2, decode hb_h162.2.1 q.1 = .ok q.2 := px_rwc_ok (by decide +kernel)
theorem hb_d162_3 : ∀ q ∈ hb_c162_3, decode hb_h162.2.1 q.1 = .ok q.2 := px_rwc_ok (by decide +kernel)
set_option maxRecDepth 100000 in
theorem hb_w162 : lw_tbl[1270]? = some (Cond.code hb_h162.1 hb_h162.2.1 hb_h162.2.2.1 hb_h162.2.2.2.1) := by rfl
theorem hb_g162 : px_bM hb_h162 95 = true := by decide +kernel
set_option maxRecDepth 100000 in
theorem hb_o162 : px_okM px_Ts px_Ns hb_cl hb_SL hb_P hb_m162 := ⟨px_bM_ok hb_w162 hb_g162, List.forall_mem_append.mpr ⟨hb_d162_0, List.forall_mem_append.mpr ⟨hb_d162_1, List.forall_mem_append.mpr ⟨hb_d162_2, hb_d162_3⟩⟩⟩, px_bL_ok hb_l11⟩
theorem hb_d163_0 : ∀ q ∈ hb_c163_0, decode hb_h163.2.1 q.1 = .ok q.2 := px_rwc_ok (by decide +kernel)
theorem hb_d163_1 : ∀ q ∈ hb_c163_1, decode hb_h163.2.1 q.1 = .ok q.2 := px_rwc_ok (by decide +kernel)
theorem hb_d163_2 : ∀ q ∈ hb_c163_2, decode hb_h163.2.1 q.1 = .ok q.2 := px_rwc_ok (by decide +kernel)
theorem hb_d163_3 : ∀ q ∈ hb_c163_3, decode hb_h163.2.1 q.1 = .ok q.2 := px_rwc_ok (by decide +kernel)
set_option maxRecDepth 100000 in
theorem hb_w163 : lw_tbl[1281]? = some (Cond.code hb_h163.1 hb_h163.2.1 hb_h163.2.2.1 hb_h163.2.2.2.1) := by rfl
theorem hb_g163 : px_bM hb_h163 95 = true := by decide +kernel
set_option maxRecDepth 100000 in
theorem hb_o163 : px_okM px_Ts px_Ns hb_cl hb_SL hb_P hb_m163 := ⟨px_bM_ok hb_w163 hb_g163, List.forall_mem_append.mpr ⟨hb_d163_0, List.forall_mem_append.mpr ⟨hb_d163_1, List.forall_mem_append.mpr ⟨hb_d163_2, hb_d163_3⟩⟩⟩, px_bL_ok hb_l11⟩
theorem hb_d164_0 : ∀ q ∈ hb_c164_0, decode hb_h164.2.1 q.1 = .ok q.2 := px_rwc_ok (by decide +kernel)
theorem hb_d164_1 : ∀ q ∈ hb_c164_1, decode hb_h164.2.1 q.1 = .ok q.2 := px_rwc_ok (by decide +kernel)
theorem hb_d164_2 : ∀ q ∈ hb_c164_2, decode hb_h164.2.1 q.1 = .ok q.2 := px_rwc_ok (by decide +kernel)
theorem hb_d164_3 : ∀ q ∈ hb_c164_3, decode hb_h164.2.1 q.1 = .ok q.2 := px_rwc_ok (by decide +kernel)
theorem hb_d164_4 : ∀ q ∈ hb_c164_4, decode hb_h164.2.1 q.1 = .ok q.2 := px_rwc_ok (by decide +kernel)
set_option maxRecDepth 100000 in
theorem hb_w164 : lw_tbl[1296]? = some (Cond.code hb_h164.1 hb_h164.2.1 hb_h164.2.2.1 hb_h164.2.2.2.1) := by rfl
theorem hb_g164 : px_bM hb_h164 95 = true := by decide +kernel
set_option maxRecDepth 100000 in
theorem hb_o164 : px_okM px_Ts px_Ns hb_cl hb_SL hb_P hb_m164 := ⟨px_bM_ok hb_w164 hb_g164, List.forall_mem_append.mpr ⟨hb_d164_0, List.forall_mem_append.mpr ⟨hb_d164_1, List.forall_mem_append.mpr ⟨hb_d164_2, List.forall_mem_append.mpr ⟨hb_d164_3, hb_d164_4⟩⟩⟩⟩, px_bL_ok hb_l11⟩
theorem hb_d165_0 : ∀ q ∈ hb_c165_0, decode hb_h165.2.1 q.1 = .ok q.2 := px_rwc_ok (by decide +kernel)
theorem hb_d165_1 : ∀ q ∈ hb_c165_1, decode hb_h165.2.1 q.1 = .ok q.2 := px_rwc_ok (by decide +kernel)
theorem hb_d165_2 : ∀ q ∈ hb_c165_2, decode hb_h165.2.1 q.1 = .ok q.2 := px_rwc_ok (by decide +kernel)
theorem hb_d165_3 : ∀ q ∈ hb_c165_3, decode hb_h165.2.1 q.1 = .ok q.2 := px_rwc_ok (by decide +kernel)
theorem hb_d165_4 : ∀ q ∈ hb_c165_4, decode hb_h165.2.1 q.1 = .ok q.2 := px_rwc_ok (by decide +kernel)
theorem hb_d165_5 : ∀ q ∈ hb_c165_5, decode hb_h165.2.1 q.1 = .ok q.2 := px_rwc_ok (by decide +kernel)
theorem hb_d165_6 : ∀ q ∈ hb_c165_6, decode hb_h165.2.1 q.1 = .ok q.2 := px_rwc_ok (by decide +kernel)
theorem hb_d165_7 : ∀ q ∈ hb_c165_7, decode hb_h165.2.1 q.1 = .ok q.2 := px_rwc_ok (by decide +kernel)
theorem hb_d165_8 : ∀ q ∈ hb_c165_8, decode hb_h165.2.1 q.1 = .ok q.2 := px_rwc_ok (by decide +kernel)
theorem hb_d165_9 : ∀ q ∈ hb_c165_9, decode hb_h165.2.1 q.1 = .ok q.2 := px_rwc_ok (by decide +kernel)
theorem hb_d165_10 : ∀ q ∈ hb_c165_10, decode hb_h165.2.1 q.1 = .ok q.2 := px_rwc_ok (by decide +kernel)
set_option maxRecDepth 100000 in
theorem hb_w165 : lw_tbl[1308]? = some (Cond.code hb_h165.1 hb_h165.2.1 hb_h165.2.2.1 hb_h165.2.2.2.1) := by rfl
theorem hb_g165 : px_bM hb_h165 95 = true := by decide +kernel
set_option maxRecDepth 100000 in
theorem hb_o165 : px_okM px_Ts px_Ns hb_cl hb_SL hb_P hb_m165 := ⟨px_bM_ok hb_w165 hb_g165, List.forall_mem_append.mpr ⟨hb_d165_0, List.forall_mem_append.mpr ⟨hb_d165_1, List.forall_mem_append.mpr ⟨hb_d165_2, List.forall_mem_append.mpr ⟨hb_d165_3, List.forall_mem_append.mpr ⟨hb_d165_4, List.forall_mem_append.mpr ⟨hb_d165_5, List.forall_mem_append.mpr ⟨hb_d165_6, List.forall_mem_append.mpr ⟨hb_d165_7, List.forall_mem_append.mpr ⟨hb_d165_8, List.forall_mem_append.mpr ⟨hb_d165_9, hb_d165_10⟩⟩⟩⟩⟩⟩⟩⟩⟩⟩, px_bL_ok hb_l11⟩
theorem hb_d166_0 : ∀ q ∈ hb_c166_0, decode hb_h166.2.1 q.1 = .ok q.2 := px_rwc_ok (by decide +kernel)
theorem hb_d166_1 : ∀ q ∈ hb_c166_1, decode hb_h166.2.1 q.1 = .ok q.2 := px_rwc_ok (by decide +kernel)
theorem hb_d166_2 : ∀ q ∈ hb_c166_2, decode hb_h166.2.1 q.1 = .ok q.2 := px_rwc_ok (by decide +kernel)
theorem hb_d166_3 : ∀ q ∈ hb_c166_3, decode hb_h166.2.1 q.1 = .ok q.2 := px_rwc_ok (by decide +kernel)
set_option maxRecDepth 100000 in
theorem hb_w166 : lw_tbl[1313]? = some (Cond.code hb_h166.1 hb_h166.2.1 hb_h166.2.2.1 hb_h166.2.2.2.1) := by rfl
theorem hb_g166 : px_bM hb_h166 95 = true := by decide +kernel
set_option maxRecDepth 100000 in
theorem hb_o166 : px_okM px_Ts px_Ns hb_cl hb_SL hb_P hb_m166 := ⟨px_bM_ok hb_w166 hb_g166, List.forall_mem_append.mpr ⟨hb_d166_0, List.forall_mem_append.mpr ⟨hb_d166_1, List.forall_mem_append.mpr ⟨hb_d166_2, hb_d166_3⟩⟩⟩, px_bL_ok hb_l11⟩
theorem hb_d167_0 : ∀ q ∈ hb_c167_0, decode hb_h167.2.1 q.1 = .ok q.2 := px_rwc_ok (by decide +kernel)
theorem hb_d167_1 : ∀ q ∈ hb_c167_1, decode hb_h167.2.1 q.1 = .ok q.2 := px_rwc_ok (by decide +kernel)
theorem hb_d167_2 : ∀ q ∈ hb_c167_2, decode hb_h167.2.1 q.1 = .ok q.2 := px_rwc_ok (by decide +kernel)
theorem hb_d167_3 : ∀ q ∈ hb_c167_3, decode hb_h167.2.1 q.1 = .ok q.2 := px_rwc_ok (by decide +kernel)
theorem hb_d167_4 : ∀ q ∈ hb_c167_4, decode hb_h167.2.1 q.1 = .ok q.2 := px_rwc_ok (by decide +kernel)
set_option maxRecDepth 100000 in
theorem hb_w167 : lw_tbl[1325]? = some (Cond.code hb_h167.1 hb_h167.2.1 hb_h167.2.2.1 hb_h167.2.2.2.1) := by rfl
theorem hb_g167 : px_bM hb_h167 95 = true := by decide +kernel
set_option maxRecDepth 100000 in
theorem hb_o167 : px_okM px_Ts px_Ns hb_cl hb_SL hb_P hb_m167 := ⟨px_bM_ok hb_w167 hb_g167, List.forall_mem_append.mpr ⟨hb_d167_0, List.forall_mem_append.mpr ⟨hb_d167_1, List.forall_mem_append.mpr ⟨hb_d167_2, List.forall_mem_append.mpr ⟨hb_d167_3, hb_d167_4⟩⟩⟩⟩, px_bL_ok hb_l11⟩
theorem hb_d168_0 : ∀ q ∈ hb_c168_0, decode hb_h168.2.1 q.1 = .ok q.2 := px_rwc_ok (by decide +kernel)
theorem hb_d168_1 : ∀ q ∈ hb_c168_1, decode hb_h168.2.1 q.1 = .ok q.2 := px_rwc_ok (by decide +kernel)
theorem hb_d168_2 : ∀ q ∈ hb_c168_2, decode hb_h168.2.1 q.1 = .ok q.2 := px_rwc_ok (by decide +kernel)
theorem hb_d168_3 : ∀ q ∈ hb_c168_3, decode hb_h168.2.1 q.1 = .ok q.2 := px_rwc_ok (by decide +kernel)
theorem hb_d168_4 : ∀ q ∈ hb_c168_4, decode hb_h168.2.1 q.1 = .ok q.2 := px_rwc_ok (by decide +kernel)
theorem hb_d168_5 : ∀ q ∈ hb_c168_5, decode hb_h168.2.1 q.1 = .ok q.2 := px_rwc_ok (by decide +kernel)
theorem hb_d168_6 : ∀ q ∈ hb_c168_6, decode hb_h168.2.1 q.1 = .ok q.2 := px_rwc_ok (by decide +kernel)
set_option maxRecDepth 100000 in
theorem hb_w168 : lw_tbl[1336]? = some (Cond.code hb_h168.1 hb_h168.2.1 hb_h168.2.2.1 hb_h168.2.2.2.1) := by rfl
theorem hb_g168 : px_bM hb_h168 95 = true := by decide +kernel
set_option maxRecDepth 100000 in
theorem hb_o168 : px_okM px_Ts px_Ns hb_cl hb_SL hb_P hb_m168 := ⟨px_bM_ok hb_w168 hb_g168, List.forall_mem_append.mpr ⟨hb_d168_0, List.forall_mem_append.mpr ⟨hb_d168_1, List.forall_mem_append.mpr ⟨hb_d168_2, List.forall_mem_append.mpr ⟨hb_d168_3, List.forall_mem_append.mpr ⟨hb_d168_4, List.forall_mem_append.mpr ⟨hb_d168_5, hb_d168_6⟩⟩⟩⟩⟩⟩, px_bL_ok hb_l11⟩
theorem hb_d169_0 : ∀ q ∈ hb_c169_0, decode hb_h169.2.1 q.1 = .ok q.2 := px_rwc_ok (by decide +kernel)
theorem hb_d169_1 : ∀ q ∈ hb_c169_1, decode hb_h169.2.1 q.1 = .ok q.2 := px_rwc_ok (by decide +kernel)
theorem hb_d169_2 : ∀ q ∈ hb_c169_2, decode hb_h169.2.1 q.1 = .ok q.2 := px_rwc_ok (by decide +kernel)
set_option maxRecDepth 100000 in
theorem hb_w169 : lw_tbl[1390]? = some (Cond.code hb_h169.1 hb_h169.2.1 hb_h169.2.2.1 hb_h169.2.2.2.1) := by rfl
theorem hb_g169 : px_bM hb_h169 95 = true := by decide +kernel
set_option maxRecDepth 100000 in
theorem hb_o169 : px_okM px_Ts px_Ns hb_cl hb_SL hb_P hb_m169 := ⟨px_bM_ok hb_w169 hb_g169, List.forall_mem_append.mpr ⟨hb_d169_0, List.forall_mem_append.mpr ⟨hb_d169_1, hb_d169_2⟩⟩, px_bL_ok hb_l11⟩
theorem hb_d170_0 : ∀ q ∈ hb_c170_0, decode hb_h170.2.1 q.1 = .ok q.2 := px_rwc_ok (by decide +kernel)
theorem hb_d170_1 : ∀ q ∈ hb_c170_1, decode hb_h170.2.1 q.1 = .ok q.2 := px_rwc_ok (by decide +kernel)
theorem hb_d170_2 : ∀ q ∈ hb_c170_2, decode hb_h170.2.1 q.1 = .ok q.2 := px_rwc_ok (by decide +kernel)
theorem hb_d170_3 : ∀ q ∈ hb_c170_3, decode hb_h170.2.1 q.1 = .ok q.2 := px_rwc_ok (by decide +kernel)
theorem hb_d170_4 : ∀ q ∈ hb_c170_4, decode hb_h170.2.1 q.1 = .ok q.2 := px_rwc_ok (by decide +kernel)
theorem hb_d170_5 : ∀ q ∈ hb_c170_5, decode hb_h170.2.1 q.1 = .ok q.2 := px_rwc_ok (by decide +kernel)
theorem hb_d170_6 : ∀ q ∈ hb_c170_6, decode hb_h170.2.1 q.1 = .ok q.2 := px_rwc_ok (by decide +kernel)
theorem hb_d170_7 : ∀ q ∈ hb_c170_7, decode hb_h170.2.1 q.1 = .ok q.2 := px_rwc_ok (by decide +kernel)
theorem hb_d170_8 : ∀ q ∈ hb_c170_8, decode hb_h170.2.1 q.1 = .ok q.2 := px_rwc_ok (by decide +kernel)
set_option maxRecDepth 100000 in
theorem hb_w170 : lw_tbl[1394]? = some (Cond.code hb_h170.1 hb_h170.2.1 hb_h170.2.2.1 hb_h170.2.2.2.1) := by rfl
theorem hb_g170 : px_bM hb_h170 95 = true := by decide +kernel
set_option maxRecDepth 100000 in
theorem hb_o170 : px_okM px_Ts px_Ns hb_cl hb_SL hb_P hb_m170 := ⟨px_bM_ok hb_w170 hb_g170, List.forall_mem_append.mpr ⟨hb_d170_0, List.forall_mem_append.mpr ⟨hb_d170_1, List.forall_mem_append.mpr ⟨hb_d170_2, List.forall_mem_append.mpr ⟨hb_d170_3, List.forall_mem_append.mpr ⟨hb_d170_4, List.forall_mem_append.mpr ⟨hb_d170_5, List.forall_mem_append.mpr ⟨hb_d170_6, List.forall_mem_append.mpr ⟨hb_d170_7, hb_d170_8⟩⟩⟩⟩⟩⟩⟩⟩, px_bL_ok hb_l11⟩
theorem hb_d171_0 : ∀ q ∈ hb_c171_0, decode hb_h171.2.1 q.1 = .ok q.2 := px_rwc_ok (by decide +kernel)
theorem hb_d171_1 : ∀ q ∈ hb_c171_1, decode hb_h171.2.1 q.1 = .ok q.2 := px_rwc_ok (by decide +kernel)
theorem hb_d171_2 : ∀ q ∈ hb_c171_2, decode hb_h171.2.1 q.1 = .ok q.2 := px_rwc_ok (by decide +kernel)
theorem hb_d171_3 : ∀ q ∈ hb_c171_3, decode hb_h171.2.1 q.1 = .ok q.2 := px_rwc_ok (by decide +kernel)
theorem hb_d171_4 : ∀ q ∈ hb_c171_4, decode hb_h171.2.1 q.1 = .ok q.2 := px_rwc_ok (by decide +kernel)
set_option maxRecDepth 100000 in
theorem hb_w171 : lw_tbl[1402]? = some (Cond.code hb_h171.1 hb_h171.2.1 hb_h171.2.2.1 hb_h171.2.2.2.1) := by rfl
theorem hb_g171 : px_bM hb_h171 95 = true := by decide +kernel
set_option maxRecDepth 100000 in
theorem hb_o171 : px_okM px_Ts px_Ns hb_cl hb_SL hb_P hb_m171 := ⟨px_bM_ok hb_w171 hb_g171, List.forall_mem_append.mpr ⟨hb_d171_0, List.forall_mem_append.mpr ⟨hb_d171_1, List.forall_mem_append.mpr ⟨hb_d171_2, List.forall_mem_append.mpr ⟨hb_d171_3, hb_d171_4⟩⟩⟩⟩, px_bL_ok hb_l11⟩
theorem hb_d172_0 : ∀ q ∈ hb_c172_0, decode hb_h172.2.1 q.1 = .ok q.2 := px_rwc_ok (by decide +kernel)
theorem hb_d172_1 : ∀ q ∈ hb_c172_1, decode hb_h172.2.1 q.1 = .ok q.2 := px_rwc_ok (by decide +kernel)
theorem hb_d172_2 : ∀ q ∈ hb_c172_2, decode hb_h172.2.1 q.1 = .ok q.2 := px_rwc_ok (by decide +kernel)
theorem hb_d172_3 : ∀ q ∈ hb_c172_3, decode hb_h172.2.1 q.1 = .ok q.2 := px_rwc_ok (by decide +kernel)
theorem hb_d172_4 : ∀ q ∈ hb_c172_4, decode hb_h172.2.1 q.1 = .ok q.2 := px_rwc_ok (by decide +kernel)
theorem hb_d172_5 : ∀ q ∈ hb_c172_5, decode hb_h172.2.1 q.1 = .ok q.2 := px_rwc_ok (by decide +kernel)
set_option maxRecDepth 100000 in
theorem hb_w172 : lw_tbl[1435]? = some (Cond.code hb_h172.1 hb_h172.2.1 hb_h172.2.2.1 hb_h172.2.2.2.1) := by rfl
theorem hb_g172 : px_bM hb_h172 95 = true := by decide +kernel
set_option maxRecDepth 100000 in
theorem hb_o172 : px_okM px_Ts px_Ns hb_cl hb_SL hb_P hb_m172 := ⟨px_bM_ok hb_w172 hb_g172, List.forall_mem_append.mpr ⟨hb_d172_0, List.forall_mem_append.mpr ⟨hb_d172_1, List.forall_mem_append.mpr ⟨hb_d172_2, List.forall_mem_append.mpr ⟨hb_d172_3, List.forall_mem_append.mpr ⟨hb_d172_4, hb_d172_5⟩⟩⟩⟩⟩, px_bL_ok hb_l11⟩
theorem hb_d173_0 : ∀ q ∈ hb_c173_0, decode hb_h173.2.1 q.1 = .ok q.2 := px_rwc_ok (by decide +kernel)
theorem hb_d173_1 : ∀ q ∈ hb_c173_1, decode hb_h173.2.1 q.1 = .ok q.2 := px_rwc_ok (by decide +kernel)
set_option maxRecDepth 100000 in
theorem hb_w173 : lw_tbl[658]? = some (Cond.code hb_h173.1 hb_h173.2.1 hb_h173.2.2.1 hb_h173.2.2.2.1) := by rfl
theorem hb_g173 : px_bM hb_h173 95 = true := by decide +kernel
set_option maxRecDepth 100000 in
theorem hb_o173 : px_okM px_Ts px_Ns hb_cl hb_SL hb_P hb_m173 := ⟨px_bM_ok hb_w173 hb_g173, List.forall_mem_append.mpr ⟨hb_d173_0, hb_d173_1⟩, px_bL_ok hb_l11⟩
theorem hb_d174_0 : ∀ q ∈ hb_c174_0, decode hb_h174.2.1 q.1 = .ok q.2 := px_rwc_ok (by decide +kernel)
theorem hb_d174_1 : ∀ q ∈ hb_c174_1, decode hb_h174.2.1 q.1 = .ok q.2 := px_rwc_ok (by decide +kernel)
set_option maxRecDepth 100000 in
theorem hb_w174 : lw_tbl[784]? = some (Cond.code hb_h174.1 hb_h174.2.1 hb_h174.2.2.1 hb_h174.2.2.2.1) := by rfl
theorem hb_g174 : px_bM hb_h174 95 = true := by decide +kernel
set_option maxRecDepth 100000 in
theorem hb_o174 : px_okM px_Ts px_Ns hb_cl hb_SL hb_P hb_m174 := ⟨px_bM_ok hb_w174 hb_g174, List.forall_mem_append.mpr ⟨hb_d174_0, hb_d174_1⟩, px_bL_ok hb_l11⟩
theorem hb_d175_0 : ∀ q ∈ hb_c175_0, decode hb_h175.2.1 q.1 = .ok q.2 := px_rwc_ok (by decide +kernel)
theorem hb_d175_1 : ∀ q ∈ hb_c175_1, decode hb_h175.2.1 q.1 = .ok q.2 := px_rwc_ok (by decide +kernel)
set_option maxRecDepth 100000 in
theorem hb_w175 : lw_tbl[898]? = some (Cond.code hb_h175.1 hb_h175.2.1 hb_h175.2.2.1 hb_h175.2.2.2.1) := by rfl
theorem hb_g175 : px_bM hb_h175 95 = true := by decide +kernel
set_option maxRecDepth 100000 in
theorem hb_o175 : px_okM px_Ts px_Ns hb_cl hb_SL hb_P hb_m175 := ⟨px_bM_ok hb_w175 hb_g175, List.forall_mem_append.mpr ⟨hb_d175_0, hb_d175_1⟩, px_bL_ok hb_l11⟩
theorem hb_d176_0 : ∀ q ∈ hb_c176_0, decode hb_h176.2.1 q.1 = .ok q.2 := px_rwc_ok (by decide +kernel)
theorem hb_d176_1 : ∀ q ∈ hb_c176_1, decode hb_h176.2.1 q.1 = .ok q.2 := px_rwc_ok (by decide +kernel)
set_option maxRecDepth 100000 in
theorem hb_w176 : lw_tbl[737]? = some (Cond.code hb_h176.1 hb_h176.2.1 hb_h176.2.2.1 hb_h176.2.2.2.1) := by rfl
theorem hb_g176 : px_bM hb_h176 95 = true := by decide +kernel
set_option maxRecDepth 100000 in
theorem hb_o176 : px_okM px_Ts px_Ns hb_cl hb_SL hb_P hb_m176 := ⟨px_bM_ok hb_w176 hb_g176, List.forall_mem_append.mpr ⟨hb_d176_0, hb_d176_1⟩, px_bL_ok hb_l11⟩
theorem hb_d177_0 : ∀ q ∈ hb_c177_0, decode hb_h177.2.1 q.1 = .ok q.2 := px_rwc_ok (by decide +kernel)
theorem hb_d177_1 : ∀ q ∈ hb_c177_1, decode hb_h177.2.1 q.1 = .ok q.2 := px_rwc_ok (by decide +kernel)
theorem hb_d177_2 : ∀ q ∈ hb_c177_2, decode hb_h177.2.1 q.1 = .ok q.2 := px_rwc_ok (by decide +kernel)
set_option maxRecDepth 100000 in
theorem hb_w177 : lw_tbl[1317]? = some (Cond.code hb_h177.1 hb_h177.2.1 hb_h177.2.2.1 hb_h177.2.2.2.1) := by rfl
theorem hb_g177 : px_bM hb_h177 95 = true := by decide +kernel
set_option maxRecDepth 100000 in
theorem hb_o177 : px_okM px_Ts px_Ns hb_cl hb_SL hb_P hb_m177 := ⟨px_bM_ok hb_w177 hb_g177, List.forall_mem_append.mpr ⟨hb_d177_0, List.forall_mem_append.mpr ⟨hb_d177_1, hb_d177_2⟩⟩, px_bL_ok hb_l11⟩
theorem hb_d178_0 : ∀ q ∈ hb_c178_0, decode hb_h178.2.1 q.1 = .ok q.2 := px_rwc_ok (by decide +kernel)
theorem hb_d178_1 : ∀ q ∈ hb_c178_1, decode hb_h178.2.1 q.1 = .ok q.2 := px_rwc_ok (by decide +kernel)
theorem hb_d178_2 : ∀ q ∈ hb_c178_2, decode hb_h178.2.1 q.1 = .ok q.2 := px_rwc_ok (by decide +kernel)
theorem hb_d178_3 : ∀ q ∈ hb_c178_3, decode hb_h178.2.1 q.1 = .ok q.2 := px_rwc_ok (by decide +kernel)
theorem hb_d178_4 : ∀ q ∈ hb_c178_4, decode hb_h178.2.1 q.1 = .ok q.2 := px_rwc_ok (by decide +kernel)
theorem hb_d178_5 : ∀ q ∈ hb_c178_5, decode hb_h178.2.1 q.1 = .ok q.2 := px_rwc_ok (by decide +kernel)
theorem hb_d178_6 : ∀ q ∈ hb_c178_6, decode hb_h178.2.1 q.1 = .ok q.2 := px_rwc_ok (by decide +kernel)
theorem hb_d178_7 : ∀ q ∈ hb_c178_7, decode hb_h178.2.1 q.1 = .ok q.2 := px_rwc_ok (by decide +kernel)
set_option maxRecDepth 100000 in
theorem hb_w178 : lw_tbl[1329]? = some (Cond.code hb_h178.1 hb_h178.2.1 hb_h178.2.2.1 hb_h178.2.2.2.1) := by rfl
theorem hb_g178 : px_bM hb_h178 95 = true := by decide +kernel
set_option maxRecDepth 100000 in
theorem hb_o178 : px_okM px_Ts px_Ns hb_cl hb_SL hb_P hb_m178 := ⟨px_bM_ok hb_w178 hb_g178, List.forall_mem_append.mpr ⟨hb_d178_0, List.forall_mem_append.mpr ⟨hb_d178_1, List.forall_mem_append.mpr ⟨hb_d178_2, List.forall_mem_append.mpr ⟨hb_d178_3, List.forall_mem_append.mpr ⟨hb_d178_4, List.forall_mem_append.mpr ⟨hb_d178_5, List.forall_mem_append.mpr ⟨hb_d178_6, hb_d178_7⟩⟩⟩⟩⟩⟩⟩, px_bL_ok hb_l11⟩
theorem hb_d179_0 : ∀ q ∈ hb_c179_0, decode hb_h179.2.1 q.1 = .ok q.2 := px_rwc_ok (by decide +kernel)
theorem hb_d179_1 : ∀ q ∈ hb_c179_1, decode hb_h179.2.1 q.1 = .ok q.2 := px_rwc_ok (by decide +kernel)
theorem hb_d179_2 : ∀ q ∈ hb_c179_2, decode hb_h179.2.1 q.1 = .ok q.2 := px_rwc_ok (by decide +kernel)
theorem hb_d179_3 : ∀ q ∈ hb_c179_3, decode hb_h179.2.1 q.1 = .ok q.2 := px_rwc_ok (by decide +kernel)
set_option maxRecDepth 100000 in
theorem hb_w179 : lw_tbl[1352]? = some (Cond.code hb_h179.1 hb_h179.2.1 hb_h179.2.2.1 hb_h179.2.2.2.1) := by rfl
theorem hb_g179 : px_bM hb_h179 95 = true := by decide +kernel
set_option maxRecDepth 100000 in
theorem hb_o179 : px_okM px_Ts px_Ns hb_cl hb_SL hb_P hb_m179 := ⟨px_bM_ok hb_w179 hb_g179, List.forall_mem_append.mpr ⟨hb_d179_0, List.forall_mem_append.mpr ⟨hb_d179_1, List.forall_mem_append.mpr ⟨hb_d179_2, hb_d179_3⟩⟩⟩, px_bL_ok hb_l11⟩

end

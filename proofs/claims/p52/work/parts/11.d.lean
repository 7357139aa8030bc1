theorem hb_d132_0 : ∀ q ∈ hb_c132_0, decode hb_h132.2.1 q.1 = .ok q.2 := by decide +kernel
theorem hb_g132 : px_bM hb_h132 800 95 = true := by decide +kernel
theorem hb_o132 : px_okM px_Ts px_Ns hb_cl hb_SL hb_P hb_m132 := ⟨px_bM_ok hb_g132, hb_d132_0, px_bL_ok hb_l11⟩
theorem hb_d133_0 : ∀ q ∈ hb_c133_0, decode hb_h133.2.1 q.1 = .ok q.2 := by decide +kernel
theorem hb_g133 : px_bM hb_h133 815 95 = true := by decide +kernel
theorem hb_o133 : px_okM px_Ts px_Ns hb_cl hb_SL hb_P hb_m133 := ⟨px_bM_ok hb_g133, hb_d133_0, px_bL_ok hb_l11⟩
theorem hb_d134_0 : ∀ q ∈ hb_c134_0, decode hb_h134.2.1 q.1 = .ok q.2 := by decide +kernel
theorem hb_g134 : px_bM hb_h134 823 95 = true := by decide +kernel
theorem hb_o134 : px_okM px_Ts px_Ns hb_cl hb_SL hb_P hb_m134 := ⟨px_bM_ok hb_g134, hb_d134_0, px_bL_ok hb_l11⟩
theorem hb_d135_0 : ∀ q ∈ hb_c135_0, decode hb_h135.2.1 q.1 = .ok q.2 := by decide +kernel
theorem hb_g135 : px_bM hb_h135 838 95 = true := by decide +kernel
theorem hb_o135 : px_okM px_Ts px_Ns hb_cl hb_SL hb_P hb_m135 := ⟨px_bM_ok hb_g135, hb_d135_0, px_bL_ok hb_l11⟩
theorem hb_d136_0 : ∀ q ∈ hb_c136_0, decode hb_h136.2.1 q.1 = .ok q.2 := by decide +kernel
theorem hb_g136 : px_bM hb_h136 847 95 = true := by decide +kernel
theorem hb_o136 : px_okM px_Ts px_Ns hb_cl hb_SL hb_P hb_m136 := ⟨px_bM_ok hb_g136, hb_d136_0, px_bL_ok hb_l11⟩
theorem hb_d137_0 : ∀ q ∈ hb_c137_0, decode hb_h137.2.1 q.1 = .ok q.2 := by decide +kernel
theorem hb_g137 : px_bM hb_h137 864 95 = true := by decide +kernel
theorem hb_o137 : px_okM px_Ts px_Ns hb_cl hb_SL hb_P hb_m137 := ⟨px_bM_ok hb_g137, hb_d137_0, px_bL_ok hb_l11⟩
theorem hb_d138_0 : ∀ q ∈ hb_c138_0, decode hb_h138.2.1 q.1 = .ok q.2 := by decide +kernel
theorem hb_g138 : px_bM hb_h138 868 95 = true := by decide +kernel
theorem hb_o138 : px_okM px_Ts px_Ns hb_cl hb_SL hb_P hb_m138 := ⟨px_bM_ok hb_g138, hb_d138_0, px_bL_ok hb_l11⟩
theorem hb_d139_0 : ∀ q ∈ hb_c139_0, decode hb_h139.2.1 q.1 = .ok q.2 := by decide +kernel
theorem hb_g139 : px_bM hb_h139 872 95 = true := by decide +kernel
theorem hb_o139 : px_okM px_Ts px_Ns hb_cl hb_SL hb_P hb_m139 := ⟨px_bM_ok hb_g139, hb_d139_0, px_bL_ok hb_l11⟩
theorem hb_d140_0 : ∀ q ∈ hb_c140_0, decode hb_h140.2.1 q.1 = .ok q.2 := by decide +kernel
theorem hb_d140_1 : ∀ q ∈ hb_c140_1, decode hb_h140.2.1 q.1 = .ok q.2 := by decide +kernel
theorem hb_g140 : px_bM hb_h140 885 95 = true := by decide +kernel
theorem hb_o140 : px_okM px_Ts px_Ns hb_cl hb_SL hb_P hb_m140 := ⟨px_bM_ok hb_g140, List.forall_mem_append.mpr ⟨hb_d140_0, hb_d140_1⟩, px_bL_ok hb_l11⟩
theorem hb_d141_0 : ∀ q ∈ hb_c141_0, decode hb_h141.2.1 q.1 = .ok q.2 := by decide +kernel
theorem hb_d141_1 : ∀ q ∈ hb_c141_1, decode hb_h141.2.1 q.1 = .ok q.2 := by decide +kernel
theorem hb_g141 : px_bM hb_h141 902 95 = true := by decide +kernel
theorem hb_o141 : px_okM px_Ts px_Ns hb_cl hb_SL hb_P hb_m141 := ⟨px_bM_ok hb_g141, List.forall_mem_append.mpr ⟨hb_d141_0, hb_d141_1⟩, px_bL_ok hb_l11⟩
theorem hb_d142_0 : ∀ q ∈ hb_c142_0, decode hb_h142.2.1 q.1 = .ok q.2 := by decide +kernel
theorem hb_g142 : px_bM hb_h142 914 95 = true := by decide +kernel
theorem hb_o142 : px_okM px_Ts px_Ns hb_cl hb_SL hb_P hb_m142 := ⟨px_bM_ok hb_g142, hb_d142_0, px_bL_ok hb_l11⟩
theorem hb_d143_0 : ∀ q ∈ hb_c143_0, decode hb_h143.2.1 q.1 = .ok q.2 := by decide +kernel
theorem hb_g143 : px_bM hb_h143 918 95 = true := by decide +kernel
theorem hb_o143 : px_okM px_Ts px_Ns hb_cl hb_SL hb_P hb_m143 := ⟨px_bM_ok hb_g143, hb_d143_0, px_bL_ok hb_l11⟩
theorem hb_d144_0 : ∀ q ∈ hb_c144_0, decode hb_h144.2.1 q.1 = .ok q.2 := by decide +kernel
theorem hb_g144 : px_bM hb_h144 926 95 = true := by decide +kernel
theorem hb_o144 : px_okM px_Ts px_Ns hb_cl hb_SL hb_P hb_m144 := ⟨px_bM_ok hb_g144, hb_d144_0, px_bL_ok hb_l11⟩
theorem hb_d145_0 : ∀ q ∈ hb_c145_0, decode hb_h145.2.1 q.1 = .ok q.2 := by decide +kernel
theorem hb_g145 : px_bM hb_h145 939 95 = true := by decide +kernel
theorem hb_o145 : px_okM px_Ts px_Ns hb_cl hb_SL hb_P hb_m145 := ⟨px_bM_ok hb_g145, hb_d145_0, px_bL_ok hb_l11⟩
theorem hb_d146_0 : ∀ q ∈ hb_c146_0, decode hb_h146.2.1 q.1 = .ok q.2 := by decide +kernel
theorem hb_g146 : px_bM hb_h146 951 95 = true := by decide +kernel
theorem hb_o146 : px_okM px_Ts px_Ns hb_cl hb_SL hb_P hb_m146 := ⟨px_bM_ok hb_g146, hb_d146_0, px_bL_ok hb_l11⟩
theorem hb_d147_0 : ∀ q ∈ hb_c147_0, decode hb_h147.2.1 q.1 = .ok q.2 := by decide +kernel
theorem hb_g147 : px_bM hb_h147 959 95 = true := by decide +kernel
theorem hb_o147 : px_okM px_Ts px_Ns hb_cl hb_SL hb_P hb_m147 := ⟨px_bM_ok hb_g147, hb_d147_0, px_bL_ok hb_l11⟩
theorem hb_d148_0 : ∀ q ∈ hb_c148_0, decode hb_h148.2.1 q.1 = .ok q.2 := by decide +kernel
theorem hb_g148 : px_bM hb_h148 972 95 = true := by decide +kernel
theorem hb_o148 : px_okM px_Ts px_Ns hb_cl hb_SL hb_P hb_m148 := ⟨px_bM_ok hb_g148, hb_d148_0, px_bL_ok hb_l11⟩
theorem hb_d149_0 : ∀ q ∈ hb_c149_0, decode hb_h149.2.1 q.1 = .ok q.2 := by decide +kernel
theorem hb_g149 : px_bM hb_h149 977 95 = true := by decide +kernel
theorem hb_o149 : px_okM px_Ts px_Ns hb_cl hb_SL hb_P hb_m149 := ⟨px_bM_ok hb_g149, hb_d149_0, px_bL_ok hb_l11⟩
theorem hb_d150_0 : ∀ q ∈ hb_c150_0, decode hb_h150.2.1 q.1 = .ok q.2 := by decide +kernel
theorem hb_g150 : px_bM hb_h150 982 95 = true := by decide +kernel
theorem hb_o150 : px_okM px_Ts px_Ns hb_cl hb_SL hb_P hb_m150 := ⟨px_bM_ok hb_g150, hb_d150_0, px_bL_ok hb_l11⟩
theorem hb_d151_0 : ∀ q ∈ hb_c151_0, decode hb_h151.2.1 q.1 = .ok q.2 := by decide +kernel
theorem hb_g151 : px_bM hb_h151 995 95 = true := by decide +kernel
theorem hb_o151 : px_okM px_Ts px_Ns hb_cl hb_SL hb_P hb_m151 := ⟨px_bM_ok hb_g151, hb_d151_0, px_bL_ok hb_l11⟩
theorem hb_d152_0 : ∀ q ∈ hb_c152_0, decode hb_h152.2.1 q.1 = .ok q.2 := by decide +kernel
theorem hb_g152 : px_bM hb_h152 1003 95 = true := by decide +kernel
theorem hb_o152 : px_okM px_Ts px_Ns hb_cl hb_SL hb_P hb_m152 := ⟨px_bM_ok hb_g152, hb_d152_0, px_bL_ok hb_l11⟩
theorem hb_d153_0 : ∀ q ∈ hb_c153_0, decode hb_h153.2.1 q.1 = .ok q.2 := by decide +kernel
theorem hb_g153 : px_bM hb_h153 1011 95 = true := by decide +kernel
theorem hb_o153 : px_okM px_Ts px_Ns hb_cl hb_SL hb_P hb_m153 := ⟨px_bM_ok hb_g153, hb_d153_0, px_bL_ok hb_l11⟩
theorem hb_d154_0 : ∀ q ∈ hb_c154_0, decode hb_h154.2.1 q.1 = .ok q.2 := by decide +kernel
theorem hb_g154 : px_bM hb_h154 1015 95 = true := by decide +kernel
theorem hb_o154 : px_okM px_Ts px_Ns hb_cl hb_SL hb_P hb_m154 := ⟨px_bM_ok hb_g154, hb_d154_0, px_bL_ok hb_l11⟩
theorem hb_d155_0 : ∀ q ∈ hb_c155_0, decode hb_h155.2.1 q.1 = .ok q.2 := by decide +kernel
theorem hb_g155 : px_bM hb_h155 1024 95 = true := by decide +kernel
theorem hb_o155 : px_okM px_Ts px_Ns hb_cl hb_SL hb_P hb_m155 := ⟨px_bM_ok hb_g155, hb_d155_0, px_bL_ok hb_l11⟩
theorem hb_d156_0 : ∀ q ∈ hb_c156_0, decode hb_h156.2.1 q.1 = .ok q.2 := by decide +kernel
theorem hb_d156_1 : ∀ q ∈ hb_c156_1, decode hb_h156.2.1 q.1 = .ok q.2 := by decide +kernel
theorem hb_g156 : px_bM hb_h156 1188 95 = true := by decide +kernel
theorem hb_o156 : px_okM px_Ts px_Ns hb_cl hb_SL hb_P hb_m156 := ⟨px_bM_ok hb_g156, List.forall_mem_append.mpr ⟨hb_d156_0, hb_d156_1⟩, px_bL_ok hb_l11⟩
theorem hb_d157_0 : ∀ q ∈ hb_c157_0, decode hb_h157.2.1 q.1 = .ok q.2 := by decide +kernel
theorem hb_g157 : px_bM hb_h157 1192 95 = true := by decide +kernel
theorem hb_o157 : px_okM px_Ts px_Ns hb_cl hb_SL hb_P hb_m157 := ⟨px_bM_ok hb_g157, hb_d157_0, px_bL_ok hb_l11⟩
theorem hb_d158_0 : ∀ q ∈ hb_c158_0, decode hb_h158.2.1 q.1 = .ok q.2 := by decide +kernel
theorem hb_g158 : px_bM hb_h158 1217 95 = true := by decide +kernel
theorem hb_o158 : px_okM px_Ts px_Ns hb_cl hb_SL hb_P hb_m158 := ⟨px_bM_ok hb_g158, hb_d158_0, px_bL_ok hb_l11⟩
theorem hb_d159_0 : ∀ q ∈ hb_c159_0, decode hb_h159.2.1 q.1 = .ok q.2 := by decide +kernel
theorem hb_g159 : px_bM hb_h159 1225 95 = true := by decide +kernel
theorem hb_o159 : px_okM px_Ts px_Ns hb_cl hb_SL hb_P hb_m159 := ⟨px_bM_ok hb_g159, hb_d159_0, px_bL_ok hb_l11⟩
theorem hb_d160_0 : ∀ q ∈ hb_c160_0, decode hb_h160.2.1 q.1 = .ok q.2 := by decide +kernel
theorem hb_g160 : px_bM hb_h160 1241 95 = true := by decide +kernel
theorem hb_o160 : px_okM px_Ts px_Ns hb_cl hb_SL hb_P hb_m160 := ⟨px_bM_ok hb_g160, hb_d160_0, px_bL_ok hb_l11⟩
theorem hb_d161_0 : ∀ q ∈ hb_c161_0, decode hb_h161.2.1 q.1 = .ok q.2 := by decide +kernel
theorem hb_d161_1 : ∀ q ∈ hb_c161_1, decode hb_h161.2.1 q.1 = .ok q.2 := by decide +kernel
theorem hb_g161 : px_bM hb_h161 1249 95 = true := by decide +kernel
theorem hb_o161 : px_okM px_Ts px_Ns hb_cl hb_SL hb_P hb_m161 := ⟨px_bM_ok hb_g161, List.forall_mem_append.mpr ⟨hb_d161_0, hb_d161_1⟩, px_bL_ok hb_l11⟩
theorem hb_d162_0 : ∀ q ∈ hb_c162_0, decode hb_h162.2.1 q.1 = .ok q.2 := by decide +kernel
theorem hb_g162 : px_bM hb_h162 1270 95 = true := by decide +kernel
theorem hb_o162 : px_okM px_Ts px_Ns hb_cl hb_SL hb_P hb_m162 := ⟨px_bM_ok hb_g162, hb_d162_0, px_bL_ok hb_l11⟩
theorem hb_d163_0 : ∀ q ∈ hb_c163_0, decode hb_h163.2.1 q.1 = .ok q.2 := by decide +kernel
theorem hb_g163 : px_bM hb_h163 1281 95 = true := by decide +kernel
theorem hb_o163 : px_okM px_Ts px_Ns hb_cl hb_SL hb_P hb_m163 := ⟨px_bM_ok hb_g163, hb_d163_0, px_bL_ok hb_l11⟩
theorem hb_d164_0 : ∀ q ∈ hb_c164_0, decode hb_h164.2.1 q.1 = .ok q.2 := by decide +kernel
theorem hb_g164 : px_bM hb_h164 1296 95 = true := by decide +kernel
theorem hb_o164 : px_okM px_Ts px_Ns hb_cl hb_SL hb_P hb_m164 := ⟨px_bM_ok hb_g164, hb_d164_0, px_bL_ok hb_l11⟩
theorem hb_d165_0 : ∀ q ∈ hb_c165_0, decode hb_h165.2.1 q.1 = .ok q.2 := by decide +kernel
theorem hb_d165_1 : ∀ q ∈ hb_c165_1, decode hb_h165.2.1 q.1 = .ok q.2 := by decide +kernel
theorem hb_d165_2 : ∀ q ∈ hb_c165_2, decode hb_h165.2.1 q.1 = .ok q.2 := by decide +kernel
theorem hb_g165 : px_bM hb_h165 1308 95 = true := by decide +kernel
theorem hb_o165 : px_okM px_Ts px_Ns hb_cl hb_SL hb_P hb_m165 := ⟨px_bM_ok hb_g165, List.forall_mem_append.mpr ⟨hb_d165_0, List.forall_mem_append.mpr ⟨hb_d165_1, hb_d165_2⟩⟩, px_bL_ok hb_l11⟩
theorem hb_d166_0 : ∀ q ∈ hb_c166_0, decode hb_h166.2.1 q.1 = .ok q.2 := by decide +kernel
theorem hb_g166 : px_bM hb_h166 1313 95 = true := by decide +kernel
theorem hb_o166 : px_okM px_Ts px_Ns hb_cl hb_SL hb_P hb_m166 := ⟨px_bM_ok hb_g166, hb_d166_0, px_bL_ok hb_l11⟩
theorem hb_d167_0 : ∀ q ∈ hb_c167_0, decode hb_h167.2.1 q.1 = .ok q.2 := by decide +kernel
theorem hb_g167 : px_bM hb_h167 1325 95 = true := by decide +kernel
theorem hb_o167 : px_okM px_Ts px_Ns hb_cl hb_SL hb_P hb_m167 := ⟨px_bM_ok hb_g167, hb_d167_0, px_bL_ok hb_l11⟩
theorem hb_d168_0 : ∀ q ∈ hb_c168_0, decode hb_h168.2.1 q.1 = .ok q.2 := by decide +kernel
theorem hb_d168_1 : ∀ q ∈ hb_c168_1, decode hb_h168.2.1 q.1 = .ok q.2 := by decide +kernel
theorem hb_g168 : px_bM hb_h168 1336 95 = true := by decide +kernel
theorem hb_o168 : px_okM px_Ts px_Ns hb_cl hb_SL hb_P hb_m168 := ⟨px_bM_ok hb_g168, List.forall_mem_append.mpr ⟨hb_d168_0, hb_d168_1⟩, px_bL_ok hb_l11⟩
theorem hb_d169_0 : ∀ q ∈ hb_c169_0, decode hb_h169.2.1 q.1 = .ok q.2 := by decide +kernel
theorem hb_g169 : px_bM hb_h169 1390 95 = true := by decide +kernel
theorem hb_o169 : px_okM px_Ts px_Ns hb_cl hb_SL hb_P hb_m169 := ⟨px_bM_ok hb_g169, hb_d169_0, px_bL_ok hb_l11⟩
theorem hb_d170_0 : ∀ q ∈ hb_c170_0, decode hb_h170.2.1 q.1 = .ok q.2 := by decide +kernel
theorem hb_d170_1 : ∀ q ∈ hb_c170_1, decode hb_h170.2.1 q.1 = .ok q.2 := by decide +kernel
theorem hb_g170 : px_bM hb_h170 1394 95 = true := by decide +kernel
theorem hb_o170 : px_okM px_Ts px_Ns hb_cl hb_SL hb_P hb_m170 := ⟨px_bM_ok hb_g170, List.forall_mem_append.mpr ⟨hb_d170_0, hb_d170_1⟩, px_bL_ok hb_l11⟩
theorem hb_d171_0 : ∀ q ∈ hb_c171_0, decode hb_h171.2.1 q.1 = .ok q.2 := by decide +kernel
theorem hb_g171 : px_bM hb_h171 1402 95 = true := by decide +kernel
theorem hb_o171 : px_okM px_Ts px_Ns hb_cl hb_SL hb_P hb_m171 := ⟨px_bM_ok hb_g171, hb_d171_0, px_bL_ok hb_l11⟩
theorem hb_d172_0 : ∀ q ∈ hb_c172_0, decode hb_h172.2.1 q.1 = .ok q.2 := by decide +kernel
theorem hb_d172_1 : ∀ q ∈ hb_c172_1, decode hb_h172.2.1 q.1 = .ok q.2 := by decide +kernel
theorem hb_g172 : px_bM hb_h172 1435 95 = true := by decide +kernel
theorem hb_o172 : px_okM px_Ts px_Ns hb_cl hb_SL hb_P hb_m172 := ⟨px_bM_ok hb_g172, List.forall_mem_append.mpr ⟨hb_d172_0, hb_d172_1⟩, px_bL_ok hb_l11⟩
theorem hb_d173_0 : ∀ q ∈ hb_c173_0, decode hb_h173.2.1 q.1 = .ok q.2 := by decide +kernel
theorem hb_g173 : px_bM hb_h173 658 95 = true := by decide +kernel
theorem hb_o173 : px_okM px_Ts px_Ns hb_cl hb_SL hb_P hb_m173 := ⟨px_bM_ok hb_g173, hb_d173_0, px_bL_ok hb_l11⟩
theorem hb_d174_0 : ∀ q ∈ hb_c174_0, decode hb_h174.2.1 q.1 = .ok q.2 := by decide +kernel
theorem hb_g174 : px_bM hb_h174 784 95 = true := by decide +kernel
theorem hb_o174 : px_okM px_Ts px_Ns hb_cl hb_SL hb_P hb_m174 := ⟨px_bM_ok hb_g174, hb_d174_0, px_bL_ok hb_l11⟩
theorem hb_d175_0 : ∀ q ∈ hb_c175_0, decode hb_h175.2.1 q.1 = .ok q.2 := by decide +kernel
theorem hb_g175 : px_bM hb_h175 898 95 = true := by decide +kernel
theorem hb_o175 : px_okM px_Ts px_Ns hb_cl hb_SL hb_P hb_m175 := ⟨px_bM_ok hb_g175, hb_d175_0, px_bL_ok hb_l11⟩

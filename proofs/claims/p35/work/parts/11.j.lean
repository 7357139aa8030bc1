noncomputable section
theorem hb_d180_0 : ∀ q ∈ hb_c180_0, decode hb_h180.2.1 q.1 = .ok q.2 := px_rwc_ok (by decide +kernel)
theorem hb_d180_1 : ∀ q ∈ hb_c180_1, decode hb_h180.2.1 q.1 = .ok q.2 := px_rwc_ok (by decide +kernel)
theorem hb_d180_2 : ∀ q ∈ hb_c180_2, decode hb_h180.2.1 q.1 = .ok q.2 := px_rwc_ok (by decide +kernel)
theorem hb_d180_3 : ∀ q ∈ hb_c180_3, decode hb_h180.2.1 q.1 = .ok q.2 := px_rwc_ok (by decide +kernel)
theorem hb_d180_4 : ∀ q ∈ hb_c180_4, decode hb_h180.2.1 q.1 = .ok q.2 := px_rwc_ok (by decide +kernel)
set_option maxRecDepth 100000 in
theorem hb_w180 : lw_tbl[1344]? = some (Cond.code hb_h180.1 hb_h180.2.1 hb_h180.2.2.1 hb_h180.2.2.2.1) := by rfl
theorem hb_g180 : px_bM hb_h180 95 = true := by decide +kernel
set_option maxRecDepth 100000 in
theorem hb_o180 : px_okM px_Ts px_Ns hb_cl hb_SL hb_P hb_m180 := ⟨px_bM_ok hb_w180 hb_g180, List.forall_mem_append.mpr ⟨hb_d180_0, List.forall_mem_append.mpr ⟨hb_d180_1, List.forall_mem_append.mpr ⟨hb_d180_2, List.forall_mem_append.mpr ⟨hb_d180_3, hb_d180_4⟩⟩⟩⟩, px_bL_ok hb_l11⟩
theorem hb_d181_0 : ∀ q ∈ hb_c181_0, decode hb_h181.2.1 q.1 = .ok q.2 := px_rwc_ok (by decide +kernel)
theorem hb_d181_1 : ∀ q ∈ hb_c181_1, decode hb_h181.2.1 q.1 = .ok q.2 := px_rwc_ok (by decide +kernel)
theorem hb_d181_2 : ∀ q ∈ hb_c181_2, decode hb_h181.2.1 q.1 = .ok q.2 := px_rwc_ok (by decide +kernel)
theorem hb_d181_3 : ∀ q ∈ hb_c181_3, decode hb_h181.2.1 q.1 = .ok q.2 := px_rwc_ok (by decide +kernel)
theorem hb_d181_4 : ∀ q ∈ hb_c181_4, decode hb_h181.2.1 q.1 = .ok q.2 := px_rwc_ok (by decide +kernel)
theorem hb_d181_5 : ∀ q ∈ hb_c181_5, decode hb_h181.2.1 q.1 = .ok q.2 := px_rwc_ok (by decide +kernel)
theorem hb_d181_6 : ∀ q ∈ hb_c181_6, decode hb_h181.2.1 q.1 = .ok q.2 := px_rwc_ok (by decide +kernel)
theorem hb_d181_7 : ∀ q ∈ hb_c181_7, decode hb_h181.2.1 q.1 = .ok q.2 := px_rwc_ok (by decide +kernel)
theorem hb_d181_8 : ∀ q ∈ hb_c181_8, decode hb_h181.2.1 q.1 = .ok q.2 := px_rwc_ok (by decide +kernel)
theorem hb_d181_9 : ∀ q ∈ hb_c181_9, decode hb_h181.2.1 q.1 = .ok q.2 := px_rwc_ok (by decide +kernel)
theorem hb_d181_10 : ∀ q ∈ hb_c181_10, decode hb_h181.2.1 q.1 = .ok q.2 := px_rwc_ok (by decide +kernel)
theorem hb_d181_11 : ∀ q ∈ hb_c181_11, decode hb_h181.2.1 q.1 = .ok q.2 := px_rwc_ok (by decide +kernel)
theorem hb_d181_12 : ∀ q ∈ hb_c181_12, decode hb_h181.2.1 q.1 = .ok q.2 := px_rwc_ok (by decide +kernel)
theorem hb_d181_13 : ∀ q ∈ hb_c181_13, decode hb_h181.2.1 q.1 = .ok q.2 := px_rwc_ok (by decide +kernel)
theorem hb_d181_14 : ∀ q ∈ hb_c181_14, decode hb_h181.2.1 q.1 = .ok q.2 := px_rwc_ok (by decide +kernel)
theorem hb_d181_15 : ∀ q ∈ hb_c181_15, decode hb_h181.2.1 q.1 = .ok q.2 := px_rwc_ok (by decide +kernel)
theorem hb_d181_16 : ∀ q ∈ hb_c181_16, decode hb_h181.2.1 q.1 = .ok q.2 := px_rwc_ok (by decide +kernel)
theorem hb_d181_17 : ∀ q ∈ hb_c181_17, decode hb_h181.2.1 q.1 = .ok q.2 := px_rwc_ok (by decide +kernel)
theorem hb_d181_18 : ∀ q ∈ hb_c181_18, decode hb_h181.2.1 q.1 = .ok q.2 := px_rwc_ok (by decide +kernel)
theorem hb_d181_19 : ∀ q ∈ hb_c181_19, decode hb_h181.2.1 q.1 = .ok q.2 := px_rwc_ok (by decide +kernel)
theorem hb_d181_20 : ∀ q ∈ hb_c181_20, decode hb_h181.2.1 q.1 = .ok q.2 := px_rwc_ok (by decide +kernel)
theorem hb_d181_21 : ∀ q ∈ hb_c181_21, decode hb_h181.2.1 q.1 = .ok q.2 := px_rwc_ok (by decide +kernel)
theorem hb_d181_22 : ∀ q ∈ hb_c181_22, decode hb_h181.2.1 q.1 = .ok q.2 := px_rwc_ok (by decide +kernel)
theorem hb_d181_23 : ∀ q ∈ hb_c181_23, decode hb_h181.2.1 q.1 = .ok q.2 := px_rwc_ok (by decide +kernel)
theorem hb_d181_24 : ∀ q ∈ hb_c181_24, decode hb_h181.2.1 q.1 = .ok q.2 := px_rwc_ok (by decide +kernel)
theorem hb_d181_25 : ∀ q ∈ hb_c181_25, decode hb_h181.2.1 q.1 = .ok q.2 := px_rwc_ok (by decide +kernel)
theorem hb_d181_26 : ∀ q ∈ hb_c181_26, decode hb_h181.2.1 q.1 = .ok q.2 := px_rwc_ok (by decide +kernel)
theorem hb_d181_27 : ∀ q ∈ hb_c181_27, decode hb_h181.2.1 q.1 = .ok q.2 := px_rwc_ok (by decide +kernel)
theorem hb_d181_28 : ∀ q ∈ hb_c181_28, decode hb_h181.2.1 q.1 = .ok q.2 := px_rwc_ok (by decide +kernel)
theorem hb_d181_29 : ∀ q ∈ hb_c181_29, decode hb_h181.2.1 q.1 = .ok q.2 := px_rwc_ok (by decide +kernel)
theorem hb_d181_30 : ∀ q ∈ hb_c181_30, decode hb_h181.2.1 q.1 = .ok q.2 := px_rwc_ok (by decide +kernel)
theorem hb_d181_31 : ∀ q ∈ hb_c181_31, decode hb_h181.2.1 q.1 = .ok q.2 := px_rwc_ok (by decide +kernel)
theorem hb_d181_32 : ∀ q ∈ hb_c181_32, decode hb_h181.2.1 q.1 = .ok q.2 := px_rwc_ok (by decide +kernel)
theorem hb_d181_33 : ∀ q ∈ hb_c181_33, decode hb_h181.2.1 q.1 = .ok q.2 := px_rwc_ok (by decide +kernel)
theorem hb_d181_34 : ∀ q ∈ hb_c181_34, decode hb_h181.2.1 q.1 = .ok q.2 := px_rwc_ok (by decide +kernel)
theorem hb_d181_35 : ∀ q ∈ hb_c181_35, decode hb_h181.2.1 q.1 = .ok q.2 := px_rwc_ok (by decide +kernel)
theorem hb_d181_36 : ∀ q ∈ hb_c181_36, decode hb_h181.2.1 q.1 = .ok q.2 := px_rwc_ok (by decide +kernel)
theorem hb_d181_37 : ∀ q ∈ hb_c181_37, decode hb_h181.2.1 q.1 = .ok q.2 := px_rwc_ok (by decide +kernel)
theorem hb_d181_38 : ∀ q ∈ hb_c181_38, decode hb_h181.2.1 q.1 = .ok q.2 := px_rwc_ok (by decide +kernel)
theorem hb_d181_39 : ∀ q ∈ hb_c181_39, decode hb_h181.2.1 q.1 = .ok q.2 := px_rwc_ok (by decide +kernel)
theorem hb_d181_40 : ∀ q ∈ hb_c181_40, decode hb_h181.2.1 q.1 = .ok q.2 := px_rwc_ok (by decide +kernel)
theorem hb_d181_41 : ∀ q ∈ hb_c181_41, decode hb_h181.2.1 q.1 = .ok q.2 := px_rwc_ok (by decide +kernel)
theorem hb_d181_42 : ∀ q ∈ hb_c181_42, decode hb_h181.2.1 q.1 = .ok q.2 := px_rwc_ok (by decide +kernel)
theorem hb_d181_43 : ∀ q ∈ hb_c181_43, decode hb_h181.2.1 q.1 = .ok q.2 := px_rwc_ok (by decide +kernel)
theorem hb_d181_44 : ∀ q ∈ hb_c181_44, decode hb_h181.2.1 q.1 = .ok q.2 := px_rwc_ok (by decide +kernel)
theorem hb_d181_45 : ∀ q ∈ hb_c181_45, decode hb_h181.2.1 q.1 = .ok q.2 := px_rwc_ok (by decide +kernel)
theorem hb_d181_46 : ∀ q ∈ hb_c181_46, decode hb_h181.2.1 q.1 = .ok q.2 := px_rwc_ok (by decide +kernel)
theorem hb_d181_47 : ∀ q ∈ hb_c181_47, decode hb_h181.2.1 q.1 = .ok q.2 := px_rwc_ok (by decide +kernel)
theorem hb_d181_48 : ∀ q ∈ hb_c181_48, decode hb_h181.2.1 q.1 = .ok q.2 := px_rwc_ok (by decide +kernel)
theorem hb_d181_49 : ∀ q ∈ hb_c181_49, decode hb_h181.2.1 q.1 = .ok q.2 := px_rwc_ok (by decide +kernel)
theorem hb_d181_50 : ∀ q ∈ hb_c181_50, decode hb_h181.2.1 q.1 = .ok q.2 := px_rwc_ok (by decide +kernel)
theorem hb_d181_51 : ∀ q ∈ hb_c181_51, decode hb_h181.2.1 q.1 = .ok q.2 := px_rwc_ok (by decide +kernel)
theorem hb_d181_52 : ∀ q ∈ hb_c181_52, decode hb_h181.2.1 q.1 = .ok q.2 := px_rwc_ok (by decide +kernel)
theorem hb_d181_53 : ∀ q ∈ hb_c181_53, decode hb_h181.2.1 q.1 = .ok q.2 := px_rwc_ok (by decide +kernel)
theorem hb_d181_54 : ∀ q ∈ hb_c181_54, decode hb_h181.2.1 q.1 = .ok q.2 := px_rwc_ok (by decide +kernel)
theorem hb_d181_55 : ∀ q ∈ hb_c181_55, decode hb_h181.2.1 q.1 = .ok q.2 := px_rwc_ok (by decide +kernel)
theorem hb_d181_56 : ∀ q ∈ hb_c181_56, decode hb_h181.2.1 q.1 = .ok q.2 := px_rwc_ok (by decide +kernel)
theorem hb_d181_57 : ∀ q ∈ hb_c181_57, decode hb_h181.2.1 q.1 = .ok q.2 := px_rwc_ok (by decide +kernel)
theorem hb_d181_58 : ∀ q ∈ hb_c181_58, decode hb_h181.2.1 q.1 = .ok q.2 := px_rwc_ok (by decide +kernel)
theorem hb_d181_59 : ∀ q ∈ hb_c181_59, decode hb_h181.2.1 q.1 = .ok q.2 := px_rwc_ok (by decide +kernel)
theorem hb_d181_60 : ∀ q ∈ hb_c181_60, decode hb_h181.2.1 q.1 = .ok q.2 := px_rwc_ok (by decide +kernel)
set_option maxRecDepth 100000 in
theorem hb_w181 : lw_tbl[1440]? = some (Cond.code hb_h181.1 hb_h181.2.1 hb_h181.2.2.1 hb_h181.2.2.2.1) := by rfl
theorem hb_g181 : px_bM hb_h181 107 = true := by decide +kernel
set_option maxRecDepth 100000 in
theorem hb_o181 : px_okM px_Ts px_Ns hb_cl hb_SL hb_P hb_m181 := ⟨px_bM_ok hb_w181 hb_g181, List.forall_mem_append.mpr ⟨hb_d181_0, List.forall_mem_append.mpr ⟨hb_d181_1, List.forall_mem_append.mpr ⟨hb_d181_2, List.forall_mem_append.mpr ⟨hb_d181_3, List.forall_mem_append.mpr ⟨hb_d181_4, List.forall_mem_append.mpr ⟨hb_d181_5, List.forall_mem_append.mpr ⟨hb_d181_6, List.forall_mem_append.mpr ⟨hb_d181_7, List.forall_mem_append.mpr ⟨hb_d181_8, List.forall_mem_append.mpr ⟨hb_d181_9, List.forall_mem_append.mpr ⟨hb_d181_10, List.forall_mem_append.mpr ⟨hb_d181_11, List.forall_mem_append.mpr ⟨hb_d181_12, List.forall_mem_append.mpr ⟨hb_d181_13, List.forall_mem_append.mpr ⟨hb_d181_14, List.forall_mem_append.mpr ⟨hb_d181_15, List.forall_mem_append.mpr ⟨hb_d181_16, List.forall_mem_append.mpr ⟨hb_d181_17, List.forall_mem_append.mpr ⟨hb_d181_18, List.forall_mem_append.mpr ⟨hb_d181_19, List.forall_mem_append.mpr ⟨hb_d181_20, List.forall_mem_append.mpr ⟨hb_d181_21, List.forall_mem_append.mpr ⟨hb_d181_22, List.forall_mem_append.mpr ⟨hb_d181_23, List.forall_mem_append.mpr ⟨hb_d181_24, List.forall_mem_append.mpr ⟨hb_d181_25, List.forall_mem_append.mpr ⟨hb_d181_26, List.forall_mem_append.mpr ⟨hb_d181_27, List.forall_mem_append.mpr ⟨hb_d181_28, List.forall_mem_append.mpr ⟨hb_d181_29, List.forall_mem_append.mpr ⟨hb_d181_30, List.forall_mem_append.mpr ⟨hb_d181_31, List.forall_mem_append.mpr ⟨hb_d181_32, List.forall_mem_append.mpr ⟨hb_d181_33, List.forall_mem_append.mpr ⟨hb_d181_34, List.forall_mem_append.mpr ⟨hb_d181_35, List.forall_mem_append.mpr ⟨hb_d181_36, List.forall_mem_append.mpr ⟨hb_d181_37, List.forall_mem_append.mpr ⟨hb_d181_38, List.forall_mem_append.mpr ⟨hb_d181_39, List.forall_mem_append.mpr ⟨hb_d181_40, List.forall_mem_append.mpr ⟨hb_d181_41, List.forall_mem_append.mpr ⟨hb_d181_42, List.forall_mem_append.mpr ⟨hb_d181_43, List.forall_mem_append.mpr ⟨hb_d181_44, List.forall_mem_append.mpr ⟨hb_d181_45, List.forall_mem_append.mpr ⟨hb_d181_46, List.forall_mem_append.mpr ⟨hb_d181_47, List.forall_mem_append.mpr ⟨hb_d181_48, List.forall_mem_append.mpr ⟨hb_d181_49, List.forall_mem_append.mpr ⟨hb_d181_50, List.forall_mem_append.mpr ⟨hb_d181_51, List.forall_mem_append.mpr ⟨hb_d181_52, List.forall_mem_append.mpr ⟨hb_d181_53, List.forall_mem_append.mpr ⟨hb_d181_54, List.forall_mem_append.mpr ⟨hb_d181_55, List.forall_mem_append.mpr ⟨hb_d181_56, List.forall_mem_append.mpr ⟨hb_d181_57, List.forall_mem_append.mpr ⟨hb_d181_58, List.forall_mem_append.mpr ⟨hb_d181_59, hb_d181_60⟩⟩⟩⟩⟩⟩⟩⟩⟩⟩⟩⟩⟩⟩⟩⟩⟩⟩⟩⟩⟩⟩⟩⟩⟩⟩⟩⟩⟩⟩⟩⟩⟩⟩⟩⟩⟩⟩⟩⟩⟩⟩⟩⟩⟩⟩⟩⟩⟩⟩⟩⟩⟩⟩⟩⟩⟩⟩⟩⟩, px_bL_ok hb_l12⟩
theorem hb_d182_0 : ∀ q ∈ hb_c182_0, decode hb_h182.2.1 q.1 = .ok q.2 := px_rwc_ok (by decide +kernel)
theorem hb_d182_1 : ∀ q ∈ hb_c182_1, decode hb_h182.2.1 q.1 = .ok q.2 := px_rwc_ok (by decide +kernel)
set_option maxRecDepth 100000 in
theorem hb_w182 : lw_tbl[1605]? = some (Cond.code hb_h182.1 hb_h182.2.1 hb_h182.2.2.1 hb_h182.2.2.2.1) := by rfl
theorem hb_g182 : px_bM hb_h182 107 = true := by decide +kernel
set_option maxRecDepth 100000 in
theorem hb_o182 : px_okM px_Ts px_Ns hb_cl hb_SL hb_P hb_m182 := ⟨px_bM_ok hb_w182 hb_g182, List.forall_mem_append.mpr ⟨hb_d182_0, hb_d182_1⟩, px_bL_ok hb_l12⟩
theorem hb_d183_0 : ∀ q ∈ hb_c183_0, decode hb_h183.2.1 q.1 = .ok q.2 := px_rwc_ok (by decide +kernel)
set_option maxRecDepth 100000 in
theorem hb_w183 : lw_tbl[1691]? = some (Cond.code hb_h183.1 hb_h183.2.1 hb_h183.2.2.1 hb_h183.2.2.2.1) := by rfl
theorem hb_g183 : px_bM hb_h183 107 = true := by decide +kernel
set_option maxRecDepth 100000 in
theorem hb_o183 : px_okM px_Ts px_Ns hb_cl hb_SL hb_P hb_m183 := ⟨px_bM_ok hb_w183 hb_g183, hb_d183_0, px_bL_ok hb_l12⟩
theorem hb_d184_0 : ∀ q ∈ hb_c184_0, decode hb_h184.2.1 q.1 = .ok q.2 := px_rwc_ok (by decide +kernel)
set_option maxRecDepth 100000 in
theorem hb_w184 : lw_tbl[1635]? = some (Cond.code hb_h184.1 hb_h184.2.1 hb_h184.2.2.1 hb_h184.2.2.2.1) := by rfl
theorem hb_g184 : px_bM hb_h184 107 = true := by decide +kernel
set_option maxRecDepth 100000 in
theorem hb_o184 : px_okM px_Ts px_Ns hb_cl hb_SL hb_P hb_m184 := ⟨px_bM_ok hb_w184 hb_g184, hb_d184_0, px_bL_ok hb_l12⟩
theorem hb_d185_0 : ∀ q ∈ hb_c185_0, decode hb_h185.2.1 q.1 = .ok q.2 := px_rwc_ok (by decide +kernel)
theorem hb_d185_1 : ∀ q ∈ hb_c185_1, decode hb_h185.2.1 q.1 = .ok q.2 := px_rwc_ok (by decide +kernel)
set_option maxRecDepth 100000 in
theorem hb_w185 : lw_tbl[1624]? = some (Cond.code hb_h185.1 hb_h185.2.1 hb_h185.2.2.1 hb_h185.2.2.2.1) := by rfl
theorem hb_g185 : px_bM hb_h185 107 = true := by decide +kernel
set_option maxRecDepth 100000 in
theorem hb_o185 : px_okM px_Ts px_Ns hb_cl hb_SL hb_P hb_m185 := ⟨px_bM_ok hb_w185 hb_g185, List.forall_mem_append.mpr ⟨hb_d185_0, hb_d185_1⟩, px_bL_ok hb_l12⟩
theorem hb_d186_0 : ∀ q ∈ hb_c186_0, decode hb_h186.2.1 q.1 = .ok q.2 := px_rwc_ok (by decide +kernel)
theorem hb_d186_1 : ∀ q ∈ hb_c186_1, decode hb_h186.2.1 q.1 = .ok q.2 := px_rwc_ok (by decide +kernel)
theorem hb_d186_2 : ∀ q ∈ hb_c186_2, decode hb_h186.2.1 q.1 = .ok q.2 := px_rwc_ok (by decide +kernel)
theorem hb_d186_3 : ∀ q ∈ hb_c186_3, decode hb_h186.2.1 q.1 = .ok q.2 := px_rwc_ok (by decide +kernel)
theorem hb_d186_4 : ∀ q ∈ hb_c186_4, decode hb_h186.2.1 q.1 = .ok q.2 := px_rwc_ok (by decide +kernel)
set_option maxRecDepth 100000 in
theorem hb_w186 : lw_tbl[1609]? = some (Cond.code hb_h186.1 hb_h186.2.1 hb_h186.2.2.1 hb_h186.2.2.2.1) := by rfl
theorem hb_g186 : px_bM hb_h186 107 = true := by decide +kernel
set_option maxRecDepth 100000 in
theorem hb_o186 : px_okM px_Ts px_Ns hb_cl hb_SL hb_P hb_m186 := ⟨px_bM_ok hb_w186 hb_g186, List.forall_mem_append.mpr ⟨hb_d186_0, List.forall_mem_append.mpr ⟨hb_d186_1, List.forall_mem_append.mpr ⟨hb_d186_2, List.forall_mem_append.mpr ⟨hb_d186_3, hb_d186_4⟩⟩⟩⟩, px_bL_ok hb_l12⟩
theorem hb_d187_0 : ∀ q ∈ hb_c187_0, decode hb_h187.2.1 q.1 = .ok q.2 := px_rwc_ok (by decide +kernel)
theorem hb_d187_1 : ∀ q ∈ hb_c187_1, decode hb_h187.2.1 q.1 = .ok q.2 := px_rwc_ok (by decide +kernel)
theorem hb_d187_2 : ∀ q ∈ hb_c187_2, decode hb_h187.2.1 q.1 = .ok q.2 := px_rwc_ok (by decide +kernel)
theorem hb_d187_3 : ∀ q ∈ hb_c187_3, decode hb_h187.2.1 q.1 = .ok q.2 := px_rwc_ok (by decide +kernel)
theorem hb_d187_4 : ∀ q ∈ hb_c187_4, decode hb_h187.2.1 q.1 = .ok q.2 := px_rwc_ok (by decide +kernel)
theorem hb_d187_5 : ∀ q ∈ hb_c187_5, decode hb_h187.2.1 q.1 = .ok q.2 := px_rwc_ok (by decide +kernel)
set_option maxRecDepth 100000 in
theorem hb_w187 : lw_tbl[1617]? = some (Cond.code hb_h187.1 hb_h187.2.1 hb_h187.2.2.1 hb_h187.2.2.2.1) := by rfl
theorem hb_g187 : px_bM hb_h187 107 = true := by decide +kernel
set_option maxRecDepth 100000 in
theorem hb_o187 : px_okM px_Ts px_Ns hb_cl hb_SL hb_P hb_m187 := ⟨px_bM_ok hb_w187 hb_g187, List.forall_mem_append.mpr ⟨hb_d187_0, List.forall_mem_append.mpr ⟨hb_d187_1, List.forall_mem_append.mpr ⟨hb_d187_2, List.forall_mem_append.mpr ⟨hb_d187_3, List.forall_mem_append.mpr ⟨hb_d187_4, hb_d187_5⟩⟩⟩⟩⟩, px_bL_ok hb_l12⟩
theorem hb_d188_0 : ∀ q ∈ hb_c188_0, decode hb_h188.2.1 q.1 = .ok q.2 := px_rwc_ok (by decide +kernel)
theorem hb_d188_1 : ∀ q ∈ hb_c188_1, decode hb_h188.2.1 q.1 = .ok q.2 := px_rwc_ok (by decide +kernel)
theorem hb_d188_2 : ∀ q ∈ hb_c188_2, decode hb_h188.2.1 q.1 = .ok q.2 := px_rwc_ok (by decide +kernel)
set_option maxRecDepth 100000 in
theorem hb_w188 : lw_tbl[1621]? = some (Cond.code hb_h188.1 hb_h188.2.1 hb_h188.2.2.1 hb_h188.2.2.2.1) := by rfl
theorem hb_g188 : px_bM hb_h188 107 = true := by decide +kernel
set_option maxRecDepth 100000 in
theorem hb_o188 : px_okM px_Ts px_Ns hb_cl hb_SL hb_P hb_m188 := ⟨px_bM_ok hb_w188 hb_g188, List.forall_mem_append.mpr ⟨hb_d188_0, List.forall_mem_append.mpr ⟨hb_d188_1, hb_d188_2⟩⟩, px_bL_ok hb_l12⟩
theorem hb_d189_0 : ∀ q ∈ hb_c189_0, decode hb_h189.2.1 q.1 = .ok q.2 := px_rwc_ok (by decide +kernel)
theorem hb_d189_1 : ∀ q ∈ hb_c189_1, decode hb_h189.2.1 q.1 = .ok q.2 := px_rwc_ok (by decide +kernel)
set_option maxRecDepth 100000 in
theorem hb_w189 : lw_tbl[1628]? = some (Cond.code hb_h189.1 hb_h189.2.1 hb_h189.2.2.1 hb_h189.2.2.2.1) := by rfl
theorem hb_g189 : px_bM hb_h189 107 = true := by decide +kernel
set_option maxRecDepth 100000 in
theorem hb_o189 : px_okM px_Ts px_Ns hb_cl hb_SL hb_P hb_m189 := ⟨px_bM_ok hb_w189 hb_g189, List.forall_mem_append.mpr ⟨hb_d189_0, hb_d189_1⟩, px_bL_ok hb_l12⟩
theorem hb_d190_0 : ∀ q ∈ hb_c190_0, decode hb_h190.2.1 q.1 = .ok q.2 := px_rwc_ok (by decide +kernel)
theorem hb_d190_1 : ∀ q ∈ hb_c190_1, decode hb_h190.2.1 q.1 = .ok q.2 := px_rwc_ok (by decide +kernel)
theorem hb_d190_2 : ∀ q ∈ hb_c190_2, decode hb_h190.2.1 q.1 = .ok q.2 := px_rwc_ok (by decide +kernel)
theorem hb_d190_3 : ∀ q ∈ hb_c190_3, decode hb_h190.2.1 q.1 = .ok q.2 := px_rwc_ok (by decide +kernel)
theorem hb_d190_4 : ∀ q ∈ hb_c190_4, decode hb_h190.2.1 q.1 = .ok q.2 := px_rwc_ok (by decide +kernel)
theorem hb_d190_5 : ∀ q ∈ hb_c190_5, decode hb_h190.2.1 q.1 = .ok q.2 := px_rwc_ok (by decide +kernel)
theorem hb_d190_6 : ∀ q ∈ hb_c190_6, decode hb_h190.2.1 q.1 = .ok q.2 := px_rwc_ok (by decide +kernel)
theorem hb_d190_7 : ∀ q ∈ hb_c190_7, decode hb_h190.2.1 q.1 = .ok q.2 := px_rwc_ok (by decide +kernel)
theorem hb_d190_8 : ∀ q ∈ hb_c190_8, decode hb_h190.2.1 q.1 = .ok q.2 := px_rwc_ok (by decide +kernel)
theorem hb_d190_9 : ∀ q ∈ hb_c190_9, decode hb_h190.2.1 q.1 = .ok q.2 := px_rwc_ok (by decide +kernel)
theorem hb_d190_10 : ∀ q ∈ hb_c190_10, decode hb_h190.2.1 q.1 = .ok q.2 := px_rwc_ok (by decide +kernel)
theorem hb_d190_11 : ∀ q ∈ hb_c190_11, decode hb_h190.2.1 q.1 = .ok q.2 := px_rwc_ok (by decide +kernel)
theorem hb_d190_12 : ∀ q ∈ hb_c190_12, decode hb_h190.2.1 q.1 = .ok q.2 := px_rwc_ok (by decide +kernel)
theorem hb_d190_13 : ∀ q ∈ hb_c190_13, decode hb_h190.2.1 q.1 = .ok q.2 := px_rwc_ok (by decide +kernel)
theorem hb_d190_14 : ∀ q ∈ hb_c190_14, decode hb_h190.2.1 q.1 = .ok q.2 := px_rwc_ok (by decide +kernel)
theorem hb_d190_15 : ∀ q ∈ hb_c190_15, decode hb_h190.2.1 q.1 = .ok q.2 := px_rwc_ok (by decide +kernel)
theorem hb_d190_16 : ∀ q ∈ hb_c190_16, decode hb_h190.2.1 q.1 = .ok q.2 := px_rwc_ok (by decide +kernel)
theorem hb_d190_17 : ∀ q ∈ hb_c190_17, decode hb_h190.2.1 q.1 = .ok q.2 := px_rwc_ok (by decide +kernel)
theorem hb_d190_18 : ∀ q ∈ hb_c190_18, decode hb_h190.2.1 q.1 = .ok q.2 := px_rwc_ok (by decide +kernel)
theorem hb_d190_19 : ∀ q ∈ hb_c190_19, decode hb_h190.2.1 q.1 = .ok q.2 := px_rwc_ok (by decide +kernel)
theorem hb_d190_20 : ∀ q ∈ hb_c190_20, decode hb_h190.2.1 q.1 = .ok q.2 := px_rwc_ok (by decide +kernel)
theorem hb_d190_21 : ∀ q ∈ hb_c190_21, decode hb_h190.2.1 q.1 = .ok q.2 := px_rwc_ok (by decide +kernel)
theorem hb_d190_22 : ∀ q ∈ hb_c190_22, decode hb_h190.2.1 q.1 = .ok q.2 := px_rwc_ok (by decide +kernel)
set_option maxRecDepth 100000 in
theorem hb_w190 : lw_tbl[1613]? = some (Cond.code hb_h190.1 hb_h190.2.1 hb_h190.2.2.1 hb_h190.2.2.2.1) := by rfl
theorem hb_g190 : px_bM hb_h190 107 = true := by decide +kernel
set_option maxRecDepth 100000 in
theorem hb_o190 : px_okM px_Ts px_Ns hb_cl hb_SL hb_P hb_m190 := ⟨px_bM_ok hb_w190 hb_g190, List.forall_mem_append.mpr ⟨hb_d190_0, List.forall_mem_append.mpr ⟨hb_d190_1, List.forall_mem_append.mpr ⟨hb_d190_2, List.forall_mem_append.mpr ⟨hb_d190_3, List.forall_mem_append.mpr ⟨hb_d190_4, List.forall_mem_append.mpr ⟨hb_d190_5, List.forall_mem_append.mpr ⟨hb_d190_6, List.forall_mem_append.mpr ⟨hb_d190_7, List.forall_mem_append.mpr ⟨hb_d190_8, List.forall_mem_append.mpr ⟨hb_d190_9, List.forall_mem_append.mpr ⟨hb_d190_10, List.forall_mem_append.mpr ⟨hb_d190_11, List.forall_mem_append.mpr ⟨hb_d190_12, List.forall_mem_append.mpr ⟨hb_d190_13, List.forall_mem_append.mpr ⟨hb_d190_14, List.forall_mem_append.mpr ⟨hb_d190_15, List.forall_mem_append.mpr ⟨hb_d190_16, List.forall_mem_append.mpr ⟨hb_d190_17, List.forall_mem_append.mpr ⟨hb_d190_18, List.forall_mem_append.mpr ⟨hb_d190_19, List.forall_mem_append.mpr ⟨hb_d190_20, List.forall_mem_append.mpr ⟨hb_d190_21, hb_d190_22⟩⟩⟩⟩⟩⟩⟩⟩⟩⟩⟩⟩⟩⟩⟩⟩⟩⟩⟩⟩⟩⟩, px_bL_ok hb_l12⟩
theorem hb_d191_0 : ∀ q ∈ hb_c191_0, decode hb_h191.2.1 q.1 = .ok q.2 := px_rwc_ok (by decide +kernel)
theorem hb_d191_1 : ∀ q ∈ hb_c191_1, decode hb_h191.2.1 q.1 = .ok q.2 := px_rwc_ok (by decide +kernel)
theorem hb_d191_2 : ∀ q ∈ hb_c191_2, decode hb_h191.2.1 q.1 = .ok q.2 := px_rwc_ok (by decide +kernel)
theorem hb_d191_3 : ∀ q ∈ hb_c191_3, decode hb_h191.2.1 q.1 = .ok q.2 := px_rwc_ok (by decide +kernel)
theorem hb_d191_4 : ∀ q ∈ hb_c191_4, decode hb_h191.2.1 q.1 = .ok q.2 := px_rwc_ok (by decide +kernel)
theorem hb_d191_5 : ∀ q ∈ hb_c191_5, decode hb_h191.2.1 q.1 = .ok q.2 := px_rwc_ok (by decide +kernel)
theorem hb_d191_6 : ∀ q ∈ hb_c191_6, decode hb_h191.2.1 q.1 = .ok q.2 := px_rwc_ok (by decide +kernel)
theorem hb_d191_7 : ∀ q ∈ hb_c191_7, decode hb_h191.2.1 q.1 = .ok q.2 := px_rwc_ok (by decide +kernel)
theorem hb_d191_8 : ∀ q ∈ hb_c191_8, decode hb_h191.2.1 q.1 = .ok q.2 := px_rwc_ok (by decide +kernel)
theorem hb_d191_9 : ∀ q ∈ hb_c191_9, decode hb_h191.2.1 q.1 = .ok q.2 := px_rwc_ok (by decide +kernel)
set_option maxRecDepth 100000 in
theorem hb_w191 : lw_tbl[1602]? = some (Cond.code hb_h191.1 hb_h191.2.1 hb_h191.2.2.1 hb_h191.2.2.2.1) := by rfl
theorem hb_g191 : px_bM hb_h191 107 = true := by decide +kernel
set_option maxRecDepth 100000 in
theorem hb_o191 : px_okM px_Ts px_Ns hb_cl hb_SL hb_P hb_m191 := ⟨px_bM_ok hb_w191 hb_g191, List.forall_mem_append.mpr ⟨hb_d191_0, List.forall_mem_append.mpr ⟨hb_d191_1, List.forall_mem_append.mpr ⟨hb_d191_2, List.forall_mem_append.mpr ⟨hb_d191_3, List.forall_mem_append.mpr ⟨hb_d191_4, List.forall_mem_append.mpr ⟨hb_d191_5, List.forall_mem_append.mpr ⟨hb_d191_6, List.forall_mem_append.mpr ⟨hb_d191_7, List.forall_mem_append.mpr ⟨hb_d191_8, hb_d191_9⟩⟩⟩⟩⟩⟩⟩⟩⟩, px_bL_ok hb_l12⟩
theorem hb_d192_0 : ∀ q ∈ hb_c192_0, decode hb_h192.2.1 q.1 = .ok q.2 := px_rwc_ok (by decide +kernel)
theorem hb_d192_1 : ∀ q ∈ hb_c192_1, decode hb_h192.2.1 q.1 = .ok q.2 := px_rwc_ok (by decide +kernel)
theorem hb_d192_2 : ∀ q ∈ hb_c192_2, decode hb_h192.2.1 q.1 = .ok q.2 := px_rwc_ok (by decide +kernel)
theorem hb_d192_3 : ∀ q ∈ hb_c192_3, decode hb_h192.2.1 q.1 = .ok q.2 := px_rwc_ok (by decide +kernel)
theorem hb_d192_4 : ∀ q ∈ hb_c192_4, decode hb_h192.2.1 q.1 = .ok q.2 := px_rwc_ok (by decide +kernel)
theorem hb_d192_5 : ∀ q ∈ hb_c192_5, decode hb_h192.2.1 q.1 = .ok q.2 := px_rwc_ok (by decide +kernel)
theorem hb_d192_6 : ∀ q ∈ hb_c192_6, decode hb_h192.2.1 q.1 = .ok q.2 := px_rwc_ok (by decide +kernel)
theorem hb_d192_7 : ∀ q ∈ hb_c192_7, decode hb_h192.2.1 q.1 = .ok q.2 := px_rwc_ok (by decide +kernel)
theorem hb_d192_8 : ∀ q ∈ hb_c192_8, decode hb_h192.2.1 q.1 = .ok q.2 := px_rwc_ok (by decide +kernel)
set_option maxRecDepth 100000 in
theorem hb_w192 : lw_tbl[1632]? = some (Cond.code hb_h192.1 hb_h192.2.1 hb_h192.2.2.1 hb_h192.2.2.2.1) := by rfl
theorem hb_g192 : px_bM hb_h192 107 = true := by decide +kernel
set_option maxRecDepth 100000 in
theorem hb_o192 : px_okM px_Ts px_Ns hb_cl hb_SL hb_P hb_m192 := ⟨px_bM_ok hb_w192 hb_g192, List.forall_mem_append.mpr ⟨hb_d192_0, List.forall_mem_append.mpr ⟨hb_d192_1, List.forall_mem_append.mpr ⟨hb_d192_2, List.forall_mem_append.mpr ⟨hb_d192_3, List.forall_mem_append.mpr ⟨hb_d192_4, List.forall_mem_append.mpr ⟨hb_d192_5, List.forall_mem_append.mpr ⟨hb_d192_6, List.forall_mem_append.mpr ⟨hb_d192_7, hb_d192_8⟩⟩⟩⟩⟩⟩⟩⟩, px_bL_ok hb_l12⟩
theorem hb_d193_0 : ∀ q ∈ hb_c193_0, decode hb_h193.2.1 q.1 = .ok q.2 := px_rwc_ok (by decide +kernel)
set_option maxRecDepth 100000 in
theorem hb_w193 : lw_tbl[1642]? = some (Cond.code hb_h193.1 hb_h193.2.1 hb_h193.2.2.1 hb_h193.2.2.2.1) := by rfl
theorem hb_g193 : px_bM hb_h193 107 = true := by decide +kernel
set_option maxRecDepth 100000 in
theorem hb_o193 : px_okM px_Ts px_Ns hb_cl hb_SL hb_P hb_m193 := ⟨px_bM_ok hb_w193 hb_g193, hb_d193_0, px_bL_ok hb_l12⟩
theorem hb_d194_0 : ∀ q ∈ hb_c194_0, decode hb_h194.2.1 q.1 = .ok q.2 := px_rwc_ok (by decide +kernel)
theorem hb_d194_1 : ∀ q ∈ hb_c194_1, decode hb_h194.2.1 q.1 = .ok q.2 := px_rwc_ok (by decide +kernel)
theorem hb_d194_2 : ∀ q ∈ hb_c194_2, decode hb_h194.2.1 q.1 = .ok q.2 := px_rwc_ok (by decide +kernel)
theorem hb_d194_3 : ∀ q ∈ hb_c194_3, decode hb_h194.2.1 q.1 = .ok q.2 := px_rwc_ok (by decide +kernel)
set_option maxRecDepth 100000 in
theorem hb_w194 : lw_tbl[1639]? = some (Cond.code hb_h194.1 hb_h194.2.1 hb_h194.2.2.1 hb_h194.2.2.2.1) := by rfl
theorem hb_g194 : px_bM hb_h194 107 = true := by decide +kernel
set_option maxRecDepth 100000 in
theorem hb_o194 : px_okM px_Ts px_Ns hb_cl hb_SL hb_P hb_m194 := ⟨px_bM_ok hb_w194 hb_g194, List.forall_mem_append.mpr ⟨hb_d194_0, List.forall_mem_append.mpr ⟨hb_d194_1, List.forall_mem_append.mpr ⟨hb_d194_2, hb_d194_3⟩⟩⟩, px_bL_ok hb_l12⟩
theorem hb_d195_0 : ∀ q ∈ hb_c195_0, decode hb_h195.2.1 q.1 = .ok q.2 := px_rwc_ok (by decide +kernel)
theorem hb_d195_1 : ∀ q ∈ hb_c195_1, decode hb_h195.2.1 q.1 = .ok q.2 := px_rwc_ok (by decide +kernel)
theorem hb_d195_2 : ∀ q ∈ hb_c195_2, decode hb_h195.2.1 q.1 = .ok q.2 := px_rwc_ok (by decide +kernel)
theorem hb_d195_3 : ∀ q ∈ hb_c195_3, decode hb_h195.2.1 q.1 = .ok q.2 := px_rwc_ok (by decide +kernel)
set_option maxRecDepth 100000 in
theorem hb_w195 : lw_tbl[1646]? = some (Cond.code hb_h195.1 hb_h195.2.1 hb_h195.2.2.1 hb_h195.2.2.2.1) := by rfl
theorem hb_g195 : px_bM hb_h195 107 = true := by decide +kernel
set_option maxRecDepth 100000 in
theorem hb_o195 : px_okM px_Ts px_Ns hb_cl hb_SL hb_P hb_m195 := ⟨px_bM_ok hb_w195 hb_g195, List.forall_mem_append.mpr ⟨hb_d195_0, List.forall_mem_append.mpr ⟨hb_d195_1, List.forall_mem_append.mpr ⟨hb_d195_2, hb_d195_3⟩⟩⟩, px_bL_ok hb_l12⟩
theorem hb_d196_0 : ∀ q ∈ hb_c196_0, decode hb_h196.2.1 q.1 = .ok q.2 := px_rwc_ok (by decide +kernel)
theorem hb_d196_1 : ∀ q ∈ hb_c196_1, decode hb_h196.2.1 q.1 = .ok q.2 := px_rwc_ok (by decide +kernel)
theorem hb_d196_2 : ∀ q ∈ hb_c196_2, decode hb_h196.2.1 q.1 = .ok q.2 := px_rwc_ok (by decide +kernel)
theorem hb_d196_3 : ∀ q ∈ hb_c196_3, decode hb_h196.2.1 q.1 = .ok q.2 := px_rwc_ok (by decide +kernel)
set_option maxRecDepth 100000 in
theorem hb_w196 : lw_tbl[1650]? = some (Cond.code hb_h196.1 hb_h196.2.1 hb_h196.2.2.1 hb_h196.2.2.2.1) := by rfl
theorem hb_g196 : px_bM hb_h196 107 = true := by decide +kernel
set_option maxRecDepth 100000 in
theorem hb_o196 : px_okM px_Ts px_Ns hb_cl hb_SL hb_P hb_m196 := ⟨px_bM_ok hb_w196 hb_g196, List.forall_mem_append.mpr ⟨hb_d196_0, List.forall_mem_append.mpr ⟨hb_d196_1, List.forall_mem_append.mpr ⟨hb_d196_2, hb_d196_3⟩⟩⟩, px_bL_ok hb_l12⟩
theorem hb_d197_0 : ∀ q ∈ hb_c197_0, decode hb_h197.2.1 q.1 = .ok q.2 := px_rwc_ok (by decide +kernel)
theorem hb_d197_1 : ∀ q ∈ hb_c197_1, decode hb_h197.2.1 q.1 = .ok q.2 := px_rwc_ok (by decide +kernel)
set_option maxRecDepth 100000 in
theorem hb_w197 : lw_tbl[1654]? = some (Cond.code hb_h197.1 hb_h197.2.1 hb_h197.2.2.1 hb_h197.2.2.2.1) := by rfl
theorem hb_g197 : px_bM hb_h197 107 = true := by decide +kernel
set_option maxRecDepth 100000 in
theorem hb_o197 : px_okM px_Ts px_Ns hb_cl hb_SL hb_P hb_m197 := ⟨px_bM_ok hb_w197 hb_g197, List.forall_mem_append.mpr ⟨hb_d197_0, hb_d197_1⟩, px_bL_ok hb_l12⟩
theorem hb_d198_0 : ∀ q ∈ hb_c198_0, decode hb_h198.2.1 q.1 = .ok q.2 := px_rwc_ok (by decide +kernel)
theorem hb_d198_1 : ∀ q ∈ hb_c198_1, decode hb_h198.2.1 q.1 = .ok q.2 := px_rwc_ok (by decide +kernel)
theorem hb_d198_2 : ∀ q ∈ hb_c198_2, decode hb_h198.2.1 q.1 = .ok q.2 := px_rwc_ok (by decide +kernel)
theorem hb_d198_3 : ∀ q ∈ hb_c198_3, decode hb_h198.2.1 q.1 = .ok q.2 := px_rwc_ok (by decide +kernel)
theorem hb_d198_4 : ∀ q ∈ hb_c198_4, decode hb_h198.2.1 q.1 = .ok q.2 := px_rwc_ok (by decide +kernel)
theorem hb_d198_5 : ∀ q ∈ hb_c198_5, decode hb_h198.2.1 q.1 = .ok q.2 := px_rwc_ok (by decide +kernel)
set_option maxRecDepth 100000 in
theorem hb_w198 : lw_tbl[1658]? = some (Cond.code hb_h198.1 hb_h198.2.1 hb_h198.2.2.1 hb_h198.2.2.2.1) := by rfl
theorem hb_g198 : px_bM hb_h198 107 = true := by decide +kernel
set_option maxRecDepth 100000 in
theorem hb_o198 : px_okM px_Ts px_Ns hb_cl hb_SL hb_P hb_m198 := ⟨px_bM_ok hb_w198 hb_g198, List.forall_mem_append.mpr ⟨hb_d198_0, List.forall_mem_append.mpr ⟨hb_d198_1, List.forall_mem_append.mpr ⟨hb_d198_2, List.forall_mem_append.mpr ⟨hb_d198_3, List.forall_mem_append.mpr ⟨hb_d198_4, hb_d198_5⟩⟩⟩⟩⟩, px_bL_ok hb_l12⟩
theorem hb_d199_0 : ∀ q ∈ hb_c199_0, decode hb_h199.2.1 q.1 = .ok q.2 := px_rwc_ok (by decide +kernel)
theorem hb_d199_1 : ∀ q ∈ hb_c199_1, decode hb_h199.2.1 q.1 = .ok q.2 := px_rwc_ok (by decide +kernel)
theorem hb_d199_2 : ∀ q ∈ hb_c199_2, decode hb_h199.2.1 q.1 = .ok q.2 := px_rwc_ok (by decide +kernel)
theorem hb_d199_3 : ∀ q ∈ hb_c199_3, decode hb_h199.2.1 q.1 = .ok q.2 := px_rwc_ok (by decide +kernel)
theorem hb_d199_4 : ∀ q ∈ hb_c199_4, decode hb_h199.2.1 q.1 = .ok q.2 := px_rwc_ok (by decide +kernel)
theorem hb_d199_5 : ∀ q ∈ hb_c199_5, decode hb_h199.2.1 q.1 = .ok q.2 := px_rwc_ok (by decide +kernel)
theorem hb_d199_6 : ∀ q ∈ hb_c199_6, decode hb_h199.2.1 q.1 = .ok q.2 := px_rwc_ok (by decide +kernel)
theorem hb_d199_7 : ∀ q ∈ hb_c199_7, decode hb_h199.2.1 q.1 = .ok q.2 := px_rwc_ok (by decide +kernel)
theorem hb_d199_8 : ∀ q ∈ hb_c199_8, decode hb_h199.2.1 q.1 = .ok q.2 := px_rwc_ok (by decide +kernel)
theorem hb_d199_9 : ∀ q ∈ hb_c199_9, decode hb_h199.2.1 q.1 = .ok q.2 := px_rwc_ok (by decide +kernel)
set_option maxRecDepth 100000 in
theorem hb_w199 : lw_tbl[1662]? = some (Cond.code hb_h199.1 hb_h199.2.1 hb_h199.2.2.1 hb_h199.2.2.2.1) := by rfl
theorem hb_g199 : px_bM hb_h199 107 = true := by decide +kernel
set_option maxRecDepth 100000 in
theorem hb_o199 : px_okM px_Ts px_Ns hb_cl hb_SL hb_P hb_m199 := ⟨px_bM_ok hb_w199 hb_g199, List.forall_mem_append.mpr ⟨hb_d199_0, List.forall_mem_append.mpr ⟨hb_d199_1, List.forall_mem_append.mpr ⟨hb_d199_2, List.forall_mem_append.mpr ⟨hb_d199_3, List.forall_mem_append.mpr ⟨hb_d199_4, List.forall_mem_append.mpr ⟨hb_d199_5, List.forall_mem_append.mpr ⟨hb_d199_6, List.forall_mem_append.mpr ⟨hb_d199_7, List.forall_mem_append.mpr ⟨hb_d199_8, hb_d199_9⟩⟩⟩⟩⟩⟩⟩⟩⟩, px_bL_ok hb_l12⟩

end

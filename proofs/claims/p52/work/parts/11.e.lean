theorem hb_d176_0 : ∀ q ∈ hb_c176_0, decode hb_h176.2.1 q.1 = .ok q.2 := by decide +kernel
theorem hb_g176 : px_bM hb_h176 737 95 = true := by decide +kernel
theorem hb_o176 : px_okM px_Ts px_Ns hb_cl hb_SL hb_P hb_m176 := ⟨px_bM_ok hb_g176, hb_d176_0, px_bL_ok hb_l11⟩
theorem hb_d177_0 : ∀ q ∈ hb_c177_0, decode hb_h177.2.1 q.1 = .ok q.2 := by decide +kernel
theorem hb_g177 : px_bM hb_h177 1317 95 = true := by decide +kernel
theorem hb_o177 : px_okM px_Ts px_Ns hb_cl hb_SL hb_P hb_m177 := ⟨px_bM_ok hb_g177, hb_d177_0, px_bL_ok hb_l11⟩
theorem hb_d178_0 : ∀ q ∈ hb_c178_0, decode hb_h178.2.1 q.1 = .ok q.2 := by decide +kernel
theorem hb_d178_1 : ∀ q ∈ hb_c178_1, decode hb_h178.2.1 q.1 = .ok q.2 := by decide +kernel
theorem hb_g178 : px_bM hb_h178 1329 95 = true := by decide +kernel
theorem hb_o178 : px_okM px_Ts px_Ns hb_cl hb_SL hb_P hb_m178 := ⟨px_bM_ok hb_g178, List.forall_mem_append.mpr ⟨hb_d178_0, hb_d178_1⟩, px_bL_ok hb_l11⟩
theorem hb_d179_0 : ∀ q ∈ hb_c179_0, decode hb_h179.2.1 q.1 = .ok q.2 := by decide +kernel
theorem hb_g179 : px_bM hb_h179 1352 95 = true := by decide +kernel
theorem hb_o179 : px_okM px_Ts px_Ns hb_cl hb_SL hb_P hb_m179 := ⟨px_bM_ok hb_g179, hb_d179_0, px_bL_ok hb_l11⟩
theorem hb_d180_0 : ∀ q ∈ hb_c180_0, decode hb_h180.2.1 q.1 = .ok q.2 := by decide +kernel
theorem hb_g180 : px_bM hb_h180 1344 95 = true := by decide +kernel
theorem hb_o180 : px_okM px_Ts px_Ns hb_cl hb_SL hb_P hb_m180 := ⟨px_bM_ok hb_g180, hb_d180_0, px_bL_ok hb_l11⟩
theorem hb_d181_0 : ∀ q ∈ hb_c181_0, decode hb_h181.2.1 q.1 = .ok q.2 := by decide +kernel
theorem hb_d181_1 : ∀ q ∈ hb_c181_1, decode hb_h181.2.1 q.1 = .ok q.2 := by decide +kernel
theorem hb_d181_2 : ∀ q ∈ hb_c181_2, decode hb_h181.2.1 q.1 = .ok q.2 := by decide +kernel
theorem hb_d181_3 : ∀ q ∈ hb_c181_3, decode hb_h181.2.1 q.1 = .ok q.2 := by decide +kernel
theorem hb_d181_4 : ∀ q ∈ hb_c181_4, decode hb_h181.2.1 q.1 = .ok q.2 := by decide +kernel
theorem hb_d181_5 : ∀ q ∈ hb_c181_5, decode hb_h181.2.1 q.1 = .ok q.2 := by decide +kernel
theorem hb_d181_6 : ∀ q ∈ hb_c181_6, decode hb_h181.2.1 q.1 = .ok q.2 := by decide +kernel
theorem hb_d181_7 : ∀ q ∈ hb_c181_7, decode hb_h181.2.1 q.1 = .ok q.2 := by decide +kernel
theorem hb_d181_8 : ∀ q ∈ hb_c181_8, decode hb_h181.2.1 q.1 = .ok q.2 := by decide +kernel
theorem hb_d181_9 : ∀ q ∈ hb_c181_9, decode hb_h181.2.1 q.1 = .ok q.2 := by decide +kernel
theorem hb_d181_10 : ∀ q ∈ hb_c181_10, decode hb_h181.2.1 q.1 = .ok q.2 := by decide +kernel
theorem hb_d181_11 : ∀ q ∈ hb_c181_11, decode hb_h181.2.1 q.1 = .ok q.2 := by decide +kernel
theorem hb_d181_12 : ∀ q ∈ hb_c181_12, decode hb_h181.2.1 q.1 = .ok q.2 := by decide +kernel
theorem hb_g181 : px_bM hb_h181 1440 107 = true := by decide +kernel
theorem hb_o181 : px_okM px_Ts px_Ns hb_cl hb_SL hb_P hb_m181 := ⟨px_bM_ok hb_g181, List.forall_mem_append.mpr ⟨hb_d181_0, List.forall_mem_append.mpr ⟨hb_d181_1, List.forall_mem_append.mpr ⟨hb_d181_2, List.forall_mem_append.mpr ⟨hb_d181_3, List.forall_mem_append.mpr ⟨hb_d181_4, List.forall_mem_append.mpr ⟨hb_d181_5, List.forall_mem_append.mpr ⟨hb_d181_6, List.forall_mem_append.mpr ⟨hb_d181_7, List.forall_mem_append.mpr ⟨hb_d181_8, List.forall_mem_append.mpr ⟨hb_d181_9, List.forall_mem_append.mpr ⟨hb_d181_10, List.forall_mem_append.mpr ⟨hb_d181_11, hb_d181_12⟩⟩⟩⟩⟩⟩⟩⟩⟩⟩⟩⟩, px_bL_ok hb_l12⟩
theorem hb_d182_0 : ∀ q ∈ hb_c182_0, decode hb_h182.2.1 q.1 = .ok q.2 := by decide +kernel
theorem hb_g182 : px_bM hb_h182 1605 107 = true := by decide +kernel
theorem hb_o182 : px_okM px_Ts px_Ns hb_cl hb_SL hb_P hb_m182 := ⟨px_bM_ok hb_g182, hb_d182_0, px_bL_ok hb_l12⟩
theorem hb_d183_0 : ∀ q ∈ hb_c183_0, decode hb_h183.2.1 q.1 = .ok q.2 := by decide +kernel
theorem hb_g183 : px_bM hb_h183 1691 107 = true := by decide +kernel
theorem hb_o183 : px_okM px_Ts px_Ns hb_cl hb_SL hb_P hb_m183 := ⟨px_bM_ok hb_g183, hb_d183_0, px_bL_ok hb_l12⟩
theorem hb_d184_0 : ∀ q ∈ hb_c184_0, decode hb_h184.2.1 q.1 = .ok q.2 := by decide +kernel
theorem hb_g184 : px_bM hb_h184 1635 107 = true := by decide +kernel
theorem hb_o184 : px_okM px_Ts px_Ns hb_cl hb_SL hb_P hb_m184 := ⟨px_bM_ok hb_g184, hb_d184_0, px_bL_ok hb_l12⟩
theorem hb_d185_0 : ∀ q ∈ hb_c185_0, decode hb_h185.2.1 q.1 = .ok q.2 := by decide +kernel
theorem hb_g185 : px_bM hb_h185 1624 107 = true := by decide +kernel
theorem hb_o185 : px_okM px_Ts px_Ns hb_cl hb_SL hb_P hb_m185 := ⟨px_bM_ok hb_g185, hb_d185_0, px_bL_ok hb_l12⟩
theorem hb_d186_0 : ∀ q ∈ hb_c186_0, decode hb_h186.2.1 q.1 = .ok q.2 := by decide +kernel
theorem hb_g186 : px_bM hb_h186 1609 107 = true := by decide +kernel
theorem hb_o186 : px_okM px_Ts px_Ns hb_cl hb_SL hb_P hb_m186 := ⟨px_bM_ok hb_g186, hb_d186_0, px_bL_ok hb_l12⟩
theorem hb_d187_0 : ∀ q ∈ hb_c187_0, decode hb_h187.2.1 q.1 = .ok q.2 := by decide +kernel
theorem hb_d187_1 : ∀ q ∈ hb_c187_1, decode hb_h187.2.1 q.1 = .ok q.2 := by decide +kernel
theorem hb_g187 : px_bM hb_h187 1617 107 = true := by decide +kernel
theorem hb_o187 : px_okM px_Ts px_Ns hb_cl hb_SL hb_P hb_m187 := ⟨px_bM_ok hb_g187, List.forall_mem_append.mpr ⟨hb_d187_0, hb_d187_1⟩, px_bL_ok hb_l12⟩

theorem hb_d188_0 : ∀ q ∈ hb_c188_0, decode hb_h188.2.1 q.1 = .ok q.2 := by decide +kernel
theorem hb_g188 : px_bM hb_h188 1621 107 = true := by decide +kernel
theorem hb_o188 : px_okM px_Ts px_Ns hb_cl hb_SL hb_P hb_m188 := ⟨px_bM_ok hb_g188, hb_d188_0, px_bL_ok hb_l12⟩
theorem hb_d189_0 : ∀ q ∈ hb_c189_0, decode hb_h189.2.1 q.1 = .ok q.2 := by decide +kernel
theorem hb_g189 : px_bM hb_h189 1628 107 = true := by decide +kernel
theorem hb_o189 : px_okM px_Ts px_Ns hb_cl hb_SL hb_P hb_m189 := ⟨px_bM_ok hb_g189, hb_d189_0, px_bL_ok hb_l12⟩
theorem hb_d190_0 : ∀ q ∈ hb_c190_0, decode hb_h190.2.1 q.1 = .ok q.2 := by decide +kernel
theorem hb_d190_1 : ∀ q ∈ hb_c190_1, decode hb_h190.2.1 q.1 = .ok q.2 := by decide +kernel
theorem hb_d190_2 : ∀ q ∈ hb_c190_2, decode hb_h190.2.1 q.1 = .ok q.2 := by decide +kernel
theorem hb_d190_3 : ∀ q ∈ hb_c190_3, decode hb_h190.2.1 q.1 = .ok q.2 := by decide +kernel
theorem hb_d190_4 : ∀ q ∈ hb_c190_4, decode hb_h190.2.1 q.1 = .ok q.2 := by decide +kernel
theorem hb_g190 : px_bM hb_h190 1613 107 = true := by decide +kernel
theorem hb_o190 : px_okM px_Ts px_Ns hb_cl hb_SL hb_P hb_m190 := ⟨px_bM_ok hb_g190, List.forall_mem_append.mpr ⟨hb_d190_0, List.forall_mem_append.mpr ⟨hb_d190_1, List.forall_mem_append.mpr ⟨hb_d190_2, List.forall_mem_append.mpr ⟨hb_d190_3, hb_d190_4⟩⟩⟩⟩, px_bL_ok hb_l12⟩
theorem hb_d191_0 : ∀ q ∈ hb_c191_0, decode hb_h191.2.1 q.1 = .ok q.2 := by decide +kernel
theorem hb_d191_1 : ∀ q ∈ hb_c191_1, decode hb_h191.2.1 q.1 = .ok q.2 := by decide +kernel
theorem hb_g191 : px_bM hb_h191 1602 107 = true := by decide +kernel
theorem hb_o191 : px_okM px_Ts px_Ns hb_cl hb_SL hb_P hb_m191 := ⟨px_bM_ok hb_g191, List.forall_mem_append.mpr ⟨hb_d191_0, hb_d191_1⟩, px_bL_ok hb_l12⟩
theorem hb_d192_0 : ∀ q ∈ hb_c192_0, decode hb_h192.2.1 q.1 = .ok q.2 := by decide +kernel
theorem hb_d192_1 : ∀ q ∈ hb_c192_1, decode hb_h192.2.1 q.1 = .ok q.2 := by decide +kernel
theorem hb_g192 : px_bM hb_h192 1632 107 = true := by decide +kernel
theorem hb_o192 : px_okM px_Ts px_Ns hb_cl hb_SL hb_P hb_m192 := ⟨px_bM_ok hb_g192, List.forall_mem_append.mpr ⟨hb_d192_0, hb_d192_1⟩, px_bL_ok hb_l12⟩
theorem hb_d193_0 : ∀ q ∈ hb_c193_0, decode hb_h193.2.1 q.1 = .ok q.2 := by decide +kernel
theorem hb_g193 : px_bM hb_h193 1642 107 = true := by decide +kernel
theorem hb_o193 : px_okM px_Ts px_Ns hb_cl hb_SL hb_P hb_m193 := ⟨px_bM_ok hb_g193, hb_d193_0, px_bL_ok hb_l12⟩
theorem hb_d194_0 : ∀ q ∈ hb_c194_0, decode hb_h194.2.1 q.1 = .ok q.2 := by decide +kernel
theorem hb_g194 : px_bM hb_h194 1639 107 = true := by decide +kernel
theorem hb_o194 : px_okM px_Ts px_Ns hb_cl hb_SL hb_P hb_m194 := ⟨px_bM_ok hb_g194, hb_d194_0, px_bL_ok hb_l12⟩
theorem hb_d195_0 : ∀ q ∈ hb_c195_0, decode hb_h195.2.1 q.1 = .ok q.2 := by decide +kernel
theorem hb_g195 : px_bM hb_h195 1646 107 = true := by decide +kernel
theorem hb_o195 : px_okM px_Ts px_Ns hb_cl hb_SL hb_P hb_m195 := ⟨px_bM_ok hb_g195, hb_d195_0, px_bL_ok hb_l12⟩
theorem hb_d196_0 : ∀ q ∈ hb_c196_0, decode hb_h196.2.1 q.1 = .ok q.2 := by decide +kernel
theorem hb_g196 : px_bM hb_h196 1650 107 = true := by decide +kernel
theorem hb_o196 : px_okM px_Ts px_Ns hb_cl hb_SL hb_P hb_m196 := ⟨px_bM_ok hb_g196, hb_d196_0, px_bL_ok hb_l12⟩
theorem hb_d197_0 : ∀ q ∈ hb_c197_0, decode hb_h197.2.1 q.1 = .ok q.2 := by decide +kernel
theorem hb_g197 : px_bM hb_h197 1654 107 = true := by decide +kernel
theorem hb_o197 : px_okM px_Ts px_Ns hb_cl hb_SL hb_P hb_m197 := ⟨px_bM_ok hb_g197, hb_d197_0, px_bL_ok hb_l12⟩
theorem hb_d198_0 : ∀ q ∈ hb_c198_0, decode hb_h198.2.1 q.1 = .ok q.2 := by decide +kernel
theorem hb_d198_1 : ∀ q ∈ hb_c198_1, decode hb_h198.2.1 q.1 = .ok q.2 := by decide +kernel
theorem hb_g198 : px_bM hb_h198 1658 107 = true := by decide +kernel
theorem hb_o198 : px_okM px_Ts px_Ns hb_cl hb_SL hb_P hb_m198 := ⟨px_bM_ok hb_g198, List.forall_mem_append.mpr ⟨hb_d198_0, hb_d198_1⟩, px_bL_ok hb_l12⟩
theorem hb_d199_0 : ∀ q ∈ hb_c199_0, decode hb_h199.2.1 q.1 = .ok q.2 := by decide +kernel
theorem hb_d199_1 : ∀ q ∈ hb_c199_1, decode hb_h199.2.1 q.1 = .ok q.2 := by decide +kernel
theorem hb_g199 : px_bM hb_h199 1662 107 = true := by decide +kernel
theorem hb_o199 : px_okM px_Ts px_Ns hb_cl hb_SL hb_P hb_m199 := ⟨px_bM_ok hb_g199, List.forall_mem_append.mpr ⟨hb_d199_0, hb_d199_1⟩, px_bL_ok hb_l12⟩

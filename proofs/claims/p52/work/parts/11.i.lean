theorem hb_d224_0 : ∀ q ∈ hb_c224_0, decode hb_h224.2.1 q.1 = .ok q.2 := by decide +kernel
theorem hb_d224_1 : ∀ q ∈ hb_c224_1, decode hb_h224.2.1 q.1 = .ok q.2 := by decide +kernel
theorem hb_d224_2 : ∀ q ∈ hb_c224_2, decode hb_h224.2.1 q.1 = .ok q.2 := by decide +kernel
theorem hb_d224_3 : ∀ q ∈ hb_c224_3, decode hb_h224.2.1 q.1 = .ok q.2 := by decide +kernel
theorem hb_g224 : px_bM hb_h224 1760 107 = true := by decide +kernel
theorem hb_o224 : px_okM px_Ts px_Ns hb_cl hb_SL hb_P hb_m224 := ⟨px_bM_ok hb_g224, List.forall_mem_append.mpr ⟨hb_d224_0, List.forall_mem_append.mpr ⟨hb_d224_1, List.forall_mem_append.mpr ⟨hb_d224_2, hb_d224_3⟩⟩⟩, px_bL_ok hb_l12⟩
theorem hb_d225_0 : ∀ q ∈ hb_c225_0, decode hb_h225.2.1 q.1 = .ok q.2 := by decide +kernel
theorem hb_d225_1 : ∀ q ∈ hb_c225_1, decode hb_h225.2.1 q.1 = .ok q.2 := by decide +kernel
theorem hb_g225 : px_bM hb_h225 1772 107 = true := by decide +kernel
theorem hb_o225 : px_okM px_Ts px_Ns hb_cl hb_SL hb_P hb_m225 := ⟨px_bM_ok hb_g225, List.forall_mem_append.mpr ⟨hb_d225_0, hb_d225_1⟩, px_bL_ok hb_l12⟩
theorem hb_d226_0 : ∀ q ∈ hb_c226_0, decode hb_h226.2.1 q.1 = .ok q.2 := by decide +kernel
theorem hb_d226_1 : ∀ q ∈ hb_c226_1, decode hb_h226.2.1 q.1 = .ok q.2 := by decide +kernel
theorem hb_d226_2 : ∀ q ∈ hb_c226_2, decode hb_h226.2.1 q.1 = .ok q.2 := by decide +kernel
theorem hb_d226_3 : ∀ q ∈ hb_c226_3, decode hb_h226.2.1 q.1 = .ok q.2 := by decide +kernel
theorem hb_g226 : px_bM hb_h226 1768 107 = true := by decide +kernel
theorem hb_o226 : px_okM px_Ts px_Ns hb_cl hb_SL hb_P hb_m226 := ⟨px_bM_ok hb_g226, List.forall_mem_append.mpr ⟨hb_d226_0, List.forall_mem_append.mpr ⟨hb_d226_1, List.forall_mem_append.mpr ⟨hb_d226_2, hb_d226_3⟩⟩⟩, px_bL_ok hb_l12⟩
theorem hb_d227_0 : ∀ q ∈ hb_c227_0, decode hb_h227.2.1 q.1 = .ok q.2 := by decide +kernel
theorem hb_d227_1 : ∀ q ∈ hb_c227_1, decode hb_h227.2.1 q.1 = .ok q.2 := by decide +kernel
theorem hb_d227_2 : ∀ q ∈ hb_c227_2, decode hb_h227.2.1 q.1 = .ok q.2 := by decide +kernel
theorem hb_g227 : px_bM hb_h227 1776 107 = true := by decide +kernel
theorem hb_o227 : px_okM px_Ts px_Ns hb_cl hb_SL hb_P hb_m227 := ⟨px_bM_ok hb_g227, List.forall_mem_append.mpr ⟨hb_d227_0, List.forall_mem_append.mpr ⟨hb_d227_1, hb_d227_2⟩⟩, px_bL_ok hb_l12⟩
theorem hb_d228_0 : ∀ q ∈ hb_c228_0, decode hb_h228.2.1 q.1 = .ok q.2 := by decide +kernel
theorem hb_g228 : px_bM hb_h228 1805 107 = true := by decide +kernel
theorem hb_o228 : px_okM px_Ts px_Ns hb_cl hb_SL hb_P hb_m228 := ⟨px_bM_ok hb_g228, hb_d228_0, px_bL_ok hb_l12⟩
theorem hb_d229_0 : ∀ q ∈ hb_c229_0, decode hb_h229.2.1 q.1 = .ok q.2 := by decide +kernel
theorem hb_g229 : px_bM hb_h229 1797 107 = true := by decide +kernel
theorem hb_o229 : px_okM px_Ts px_Ns hb_cl hb_SL hb_P hb_m229 := ⟨px_bM_ok hb_g229, hb_d229_0, px_bL_ok hb_l12⟩
theorem hb_d230_0 : ∀ q ∈ hb_c230_0, decode hb_h230.2.1 q.1 = .ok q.2 := by decide +kernel
theorem hb_g230 : px_bM hb_h230 1781 107 = true := by decide +kernel
theorem hb_o230 : px_okM px_Ts px_Ns hb_cl hb_SL hb_P hb_m230 := ⟨px_bM_ok hb_g230, hb_d230_0, px_bL_ok hb_l12⟩
theorem hb_d231_0 : ∀ q ∈ hb_c231_0, decode hb_h231.2.1 q.1 = .ok q.2 := by decide +kernel
theorem hb_g231 : px_bM hb_h231 1785 107 = true := by decide +kernel
theorem hb_o231 : px_okM px_Ts px_Ns hb_cl hb_SL hb_P hb_m231 := ⟨px_bM_ok hb_g231, hb_d231_0, px_bL_ok hb_l12⟩
theorem hb_d232_0 : ∀ q ∈ hb_c232_0, decode hb_h232.2.1 q.1 = .ok q.2 := by decide +kernel
theorem hb_g232 : px_bM hb_h232 1793 107 = true := by decide +kernel
theorem hb_o232 : px_okM px_Ts px_Ns hb_cl hb_SL hb_P hb_m232 := ⟨px_bM_ok hb_g232, hb_d232_0, px_bL_ok hb_l12⟩
theorem hb_d233_0 : ∀ q ∈ hb_c233_0, decode hb_h233.2.1 q.1 = .ok q.2 := by decide +kernel
theorem hb_d233_1 : ∀ q ∈ hb_c233_1, decode hb_h233.2.1 q.1 = .ok q.2 := by decide +kernel
theorem hb_g233 : px_bM hb_h233 1789 107 = true := by decide +kernel
theorem hb_o233 : px_okM px_Ts px_Ns hb_cl hb_SL hb_P hb_m233 := ⟨px_bM_ok hb_g233, List.forall_mem_append.mpr ⟨hb_d233_0, hb_d233_1⟩, px_bL_ok hb_l12⟩
theorem hb_d234_0 : ∀ q ∈ hb_c234_0, decode hb_h234.2.1 q.1 = .ok q.2 := by decide +kernel
theorem hb_g234 : px_bM hb_h234 1809 107 = true := by decide +kernel
theorem hb_o234 : px_okM px_Ts px_Ns hb_cl hb_SL hb_P hb_m234 := ⟨px_bM_ok hb_g234, hb_d234_0, px_bL_ok hb_l12⟩
theorem hb_d235_0 : ∀ q ∈ hb_c235_0, decode hb_h235.2.1 q.1 = .ok q.2 := by decide +kernel
theorem hb_d235_1 : ∀ q ∈ hb_c235_1, decode hb_h235.2.1 q.1 = .ok q.2 := by decide +kernel
theorem hb_g235 : px_bM hb_h235 1801 107 = true := by decide +kernel
theorem hb_o235 : px_okM px_Ts px_Ns hb_cl hb_SL hb_P hb_m235 := ⟨px_bM_ok hb_g235, List.forall_mem_append.mpr ⟨hb_d235_0, hb_d235_1⟩, px_bL_ok hb_l12⟩

noncomputable section
/-! THE LAW OF THIS CLAIM ENDS -/
theorem hb_cu0 : ∃ (k : Nat) (ss : List Nat), ∀ i, i ≤ ss.length → sy_ckT hb_cl hb_lt hb_P (hb_P ++ [hb_m302]) hb_GM (px_Hq hb_B) (px_g2 hb_AB) hb_A hb_LW hb_Cs 40 hb_zs 302 hb_cuts 636 (hb_hd hb_RA hb_FA) k ss i = true := ⟨0, [], fun j hj => match j, hj with
    | 0, _ => hb_t0_0
    | j + 1, hj => absurd hj (by simp only [List.length_nil]; omega)⟩
theorem hb_cu1 : ∃ (k : Nat) (ss : List Nat), ∀ i, i ≤ ss.length → sy_ckT hb_cl hb_lt hb_P (hb_P ++ [hb_m302]) hb_GM (px_Hq hb_B) (px_g2 hb_AB) hb_A hb_LW hb_Cs 40 hb_zs 302 hb_cuts 636 (hb_cs 256 hb_RA hb_FA) k ss i = true := ⟨0, [], fun j hj => match j, hj with
    | 0, _ => hb_t1_0
    | j + 1, hj => absurd hj (by simp only [List.length_nil]; omega)⟩
theorem hb_cu2 : ∃ (k : Nat) (ss : List Nat), ∀ i, i ≤ ss.length → sy_ckT hb_cl hb_lt hb_P (hb_P ++ [hb_m302]) hb_GM (px_Hq hb_B) (px_g2 hb_AB) hb_A hb_LW hb_Cs 40 hb_zs 302 hb_cuts 636 (hb_cs 279 hb_RA hb_FA) k ss i = true := ⟨0, [], fun j hj => match j, hj with
    | 0, _ => hb_t2_0
    | j + 1, hj => absurd hj (by simp only [List.length_nil]; omega)⟩
theorem hb_cu3 : ∃ (k : Nat) (ss : List Nat), ∀ i, i ≤ ss.length → sy_ckT hb_cl hb_lt hb_P (hb_P ++ [hb_m302]) hb_GM (px_Hq hb_B) (px_g2 hb_AB) hb_A hb_LW hb_Cs 40 hb_zs 302 hb_cuts 636 (hb_cs 322 hb_RA hb_FA) k ss i = true := ⟨0, [], fun j hj => match j, hj with
    | 0, _ => hb_t3_0
    | j + 1, hj => absurd hj (by simp only [List.length_nil]; omega)⟩
theorem hb_cu4 : ∃ (k : Nat) (ss : List Nat), ∀ i, i ≤ ss.length → sy_ckT hb_cl hb_lt hb_P (hb_P ++ [hb_m302]) hb_GM (px_Hq hb_B) (px_g2 hb_AB) hb_A hb_LW hb_Cs 40 hb_zs 302 hb_cuts 636 (hb_cs 355 hb_RA hb_FA) k ss i = true := ⟨0, [], fun j hj => match j, hj with
    | 0, _ => hb_t4_0
    | j + 1, hj => absurd hj (by simp only [List.length_nil]; omega)⟩
theorem hb_cu5 : ∃ (k : Nat) (ss : List Nat), ∀ i, i ≤ ss.length → sy_ckT hb_cl hb_lt hb_P (hb_P ++ [hb_m302]) hb_GM (px_Hq hb_B) (px_g2 hb_AB) hb_A hb_LW hb_Cs 40 hb_zs 302 hb_cuts 636 (hb_cs 404 hb_RA hb_FA) k ss i = true := ⟨0, [], fun j hj => match j, hj with
    | 0, _ => hb_t5_0
    | j + 1, hj => absurd hj (by simp only [List.length_nil]; omega)⟩
theorem hb_cu6 : ∃ (k : Nat) (ss : List Nat), ∀ i, i ≤ ss.length → sy_ckT hb_cl hb_lt hb_P (hb_P ++ [hb_m302]) hb_GM (px_Hq hb_B) (px_g2 hb_AB) hb_A hb_LW hb_Cs 40 hb_zs 302 hb_cuts 636 (hb_cs 437 hb_RA hb_FA) k ss i = true := ⟨0, [], fun j hj => match j, hj with
    | 0, _ => hb_t6_0
    | j + 1, hj => absurd hj (by simp only [List.length_nil]; omega)⟩
theorem hb_cu7 : ∃ (k : Nat) (ss : List Nat), ∀ i, i ≤ ss.length → sy_ckT hb_cl hb_lt hb_P (hb_P ++ [hb_m302]) hb_GM (px_Hq hb_B) (px_g2 hb_AB) hb_A hb_LW hb_Cs 40 hb_zs 302 hb_cuts 636 (hb_cs 450 hb_RA hb_FA) k ss i = true := ⟨0, [], fun j hj => match j, hj with
    | 0, _ => hb_t7_0
    | j + 1, hj => absurd hj (by simp only [List.length_nil]; omega)⟩
theorem hb_cu8 : ∃ (k : Nat) (ss : List Nat), ∀ i, i ≤ ss.length → sy_ckT hb_cl hb_lt hb_P (hb_P ++ [hb_m302]) hb_GM (px_Hq hb_B) (px_g2 hb_AB) hb_A hb_LW hb_Cs 40 hb_zs 302 hb_cuts 636 (hb_cs 483 hb_RA hb_FA) k ss i = true := ⟨0, [], fun j hj => match j, hj with
    | 0, _ => hb_t8_0
    | j + 1, hj => absurd hj (by simp only [List.length_nil]; omega)⟩
theorem hb_cu9 : ∃ (k : Nat) (ss : List Nat), ∀ i, i ≤ ss.length → sy_ckT hb_cl hb_lt hb_P (hb_P ++ [hb_m302]) hb_GM (px_Hq hb_B) (px_g2 hb_AB) hb_A hb_LW hb_Cs 40 hb_zs 302 hb_cuts 636 (hb_cs 536 hb_RA hb_FA) k ss i = true := ⟨0, [], fun j hj => match j, hj with
    | 0, _ => hb_t9_0
    | j + 1, hj => absurd hj (by simp only [List.length_nil]; omega)⟩
theorem hb_cu10 : ∃ (k : Nat) (ss : List Nat), ∀ i, i ≤ ss.length → sy_ckT hb_cl hb_lt hb_P (hb_P ++ [hb_m302]) hb_GM (px_Hq hb_B) (px_g2 hb_AB) hb_A hb_LW hb_Cs 40 hb_zs 302 hb_cuts 636 (hb_cs 559 hb_RA hb_FA) k ss i = true := ⟨0, [], fun j hj => match j, hj with
    | 0, _ => hb_t10_0
    | j + 1, hj => absurd hj (by simp only [List.length_nil]; omega)⟩
theorem hb_cu11 : ∃ (k : Nat) (ss : List Nat), ∀ i, i ≤ ss.length → sy_ckT hb_cl hb_lt hb_P (hb_P ++ [hb_m302]) hb_GM (px_Hq hb_B) (px_g2 hb_AB) hb_A hb_LW hb_Cs 40 hb_zs 302 hb_cuts 636 (hb_cs 612 hb_RA hb_FA) k ss i = true := ⟨0, [], fun j hj => match j, hj with
    | 0, _ => hb_t11_0
    | j + 1, hj => absurd hj (by simp only [List.length_nil]; omega)⟩
theorem hb_cu12 : ∃ (k : Nat) (ss : List Nat), ∀ i, i ≤ ss.length → sy_ckT hb_cl hb_lt hb_P (hb_P ++ [hb_m302]) hb_GM (px_Hq hb_B) (px_g2 hb_AB) hb_A hb_LW hb_Cs 40 hb_zs 302 hb_cuts 636 (hb_cs 665 hb_RA hb_FA) k ss i = true := ⟨0, [], fun j hj => match j, hj with
    | 0, _ => hb_t12_0
    | j + 1, hj => absurd hj (by simp only [List.length_nil]; omega)⟩
theorem hb_cu13 : ∃ (k : Nat) (ss : List Nat), ∀ i, i ≤ ss.length → sy_ckT hb_cl hb_lt hb_P (hb_P ++ [hb_m302]) hb_GM (px_Hq hb_B) (px_g2 hb_AB) hb_A hb_LW hb_Cs 40 hb_zs 302 hb_cuts 636 (hb_cs 698 hb_RA hb_FA) k ss i = true := ⟨0, [], fun j hj => match j, hj with
    | 0, _ => hb_t13_0
    | j + 1, hj => absurd hj (by simp only [List.length_nil]; omega)⟩
theorem hb_cu14 : ∃ (k : Nat) (ss : List Nat), ∀ i, i ≤ ss.length → sy_ckT hb_cl hb_lt hb_P (hb_P ++ [hb_m302]) hb_GM (px_Hq hb_B) (px_g2 hb_AB) hb_A hb_LW hb_Cs 40 hb_zs 302 hb_cuts 636 (hb_cs 751 hb_RA hb_FA) k ss i = true := ⟨0, [], fun j hj => match j, hj with
    | 0, _ => hb_t14_0
    | j + 1, hj => absurd hj (by simp only [List.length_nil]; omega)⟩
theorem hb_cu15 : ∃ (k : Nat) (ss : List Nat), ∀ i, i ≤ ss.length → sy_ckT hb_cl hb_lt hb_P (hb_P ++ [hb_m302]) hb_GM (px_Hq hb_B) (px_g2 hb_AB) hb_A hb_LW hb_Cs 40 hb_zs 302 hb_cuts 636 (hb_cs 774 hb_RA hb_FA) k ss i = true := ⟨0, [], fun j hj => match j, hj with
    | 0, _ => hb_t15_0
    | j + 1, hj => absurd hj (by simp only [List.length_nil]; omega)⟩
theorem hb_cu16 : ∃ (k : Nat) (ss : List Nat), ∀ i, i ≤ ss.length → sy_ckT hb_cl hb_lt hb_P (hb_P ++ [hb_m302]) hb_GM (px_Hq hb_B) (px_g2 hb_AB) hb_A hb_LW hb_Cs 40 hb_zs 302 hb_cuts 636 (hb_cs 787 hb_RA hb_FA) k ss i = true := ⟨0, [], fun j hj => match j, hj with
    | 0, _ => hb_t16_0
    | j + 1, hj => absurd hj (by simp only [List.length_nil]; omega)⟩
theorem hb_cu17 : ∃ (k : Nat) (ss : List Nat), ∀ i, i ≤ ss.length → sy_ckT hb_cl hb_lt hb_P (hb_P ++ [hb_m302]) hb_GM (px_Hq hb_B) (px_g2 hb_AB) hb_A hb_LW hb_Cs 40 hb_zs 302 hb_cuts 636 (hb_cs 800 hb_RA hb_FA) k ss i = true := ⟨0, [], fun j hj => match j, hj with
    | 0, _ => hb_t17_0
    | j + 1, hj => absurd hj (by simp only [List.length_nil]; omega)⟩
theorem hb_cu18 : ∃ (k : Nat) (ss : List Nat), ∀ i, i ≤ ss.length → sy_ckT hb_cl hb_lt hb_P (hb_P ++ [hb_m302]) hb_GM (px_Hq hb_B) (px_g2 hb_AB) hb_A hb_LW hb_Cs 40 hb_zs 302 hb_cuts 636 (hb_cs 833 hb_RA hb_FA) k ss i = true := ⟨0, [], fun j hj => match j, hj with
    | 0, _ => hb_t18_0
    | j + 1, hj => absurd hj (by simp only [List.length_nil]; omega)⟩
theorem hb_cu19 : ∃ (k : Nat) (ss : List Nat), ∀ i, i ≤ ss.length → sy_ckT hb_cl hb_lt hb_P (hb_P ++ [hb_m302]) hb_GM (px_Hq hb_B) (px_g2 hb_AB) hb_A hb_LW hb_Cs 40 hb_zs 302 hb_cuts 636 (hb_cs 876 hb_RA hb_FA) k ss i = true := ⟨0, [], fun j hj => match j, hj with
    | 0, _ => hb_t19_0
    | j + 1, hj => absurd hj (by simp only [List.length_nil]; omega)⟩
theorem hb_cu20 : ∃ (k : Nat) (ss : List Nat), ∀ i, i ≤ ss.length → sy_ckT hb_cl hb_lt hb_P (hb_P ++ [hb_m302]) hb_GM (px_Hq hb_B) (px_g2 hb_AB) hb_A hb_LW hb_Cs 40 hb_zs 302 hb_cuts 636 (hb_cs 889 hb_RA hb_FA) k ss i = true := ⟨0, [], fun j hj => match j, hj with
    | 0, _ => hb_t20_0
    | j + 1, hj => absurd hj (by simp only [List.length_nil]; omega)⟩
theorem hb_cu21 : ∃ (k : Nat) (ss : List Nat), ∀ i, i ≤ ss.length → sy_ckT hb_cl hb_lt hb_P (hb_P ++ [hb_m302]) hb_GM (px_Hq hb_B) (px_g2 hb_AB) hb_A hb_LW hb_Cs 40 hb_zs 302 hb_cuts 636 (hb_cs 932 hb_RA hb_FA) k ss i = true := ⟨0, [], fun j hj => match j, hj with
    | 0, _ => hb_t21_0
    | j + 1, hj => absurd hj (by simp only [List.length_nil]; omega)⟩
theorem hb_cu22 : ∃ (k : Nat) (ss : List Nat), ∀ i, i ≤ ss.length → sy_ckT hb_cl hb_lt hb_P (hb_P ++ [hb_m302]) hb_GM (px_Hq hb_B) (px_g2 hb_AB) hb_A hb_LW hb_Cs 40 hb_zs 302 hb_cuts 636 (hb_cs 985 hb_RA hb_FA) k ss i = true := ⟨0, [], fun j hj => match j, hj with
    | 0, _ => hb_t22_0
    | j + 1, hj => absurd hj (by simp only [List.length_nil]; omega)⟩
theorem hb_cu23 : ∃ (k : Nat) (ss : List Nat), ∀ i, i ≤ ss.length → sy_ckT hb_cl hb_lt hb_P (hb_P ++ [hb_m302]) hb_GM (px_Hq hb_B) (px_g2 hb_AB) hb_A hb_LW hb_Cs 40 hb_zs 302 hb_cuts 636 (hb_cs 1008 hb_RA hb_FA) k ss i = true := ⟨0, [], fun j hj => match j, hj with
    | 0, _ => hb_t23_0
    | j + 1, hj => absurd hj (by simp only [List.length_nil]; omega)⟩
theorem hb_cu24 : ∃ (k : Nat) (ss : List Nat), ∀ i, i ≤ ss.length → sy_ckT hb_cl hb_lt hb_P (hb_P ++ [hb_m302]) hb_GM (px_Hq hb_B) (px_g2 hb_AB) hb_A hb_LW hb_Cs 40 hb_zs 302 hb_cuts 636 (hb_cs 1031 hb_RA hb_FA) k ss i = true := ⟨0, [], fun j hj => match j, hj with
    | 0, _ => hb_t24_0
    | j + 1, hj => absurd hj (by simp only [List.length_nil]; omega)⟩
theorem hb_cu25 : ∃ (k : Nat) (ss : List Nat), ∀ i, i ≤ ss.length → sy_ckT hb_cl hb_lt hb_P (hb_P ++ [hb_m302]) hb_GM (px_Hq hb_B) (px_g2 hb_AB) hb_A hb_LW hb_Cs 40 hb_zs 302 hb_cuts 636 (hb_cs 1054 hb_RA hb_FA) k ss i = true := ⟨0, [], fun j hj => match j, hj with
    | 0, _ => hb_t25_0
    | j + 1, hj => absurd hj (by simp only [List.length_nil]; omega)⟩
theorem hb_cu26 : ∃ (k : Nat) (ss : List Nat), ∀ i, i ≤ ss.length → sy_ckT hb_cl hb_lt hb_P (hb_P ++ [hb_m302]) hb_GM (px_Hq hb_B) (px_g2 hb_AB) hb_A hb_LW hb_Cs 40 hb_zs 302 hb_cuts 636 (hb_cs 1077 hb_RA hb_FA) k ss i = true := ⟨0, [], fun j hj => match j, hj with
    | 0, _ => hb_t26_0
    | j + 1, hj => absurd hj (by simp only [List.length_nil]; omega)⟩
theorem hb_cu27 : ∃ (k : Nat) (ss : List Nat), ∀ i, i ≤ ss.length → sy_ckT hb_cl hb_lt hb_P (hb_P ++ [hb_m302]) hb_GM (px_Hq hb_B) (px_g2 hb_AB) hb_A hb_LW hb_Cs 40 hb_zs 302 hb_cuts 636 (hb_cs 1120 hb_RA hb_FA) k ss i = true := ⟨0, [], fun j hj => match j, hj with
    | 0, _ => hb_t27_0
    | j + 1, hj => absurd hj (by simp only [List.length_nil]; omega)⟩
theorem hb_cu28 : ∃ (k : Nat) (ss : List Nat), ∀ i, i ≤ ss.length → sy_ckT hb_cl hb_lt hb_P (hb_P ++ [hb_m302]) hb_GM (px_Hq hb_B) (px_g2 hb_AB) hb_A hb_LW hb_Cs 40 hb_zs 302 hb_cuts 636 (hb_cs 1143 hb_RA hb_FA) k ss i = true := ⟨0, [], fun j hj => match j, hj with
    | 0, _ => hb_t28_0
    | j + 1, hj => absurd hj (by simp only [List.length_nil]; omega)⟩
theorem hb_cu29 : ∃ (k : Nat) (ss : List Nat), ∀ i, i ≤ ss.length → sy_ckT hb_cl hb_lt hb_P (hb_P ++ [hb_m302]) hb_GM (px_Hq hb_B) (px_g2 hb_AB) hb_A hb_LW hb_Cs 40 hb_zs 302 hb_cuts 636 (hb_cs 1166 hb_RA hb_FA) k ss i = true := ⟨0, [], fun j hj => match j, hj with
    | 0, _ => hb_t29_0
    | j + 1, hj => absurd hj (by simp only [List.length_nil]; omega)⟩
theorem hb_cu30 : ∃ (k : Nat) (ss : List Nat), ∀ i, i ≤ ss.length → sy_ckT hb_cl hb_lt hb_P (hb_P ++ [hb_m302]) hb_GM (px_Hq hb_B) (px_g2 hb_AB) hb_A hb_LW hb_Cs 40 hb_zs 302 hb_cuts 636 (hb_cs 1199 hb_RA hb_FA) k ss i = true := ⟨0, [], fun j hj => match j, hj with
    | 0, _ => hb_t30_0
    | j + 1, hj => absurd hj (by simp only [List.length_nil]; omega)⟩
theorem hb_cu31 : ∃ (k : Nat) (ss : List Nat), ∀ i, i ≤ ss.length → sy_ckT hb_cl hb_lt hb_P (hb_P ++ [hb_m302]) hb_GM (px_Hq hb_B) (px_g2 hb_AB) hb_A hb_LW hb_Cs 40 hb_zs 302 hb_cuts 636 (hb_cs 1222 hb_RA hb_FA) k ss i = true := ⟨0, [], fun j hj => match j, hj with
    | 0, _ => hb_t31_0
    | j + 1, hj => absurd hj (by simp only [List.length_nil]; omega)⟩
theorem hb_cu32 : ∃ (k : Nat) (ss : List Nat), ∀ i, i ≤ ss.length → sy_ckT hb_cl hb_lt hb_P (hb_P ++ [hb_m302]) hb_GM (px_Hq hb_B) (px_g2 hb_AB) hb_A hb_LW hb_Cs 40 hb_zs 302 hb_cuts 636 (hb_cs 1245 hb_RA hb_FA) k ss i = true := ⟨0, [], fun j hj => match j, hj with
    | 0, _ => hb_t32_0
    | j + 1, hj => absurd hj (by simp only [List.length_nil]; omega)⟩
theorem hb_cu33 : ∃ (k : Nat) (ss : List Nat), ∀ i, i ≤ ss.length → sy_ckT hb_cl hb_lt hb_P (hb_P ++ [hb_m302]) hb_GM (px_Hq hb_B) (px_g2 hb_AB) hb_A hb_LW hb_Cs 40 hb_zs 302 hb_cuts 636 (hb_cs 1268 hb_RA hb_FA) k ss i = true := ⟨0, [], fun j hj => match j, hj with
    | 0, _ => hb_t33_0
    | j + 1, hj => absurd hj (by simp only [List.length_nil]; omega)⟩
theorem hb_cu34 : ∃ (k : Nat) (ss : List Nat), ∀ i, i ≤ ss.length → sy_ckT hb_cl hb_lt hb_P (hb_P ++ [hb_m302]) hb_GM (px_Hq hb_B) (px_g2 hb_AB) hb_A hb_LW hb_Cs 40 hb_zs 302 hb_cuts 636 (hb_cs 1291 hb_RA hb_FA) k ss i = true := ⟨0, [], fun j hj => match j, hj with
    | 0, _ => hb_t34_0
    | j + 1, hj => absurd hj (by simp only [List.length_nil]; omega)⟩
theorem hb_cu35 : ∃ (k : Nat) (ss : List Nat), ∀ i, i ≤ ss.length → sy_ckT hb_cl hb_lt hb_P (hb_P ++ [hb_m302]) hb_GM (px_Hq hb_B) (px_g2 hb_AB) hb_A hb_LW hb_Cs 40 hb_zs 302 hb_cuts 636 (hb_cs 1354 hb_RA hb_FA) k ss i = true := ⟨0, [], fun j hj => match j, hj with
    | 0, _ => hb_t35_0
    | j + 1, hj => absurd hj (by simp only [List.length_nil]; omega)⟩
theorem hb_cu36 : ∃ (k : Nat) (ss : List Nat), ∀ i, i ≤ ss.length → sy_ckT hb_cl hb_lt hb_P (hb_P ++ [hb_m302]) hb_GM (px_Hq hb_B) (px_g2 hb_AB) hb_A hb_LW hb_Cs 40 hb_zs 302 hb_cuts 636 (hb_cs 1367 hb_RA hb_FA) k ss i = true := ⟨0, [], fun j hj => match j, hj with
    | 0, _ => hb_t36_0
    | j + 1, hj => absurd hj (by simp only [List.length_nil]; omega)⟩
theorem hb_cu37 : ∃ (k : Nat) (ss : List Nat), ∀ i, i ≤ ss.length → sy_ckT hb_cl hb_lt hb_P (hb_P ++ [hb_m302]) hb_GM (px_Hq hb_B) (px_g2 hb_AB) hb_A hb_LW hb_Cs 40 hb_zs 302 hb_cuts 636 (hb_cs 1400 hb_RA hb_FA) k ss i = true := ⟨0, [], fun j hj => match j, hj with
    | 0, _ => hb_t37_0
    | j + 1, hj => absurd hj (by simp only [List.length_nil]; omega)⟩
theorem hb_cu38 : ∃ (k : Nat) (ss : List Nat), ∀ i, i ≤ ss.length → sy_ckT hb_cl hb_lt hb_P (hb_P ++ [hb_m302]) hb_GM (px_Hq hb_B) (px_g2 hb_AB) hb_A hb_LW hb_Cs 40 hb_zs 302 hb_cuts 636 (hb_cs 1423 hb_RA hb_FA) k ss i = true := ⟨0, [], fun j hj => match j, hj with
    | 0, _ => hb_t38_0
    | j + 1, hj => absurd hj (by simp only [List.length_nil]; omega)⟩
theorem hb_cu39 : ∃ (k : Nat) (ss : List Nat), ∀ i, i ≤ ss.length → sy_ckT hb_cl hb_lt hb_P (hb_P ++ [hb_m302]) hb_GM (px_Hq hb_B) (px_g2 hb_AB) hb_A hb_LW hb_Cs 40 hb_zs 302 hb_cuts 636 (hb_cs 1456 hb_RA hb_FA) k ss i = true := ⟨0, [], fun j hj => match j, hj with
    | 0, _ => hb_t39_0
    | j + 1, hj => absurd hj (by simp only [List.length_nil]; omega)⟩
theorem hb_cu40 : ∃ (k : Nat) (ss : List Nat), ∀ i, i ≤ ss.length → sy_ckT hb_cl hb_lt hb_P (hb_P ++ [hb_m302]) hb_GM (px_Hq hb_B) (px_g2 hb_AB) hb_A hb_LW hb_Cs 40 hb_zs 302 hb_cuts 636 (hb_cs 1489 hb_RA hb_FA) k ss i = true := ⟨0, [], fun j hj => match j, hj with
    | 0, _ => hb_t40_0
    | j + 1, hj => absurd hj (by simp only [List.length_nil]; omega)⟩
theorem hb_cu41 : ∃ (k : Nat) (ss : List Nat), ∀ i, i ≤ ss.length → sy_ckT hb_cl hb_lt hb_P (hb_P ++ [hb_m302]) hb_GM (px_Hq hb_B) (px_g2 hb_AB) hb_A hb_LW hb_Cs 40 hb_zs 302 hb_cuts 636 (hb_cs 1522 hb_RA hb_FA) k ss i = true := ⟨0, [], fun j hj => match j, hj with
    | 0, _ => hb_t41_0
    | j + 1, hj => absurd hj (by simp only [List.length_nil]; omega)⟩
theorem hb_cu42 : ∃ (k : Nat) (ss : List Nat), ∀ i, i ≤ ss.length → sy_ckT hb_cl hb_lt hb_P (hb_P ++ [hb_m302]) hb_GM (px_Hq hb_B) (px_g2 hb_AB) hb_A hb_LW hb_Cs 40 hb_zs 302 hb_cuts 636 (hb_cs 1555 hb_RA hb_FA) k ss i = true := ⟨0, [], fun j hj => match j, hj with
    | 0, _ => hb_t42_0
    | j + 1, hj => absurd hj (by simp only [List.length_nil]; omega)⟩
theorem hb_cu43 : ∃ (k : Nat) (ss : List Nat), ∀ i, i ≤ ss.length → sy_ckT hb_cl hb_lt hb_P (hb_P ++ [hb_m302]) hb_GM (px_Hq hb_B) (px_g2 hb_AB) hb_A hb_LW hb_Cs 40 hb_zs 302 hb_cuts 636 (hb_cs 1598 hb_RA hb_FA) k ss i = true := ⟨0, [], fun j hj => match j, hj with
    | 0, _ => hb_t43_0
    | j + 1, hj => absurd hj (by simp only [List.length_nil]; omega)⟩
theorem hb_cu44 : ∃ (k : Nat) (ss : List Nat), ∀ i, i ≤ ss.length → sy_ckT hb_cl hb_lt hb_P (hb_P ++ [hb_m302]) hb_GM (px_Hq hb_B) (px_g2 hb_AB) hb_A hb_LW hb_Cs 40 hb_zs 302 hb_cuts 636 (hb_cs 1641 hb_RA hb_FA) k ss i = true := ⟨0, [], fun j hj => match j, hj with
    | 0, _ => hb_t44_0
    | j + 1, hj => absurd hj (by simp only [List.length_nil]; omega)⟩
theorem hb_cu45 : ∃ (k : Nat) (ss : List Nat), ∀ i, i ≤ ss.length → sy_ckT hb_cl hb_lt hb_P (hb_P ++ [hb_m302]) hb_GM (px_Hq hb_B) (px_g2 hb_AB) hb_A hb_LW hb_Cs 40 hb_zs 302 hb_cuts 636 (hb_cs 1684 hb_RA hb_FA) k ss i = true := ⟨0, [], fun j hj => match j, hj with
    | 0, _ => hb_t45_0
    | j + 1, hj => absurd hj (by simp only [List.length_nil]; omega)⟩
theorem hb_cu46 : ∃ (k : Nat) (ss : List Nat), ∀ i, i ≤ ss.length → sy_ckT hb_cl hb_lt hb_P (hb_P ++ [hb_m302]) hb_GM (px_Hq hb_B) (px_g2 hb_AB) hb_A hb_LW hb_Cs 40 hb_zs 302 hb_cuts 636 (hb_cs 1747 hb_RA hb_FA) k ss i = true := ⟨0, [], fun j hj => match j, hj with
    | 0, _ => hb_t46_0
    | j + 1, hj => absurd hj (by simp only [List.length_nil]; omega)⟩
theorem hb_cu47 : ∃ (k : Nat) (ss : List Nat), ∀ i, i ≤ ss.length → sy_ckT hb_cl hb_lt hb_P (hb_P ++ [hb_m302]) hb_GM (px_Hq hb_B) (px_g2 hb_AB) hb_A hb_LW hb_Cs 40 hb_zs 302 hb_cuts 636 (hb_cs 1790 hb_RA hb_FA) k ss i = true := ⟨0, [], fun j hj => match j, hj with
    | 0, _ => hb_t47_0
    | j + 1, hj => absurd hj (by simp only [List.length_nil]; omega)⟩
theorem hb_cu48 : ∃ (k : Nat) (ss : List Nat), ∀ i, i ≤ ss.length → sy_ckT hb_cl hb_lt hb_P (hb_P ++ [hb_m302]) hb_GM (px_Hq hb_B) (px_g2 hb_AB) hb_A hb_LW hb_Cs 40 hb_zs 302 hb_cuts 636 (hb_cs 1823 hb_RA hb_FA) k ss i = true := ⟨0, [], fun j hj => match j, hj with
    | 0, _ => hb_t48_0
    | j + 1, hj => absurd hj (by simp only [List.length_nil]; omega)⟩
theorem hb_cu49 : ∃ (k : Nat) (ss : List Nat), ∀ i, i ≤ ss.length → sy_ckT hb_cl hb_lt hb_P (hb_P ++ [hb_m302]) hb_GM (px_Hq hb_B) (px_g2 hb_AB) hb_A hb_LW hb_Cs 40 hb_zs 302 hb_cuts 636 (hb_cs 1866 hb_RA hb_FA) k ss i = true := ⟨0, [], fun j hj => match j, hj with
    | 0, _ => hb_t49_0
    | j + 1, hj => absurd hj (by simp only [List.length_nil]; omega)⟩
theorem hb_cu50 : ∃ (k : Nat) (ss : List Nat), ∀ i, i ≤ ss.length → sy_ckT hb_cl hb_lt hb_P (hb_P ++ [hb_m302]) hb_GM (px_Hq hb_B) (px_g2 hb_AB) hb_A hb_LW hb_Cs 40 hb_zs 302 hb_cuts 636 (hb_cs 1889 hb_RA hb_FA) k ss i = true := ⟨0, [], fun j hj => match j, hj with
    | 0, _ => hb_t50_0
    | j + 1, hj => absurd hj (by simp only [List.length_nil]; omega)⟩
theorem hb_cu51 : ∃ (k : Nat) (ss : List Nat), ∀ i, i ≤ ss.length → sy_ckT hb_cl hb_lt hb_P (hb_P ++ [hb_m302]) hb_GM (px_Hq hb_B) (px_g2 hb_AB) hb_A hb_LW hb_Cs 40 hb_zs 302 hb_cuts 636 (hb_cs 1912 hb_RA hb_FA) k ss i = true := ⟨0, [], fun j hj => match j, hj with
    | 0, _ => hb_t51_0
    | j + 1, hj => absurd hj (by simp only [List.length_nil]; omega)⟩
theorem hb_cu52 : ∃ (k : Nat) (ss : List Nat), ∀ i, i ≤ ss.length → sy_ckT hb_cl hb_lt hb_P (hb_P ++ [hb_m302]) hb_GM (px_Hq hb_B) (px_g2 hb_AB) hb_A hb_LW hb_Cs 40 hb_zs 302 hb_cuts 636 (hb_cs 1925 hb_RA hb_FA) k ss i = true := ⟨0, [], fun j hj => match j, hj with
    | 0, _ => hb_t52_0
    | j + 1, hj => absurd hj (by simp only [List.length_nil]; omega)⟩
theorem hb_tall : ∀ c ∈ hb_cuts, ∃ (k : Nat) (ss : List Nat), ∀ i, i ≤ ss.length → sy_ckT hb_cl hb_lt hb_P (hb_P ++ [hb_m302]) hb_GM (px_Hq hb_B) (px_g2 hb_AB) hb_A hb_LW hb_Cs 40 hb_zs 302 hb_cuts 636 c k ss i = true := List.forall_mem_cons.mpr ⟨hb_cu0, List.forall_mem_cons.mpr ⟨hb_cu1, List.forall_mem_cons.mpr ⟨hb_cu2, List.forall_mem_cons.mpr ⟨hb_cu3, List.forall_mem_cons.mpr ⟨hb_cu4, List.forall_mem_cons.mpr ⟨hb_cu5, List.forall_mem_cons.mpr ⟨hb_cu6, List.forall_mem_cons.mpr ⟨hb_cu7, List.forall_mem_cons.mpr ⟨hb_cu8, List.forall_mem_cons.mpr ⟨hb_cu9, List.forall_mem_cons.mpr ⟨hb_cu10, List.forall_mem_cons.mpr ⟨hb_cu11, List.forall_mem_cons.mpr ⟨hb_cu12, List.forall_mem_cons.mpr ⟨hb_cu13, List.forall_mem_cons.mpr ⟨hb_cu14, List.forall_mem_cons.mpr ⟨hb_cu15, List.forall_mem_cons.mpr ⟨hb_cu16, List.forall_mem_cons.mpr ⟨hb_cu17, List.forall_mem_cons.mpr ⟨hb_cu18, List.forall_mem_cons.mpr ⟨hb_cu19, List.forall_mem_cons.mpr ⟨hb_cu20, List.forall_mem_cons.mpr ⟨hb_cu21, List.forall_mem_cons.mpr ⟨hb_cu22, List.forall_mem_cons.mpr ⟨hb_cu23, List.forall_mem_cons.mpr ⟨hb_cu24, List.forall_mem_cons.mpr ⟨hb_cu25, List.forall_mem_cons.mpr ⟨hb_cu26, List.forall_mem_cons.mpr ⟨hb_cu27, List.forall_mem_cons.mpr ⟨hb_cu28, List.forall_mem_cons.mpr ⟨hb_cu29, List.forall_mem_cons.mpr ⟨hb_cu30, List.forall_mem_cons.mpr ⟨hb_cu31, List.forall_mem_cons.mpr ⟨hb_cu32, List.forall_mem_cons.mpr ⟨hb_cu33, List.forall_mem_cons.mpr ⟨hb_cu34, List.forall_mem_cons.mpr ⟨hb_cu35, List.forall_mem_cons.mpr ⟨hb_cu36, List.forall_mem_cons.mpr ⟨hb_cu37, List.forall_mem_cons.mpr ⟨hb_cu38, List.forall_mem_cons.mpr ⟨hb_cu39, List.forall_mem_cons.mpr ⟨hb_cu40, List.forall_mem_cons.mpr ⟨hb_cu41, List.forall_mem_cons.mpr ⟨hb_cu42, List.forall_mem_cons.mpr ⟨hb_cu43, List.forall_mem_cons.mpr ⟨hb_cu44, List.forall_mem_cons.mpr ⟨hb_cu45, List.forall_mem_cons.mpr ⟨hb_cu46, List.forall_mem_cons.mpr ⟨hb_cu47, List.forall_mem_cons.mpr ⟨hb_cu48, List.forall_mem_cons.mpr ⟨hb_cu49, List.forall_mem_cons.mpr ⟨hb_cu50, List.forall_mem_cons.mpr ⟨hb_cu51, List.forall_mem_cons.mpr ⟨hb_cu52, fun _ h => absurd h List.not_mem_nil⟩⟩⟩⟩⟩⟩⟩⟩⟩⟩⟩⟩⟩⟩⟩⟩⟩⟩⟩⟩⟩⟩⟩⟩⟩⟩⟩⟩⟩⟩⟩⟩⟩⟩⟩⟩⟩⟩⟩⟩⟩⟩⟩⟩⟩⟩⟩⟩⟩⟩⟩⟩⟩

end

noncomputable section
/-! THE LAW OF THIS CLAIM -/
theorem hb_cu0 : ∃ (k : Nat) (ss : List Nat), ∀ i, i ≤ ss.length → sy_ckT hb_cl hb_lt hb_P (hb_P ++ [hb_m302]) hb_GM (px_Hq hb_B) (px_g2 hb_AB) hb_A hb_LW hb_Cs 40 hb_zs 302 hb_cuts 6530 (hb_hd hb_RA hb_FA) k ss i = true := ⟨0, [], fun j hj => match j, hj with
    | 0, _ => hb_t0_0
    | j + 1, hj => absurd hj (by simp only [List.length_cons, List.length_nil]; omega)⟩
theorem hb_cu1 : ∃ (k : Nat) (ss : List Nat), ∀ i, i ≤ ss.length → sy_ckT hb_cl hb_lt hb_P (hb_P ++ [hb_m302]) hb_GM (px_Hq hb_B) (px_g2 hb_AB) hb_A hb_LW hb_Cs 40 hb_zs 302 hb_cuts 6530 (hb_hd hb_RB hb_FB) k ss i = true := ⟨0, [], fun j hj => match j, hj with
    | 0, _ => hb_t1_0
    | j + 1, hj => absurd hj (by simp only [List.length_cons, List.length_nil]; omega)⟩
theorem hb_cu2 : ∃ (k : Nat) (ss : List Nat), ∀ i, i ≤ ss.length → sy_ckT hb_cl hb_lt hb_P (hb_P ++ [hb_m302]) hb_GM (px_Hq hb_B) (px_g2 hb_AB) hb_A hb_LW hb_Cs 40 hb_zs 302 hb_cuts 6530 (hb_cs 256 hb_RA hb_FA) k ss i = true := ⟨0, [], fun j hj => match j, hj with
    | 0, _ => hb_t2_0
    | j + 1, hj => absurd hj (by simp only [List.length_cons, List.length_nil]; omega)⟩
theorem hb_cu3 : ∃ (k : Nat) (ss : List Nat), ∀ i, i ≤ ss.length → sy_ckT hb_cl hb_lt hb_P (hb_P ++ [hb_m302]) hb_GM (px_Hq hb_B) (px_g2 hb_AB) hb_A hb_LW hb_Cs 40 hb_zs 302 hb_cuts 6530 (hb_cs 256 hb_RB hb_FB) k ss i = true := ⟨0, [], fun j hj => match j, hj with
    | 0, _ => hb_t3_0
    | j + 1, hj => absurd hj (by simp only [List.length_cons, List.length_nil]; omega)⟩
theorem hb_cu4 : ∃ (k : Nat) (ss : List Nat), ∀ i, i ≤ ss.length → sy_ckT hb_cl hb_lt hb_P (hb_P ++ [hb_m302]) hb_GM (px_Hq hb_B) (px_g2 hb_AB) hb_A hb_LW hb_Cs 40 hb_zs 302 hb_cuts 6530 (hb_cs 279 hb_RA hb_FA) k ss i = true := ⟨0, [], fun j hj => match j, hj with
    | 0, _ => hb_t4_0
    | j + 1, hj => absurd hj (by simp only [List.length_cons, List.length_nil]; omega)⟩
theorem hb_cu5 : ∃ (k : Nat) (ss : List Nat), ∀ i, i ≤ ss.length → sy_ckT hb_cl hb_lt hb_P (hb_P ++ [hb_m302]) hb_GM (px_Hq hb_B) (px_g2 hb_AB) hb_A hb_LW hb_Cs 40 hb_zs 302 hb_cuts 6530 (hb_cs 279 hb_RB hb_FB) k ss i = true := ⟨0, [], fun j hj => match j, hj with
    | 0, _ => hb_t5_0
    | j + 1, hj => absurd hj (by simp only [List.length_cons, List.length_nil]; omega)⟩
theorem hb_cu6 : ∃ (k : Nat) (ss : List Nat), ∀ i, i ≤ ss.length → sy_ckT hb_cl hb_lt hb_P (hb_P ++ [hb_m302]) hb_GM (px_Hq hb_B) (px_g2 hb_AB) hb_A hb_LW hb_Cs 40 hb_zs 302 hb_cuts 6530 (hb_cs 322 hb_RA hb_FA) k ss i = true := ⟨0, [], fun j hj => match j, hj with
    | 0, _ => hb_t6_0
    | j + 1, hj => absurd hj (by simp only [List.length_cons, List.length_nil]; omega)⟩
theorem hb_cu7 : ∃ (k : Nat) (ss : List Nat), ∀ i, i ≤ ss.length → sy_ckT hb_cl hb_lt hb_P (hb_P ++ [hb_m302]) hb_GM (px_Hq hb_B) (px_g2 hb_AB) hb_A hb_LW hb_Cs 40 hb_zs 302 hb_cuts 6530 (hb_cs 322 hb_RB hb_FB) k ss i = true := ⟨0, [], fun j hj => match j, hj with
    | 0, _ => hb_t7_0
    | j + 1, hj => absurd hj (by simp only [List.length_cons, List.length_nil]; omega)⟩
theorem hb_cu8 : ∃ (k : Nat) (ss : List Nat), ∀ i, i ≤ ss.length → sy_ckT hb_cl hb_lt hb_P (hb_P ++ [hb_m302]) hb_GM (px_Hq hb_B) (px_g2 hb_AB) hb_A hb_LW hb_Cs 40 hb_zs 302 hb_cuts 6530 (hb_cs 355 hb_RA hb_FA) k ss i = true := ⟨0, [], fun j hj => match j, hj with
    | 0, _ => hb_t8_0
    | j + 1, hj => absurd hj (by simp only [List.length_cons, List.length_nil]; omega)⟩
theorem hb_cu9 : ∃ (k : Nat) (ss : List Nat), ∀ i, i ≤ ss.length → sy_ckT hb_cl hb_lt hb_P (hb_P ++ [hb_m302]) hb_GM (px_Hq hb_B) (px_g2 hb_AB) hb_A hb_LW hb_Cs 40 hb_zs 302 hb_cuts 6530 (hb_cs 355 hb_RB hb_FB) k ss i = true := ⟨0, [], fun j hj => match j, hj with
    | 0, _ => hb_t9_0
    | j + 1, hj => absurd hj (by simp only [List.length_cons, List.length_nil]; omega)⟩
theorem hb_cu10 : ∃ (k : Nat) (ss : List Nat), ∀ i, i ≤ ss.length → sy_ckT hb_cl hb_lt hb_P (hb_P ++ [hb_m302]) hb_GM (px_Hq hb_B) (px_g2 hb_AB) hb_A hb_LW hb_Cs 40 hb_zs 302 hb_cuts 6530 (hb_cs 404 hb_RA hb_FA) k ss i = true := ⟨0, [], fun j hj => match j, hj with
    | 0, _ => hb_t10_0
    | j + 1, hj => absurd hj (by simp only [List.length_cons, List.length_nil]; omega)⟩
theorem hb_cu11 : ∃ (k : Nat) (ss : List Nat), ∀ i, i ≤ ss.length → sy_ckT hb_cl hb_lt hb_P (hb_P ++ [hb_m302]) hb_GM (px_Hq hb_B) (px_g2 hb_AB) hb_A hb_LW hb_Cs 40 hb_zs 302 hb_cuts 6530 (hb_cs 404 hb_RB hb_FB) k ss i = true := ⟨0, [], fun j hj => match j, hj with
    | 0, _ => hb_t11_0
    | j + 1, hj => absurd hj (by simp only [List.length_cons, List.length_nil]; omega)⟩
theorem hb_cu12 : ∃ (k : Nat) (ss : List Nat), ∀ i, i ≤ ss.length → sy_ckT hb_cl hb_lt hb_P (hb_P ++ [hb_m302]) hb_GM (px_Hq hb_B) (px_g2 hb_AB) hb_A hb_LW hb_Cs 40 hb_zs 302 hb_cuts 6530 (hb_cs 437 hb_RA hb_FA) k ss i = true := ⟨0, [], fun j hj => match j, hj with
    | 0, _ => hb_t12_0
    | j + 1, hj => absurd hj (by simp only [List.length_cons, List.length_nil]; omega)⟩
theorem hb_cu13 : ∃ (k : Nat) (ss : List Nat), ∀ i, i ≤ ss.length → sy_ckT hb_cl hb_lt hb_P (hb_P ++ [hb_m302]) hb_GM (px_Hq hb_B) (px_g2 hb_AB) hb_A hb_LW hb_Cs 40 hb_zs 302 hb_cuts 6530 (hb_cs 437 hb_RB hb_FB) k ss i = true := ⟨0, [], fun j hj => match j, hj with
    | 0, _ => hb_t13_0
    | j + 1, hj => absurd hj (by simp only [List.length_cons, List.length_nil]; omega)⟩
theorem hb_cu14 : ∃ (k : Nat) (ss : List Nat), ∀ i, i ≤ ss.length → sy_ckT hb_cl hb_lt hb_P (hb_P ++ [hb_m302]) hb_GM (px_Hq hb_B) (px_g2 hb_AB) hb_A hb_LW hb_Cs 40 hb_zs 302 hb_cuts 6530 (hb_cs 450 hb_RA hb_FA) k ss i = true := ⟨0, [], fun j hj => match j, hj with
    | 0, _ => hb_t14_0
    | j + 1, hj => absurd hj (by simp only [List.length_cons, List.length_nil]; omega)⟩
theorem hb_cu15 : ∃ (k : Nat) (ss : List Nat), ∀ i, i ≤ ss.length → sy_ckT hb_cl hb_lt hb_P (hb_P ++ [hb_m302]) hb_GM (px_Hq hb_B) (px_g2 hb_AB) hb_A hb_LW hb_Cs 40 hb_zs 302 hb_cuts 6530 (hb_cs 450 hb_RB hb_FB) k ss i = true := ⟨0, [], fun j hj => match j, hj with
    | 0, _ => hb_t15_0
    | j + 1, hj => absurd hj (by simp only [List.length_cons, List.length_nil]; omega)⟩
theorem hb_cu16 : ∃ (k : Nat) (ss : List Nat), ∀ i, i ≤ ss.length → sy_ckT hb_cl hb_lt hb_P (hb_P ++ [hb_m302]) hb_GM (px_Hq hb_B) (px_g2 hb_AB) hb_A hb_LW hb_Cs 40 hb_zs 302 hb_cuts 6530 (hb_cs 483 hb_RA hb_FA) k ss i = true := ⟨0, [], fun j hj => match j, hj with
    | 0, _ => hb_t16_0
    | j + 1, hj => absurd hj (by simp only [List.length_cons, List.length_nil]; omega)⟩
theorem hb_cu17 : ∃ (k : Nat) (ss : List Nat), ∀ i, i ≤ ss.length → sy_ckT hb_cl hb_lt hb_P (hb_P ++ [hb_m302]) hb_GM (px_Hq hb_B) (px_g2 hb_AB) hb_A hb_LW hb_Cs 40 hb_zs 302 hb_cuts 6530 (hb_cs 483 hb_RB hb_FB) k ss i = true := ⟨0, [], fun j hj => match j, hj with
    | 0, _ => hb_t17_0
    | j + 1, hj => absurd hj (by simp only [List.length_cons, List.length_nil]; omega)⟩
theorem hb_cu18 : ∃ (k : Nat) (ss : List Nat), ∀ i, i ≤ ss.length → sy_ckT hb_cl hb_lt hb_P (hb_P ++ [hb_m302]) hb_GM (px_Hq hb_B) (px_g2 hb_AB) hb_A hb_LW hb_Cs 40 hb_zs 302 hb_cuts 6530 (hb_cs 536 hb_RA hb_FA) k ss i = true := ⟨0, [], fun j hj => match j, hj with
    | 0, _ => hb_t18_0
    | j + 1, hj => absurd hj (by simp only [List.length_cons, List.length_nil]; omega)⟩
theorem hb_cu19 : ∃ (k : Nat) (ss : List Nat), ∀ i, i ≤ ss.length → sy_ckT hb_cl hb_lt hb_P (hb_P ++ [hb_m302]) hb_GM (px_Hq hb_B) (px_g2 hb_AB) hb_A hb_LW hb_Cs 40 hb_zs 302 hb_cuts 6530 (hb_cs 536 hb_RB hb_FB) k ss i = true := ⟨0, [], fun j hj => match j, hj with
    | 0, _ => hb_t19_0
    | j + 1, hj => absurd hj (by simp only [List.length_cons, List.length_nil]; omega)⟩
theorem hb_cu20 : ∃ (k : Nat) (ss : List Nat), ∀ i, i ≤ ss.length → sy_ckT hb_cl hb_lt hb_P (hb_P ++ [hb_m302]) hb_GM (px_Hq hb_B) (px_g2 hb_AB) hb_A hb_LW hb_Cs 40 hb_zs 302 hb_cuts 6530 (hb_cs 559 hb_RA hb_FA) k ss i = true := ⟨0, [], fun j hj => match j, hj with
    | 0, _ => hb_t20_0
    | j + 1, hj => absurd hj (by simp only [List.length_cons, List.length_nil]; omega)⟩
theorem hb_cu21 : ∃ (k : Nat) (ss : List Nat), ∀ i, i ≤ ss.length → sy_ckT hb_cl hb_lt hb_P (hb_P ++ [hb_m302]) hb_GM (px_Hq hb_B) (px_g2 hb_AB) hb_A hb_LW hb_Cs 40 hb_zs 302 hb_cuts 6530 (hb_cs 559 hb_RB hb_FB) k ss i = true := ⟨0, [], fun j hj => match j, hj with
    | 0, _ => hb_t21_0
    | j + 1, hj => absurd hj (by simp only [List.length_cons, List.length_nil]; omega)⟩
theorem hb_cu22 : ∃ (k : Nat) (ss : List Nat), ∀ i, i ≤ ss.length → sy_ckT hb_cl hb_lt hb_P (hb_P ++ [hb_m302]) hb_GM (px_Hq hb_B) (px_g2 hb_AB) hb_A hb_LW hb_Cs 40 hb_zs 302 hb_cuts 6530 (hb_cs 612 hb_RA hb_FA) k ss i = true := ⟨0, [], fun j hj => match j, hj with
    | 0, _ => hb_t22_0
    | j + 1, hj => absurd hj (by simp only [List.length_cons, List.length_nil]; omega)⟩
theorem hb_cu23 : ∃ (k : Nat) (ss : List Nat), ∀ i, i ≤ ss.length → sy_ckT hb_cl hb_lt hb_P (hb_P ++ [hb_m302]) hb_GM (px_Hq hb_B) (px_g2 hb_AB) hb_A hb_LW hb_Cs 40 hb_zs 302 hb_cuts 6530 (hb_cs 612 hb_RB hb_FB) k ss i = true := ⟨0, [], fun j hj => match j, hj with
    | 0, _ => hb_t23_0
    | j + 1, hj => absurd hj (by simp only [List.length_cons, List.length_nil]; omega)⟩
theorem hb_cu24 : ∃ (k : Nat) (ss : List Nat), ∀ i, i ≤ ss.length → sy_ckT hb_cl hb_lt hb_P (hb_P ++ [hb_m302]) hb_GM (px_Hq hb_B) (px_g2 hb_AB) hb_A hb_LW hb_Cs 40 hb_zs 302 hb_cuts 6530 (hb_cs 665 hb_RA hb_FA) k ss i = true := ⟨0, [], fun j hj => match j, hj with
    | 0, _ => hb_t24_0
    | j + 1, hj => absurd hj (by simp only [List.length_cons, List.length_nil]; omega)⟩
theorem hb_cu25 : ∃ (k : Nat) (ss : List Nat), ∀ i, i ≤ ss.length → sy_ckT hb_cl hb_lt hb_P (hb_P ++ [hb_m302]) hb_GM (px_Hq hb_B) (px_g2 hb_AB) hb_A hb_LW hb_Cs 40 hb_zs 302 hb_cuts 6530 (hb_cs 665 hb_RB hb_FB) k ss i = true := ⟨0, [], fun j hj => match j, hj with
    | 0, _ => hb_t25_0
    | j + 1, hj => absurd hj (by simp only [List.length_cons, List.length_nil]; omega)⟩
theorem hb_cu26 : ∃ (k : Nat) (ss : List Nat), ∀ i, i ≤ ss.length → sy_ckT hb_cl hb_lt hb_P (hb_P ++ [hb_m302]) hb_GM (px_Hq hb_B) (px_g2 hb_AB) hb_A hb_LW hb_Cs 40 hb_zs 302 hb_cuts 6530 (hb_cs 698 hb_RA hb_FA) k ss i = true := ⟨0, [], fun j hj => match j, hj with
    | 0, _ => hb_t26_0
    | j + 1, hj => absurd hj (by simp only [List.length_cons, List.length_nil]; omega)⟩
theorem hb_cu27 : ∃ (k : Nat) (ss : List Nat), ∀ i, i ≤ ss.length → sy_ckT hb_cl hb_lt hb_P (hb_P ++ [hb_m302]) hb_GM (px_Hq hb_B) (px_g2 hb_AB) hb_A hb_LW hb_Cs 40 hb_zs 302 hb_cuts 6530 (hb_cs 698 hb_RB hb_FB) k ss i = true := ⟨0, [], fun j hj => match j, hj with
    | 0, _ => hb_t27_0
    | j + 1, hj => absurd hj (by simp only [List.length_cons, List.length_nil]; omega)⟩
theorem hb_cu28 : ∃ (k : Nat) (ss : List Nat), ∀ i, i ≤ ss.length → sy_ckT hb_cl hb_lt hb_P (hb_P ++ [hb_m302]) hb_GM (px_Hq hb_B) (px_g2 hb_AB) hb_A hb_LW hb_Cs 40 hb_zs 302 hb_cuts 6530 (hb_cs 751 hb_RA hb_FA) k ss i = true := ⟨0, [], fun j hj => match j, hj with
    | 0, _ => hb_t28_0
    | j + 1, hj => absurd hj (by simp only [List.length_cons, List.length_nil]; omega)⟩
theorem hb_cu29 : ∃ (k : Nat) (ss : List Nat), ∀ i, i ≤ ss.length → sy_ckT hb_cl hb_lt hb_P (hb_P ++ [hb_m302]) hb_GM (px_Hq hb_B) (px_g2 hb_AB) hb_A hb_LW hb_Cs 40 hb_zs 302 hb_cuts 6530 (hb_cs 751 hb_RB hb_FB) k ss i = true := ⟨0, [], fun j hj => match j, hj with
    | 0, _ => hb_t29_0
    | j + 1, hj => absurd hj (by simp only [List.length_cons, List.length_nil]; omega)⟩
theorem hb_cu30 : ∃ (k : Nat) (ss : List Nat), ∀ i, i ≤ ss.length → sy_ckT hb_cl hb_lt hb_P (hb_P ++ [hb_m302]) hb_GM (px_Hq hb_B) (px_g2 hb_AB) hb_A hb_LW hb_Cs 40 hb_zs 302 hb_cuts 6530 (hb_cs 774 hb_RA hb_FA) k ss i = true := ⟨0, [], fun j hj => match j, hj with
    | 0, _ => hb_t30_0
    | j + 1, hj => absurd hj (by simp only [List.length_cons, List.length_nil]; omega)⟩
theorem hb_cu31 : ∃ (k : Nat) (ss : List Nat), ∀ i, i ≤ ss.length → sy_ckT hb_cl hb_lt hb_P (hb_P ++ [hb_m302]) hb_GM (px_Hq hb_B) (px_g2 hb_AB) hb_A hb_LW hb_Cs 40 hb_zs 302 hb_cuts 6530 (hb_cs 774 hb_RB hb_FB) k ss i = true := ⟨0, [], fun j hj => match j, hj with
    | 0, _ => hb_t31_0
    | j + 1, hj => absurd hj (by simp only [List.length_cons, List.length_nil]; omega)⟩
theorem hb_cu32 : ∃ (k : Nat) (ss : List Nat), ∀ i, i ≤ ss.length → sy_ckT hb_cl hb_lt hb_P (hb_P ++ [hb_m302]) hb_GM (px_Hq hb_B) (px_g2 hb_AB) hb_A hb_LW hb_Cs 40 hb_zs 302 hb_cuts 6530 (hb_cs 787 hb_RA hb_FA) k ss i = true := ⟨0, [], fun j hj => match j, hj with
    | 0, _ => hb_t32_0
    | j + 1, hj => absurd hj (by simp only [List.length_cons, List.length_nil]; omega)⟩
theorem hb_cu33 : ∃ (k : Nat) (ss : List Nat), ∀ i, i ≤ ss.length → sy_ckT hb_cl hb_lt hb_P (hb_P ++ [hb_m302]) hb_GM (px_Hq hb_B) (px_g2 hb_AB) hb_A hb_LW hb_Cs 40 hb_zs 302 hb_cuts 6530 (hb_cs 787 hb_RB hb_FB) k ss i = true := ⟨0, [], fun j hj => match j, hj with
    | 0, _ => hb_t33_0
    | j + 1, hj => absurd hj (by simp only [List.length_cons, List.length_nil]; omega)⟩
theorem hb_cu34 : ∃ (k : Nat) (ss : List Nat), ∀ i, i ≤ ss.length → sy_ckT hb_cl hb_lt hb_P (hb_P ++ [hb_m302]) hb_GM (px_Hq hb_B) (px_g2 hb_AB) hb_A hb_LW hb_Cs 40 hb_zs 302 hb_cuts 6530 (hb_cs 800 hb_RA hb_FA) k ss i = true := ⟨0, [], fun j hj => match j, hj with
    | 0, _ => hb_t34_0
    | j + 1, hj => absurd hj (by simp only [List.length_cons, List.length_nil]; omega)⟩
theorem hb_cu35 : ∃ (k : Nat) (ss : List Nat), ∀ i, i ≤ ss.length → sy_ckT hb_cl hb_lt hb_P (hb_P ++ [hb_m302]) hb_GM (px_Hq hb_B) (px_g2 hb_AB) hb_A hb_LW hb_Cs 40 hb_zs 302 hb_cuts 6530 (hb_cs 800 hb_RB hb_FB) k ss i = true := ⟨0, [], fun j hj => match j, hj with
    | 0, _ => hb_t35_0
    | j + 1, hj => absurd hj (by simp only [List.length_cons, List.length_nil]; omega)⟩
theorem hb_cu36 : ∃ (k : Nat) (ss : List Nat), ∀ i, i ≤ ss.length → sy_ckT hb_cl hb_lt hb_P (hb_P ++ [hb_m302]) hb_GM (px_Hq hb_B) (px_g2 hb_AB) hb_A hb_LW hb_Cs 40 hb_zs 302 hb_cuts 6530 (hb_cs 833 hb_RA hb_FA) k ss i = true := ⟨0, [], fun j hj => match j, hj with
    | 0, _ => hb_t36_0
    | j + 1, hj => absurd hj (by simp only [List.length_cons, List.length_nil]; omega)⟩
theorem hb_cu37 : ∃ (k : Nat) (ss : List Nat), ∀ i, i ≤ ss.length → sy_ckT hb_cl hb_lt hb_P (hb_P ++ [hb_m302]) hb_GM (px_Hq hb_B) (px_g2 hb_AB) hb_A hb_LW hb_Cs 40 hb_zs 302 hb_cuts 6530 (hb_cs 833 hb_RB hb_FB) k ss i = true := ⟨0, [], fun j hj => match j, hj with
    | 0, _ => hb_t37_0
    | j + 1, hj => absurd hj (by simp only [List.length_cons, List.length_nil]; omega)⟩
theorem hb_cu38 : ∃ (k : Nat) (ss : List Nat), ∀ i, i ≤ ss.length → sy_ckT hb_cl hb_lt hb_P (hb_P ++ [hb_m302]) hb_GM (px_Hq hb_B) (px_g2 hb_AB) hb_A hb_LW hb_Cs 40 hb_zs 302 hb_cuts 6530 (hb_cs 876 hb_RA hb_FA) k ss i = true := ⟨0, [], fun j hj => match j, hj with
    | 0, _ => hb_t38_0
    | j + 1, hj => absurd hj (by simp only [List.length_cons, List.length_nil]; omega)⟩
theorem hb_cu39 : ∃ (k : Nat) (ss : List Nat), ∀ i, i ≤ ss.length → sy_ckT hb_cl hb_lt hb_P (hb_P ++ [hb_m302]) hb_GM (px_Hq hb_B) (px_g2 hb_AB) hb_A hb_LW hb_Cs 40 hb_zs 302 hb_cuts 6530 (hb_cs 876 hb_RB hb_FB) k ss i = true := ⟨0, [], fun j hj => match j, hj with
    | 0, _ => hb_t39_0
    | j + 1, hj => absurd hj (by simp only [List.length_cons, List.length_nil]; omega)⟩
theorem hb_cu40 : ∃ (k : Nat) (ss : List Nat), ∀ i, i ≤ ss.length → sy_ckT hb_cl hb_lt hb_P (hb_P ++ [hb_m302]) hb_GM (px_Hq hb_B) (px_g2 hb_AB) hb_A hb_LW hb_Cs 40 hb_zs 302 hb_cuts 6530 (hb_cs 889 hb_RA hb_FA) k ss i = true := ⟨0, [], fun j hj => match j, hj with
    | 0, _ => hb_t40_0
    | j + 1, hj => absurd hj (by simp only [List.length_cons, List.length_nil]; omega)⟩
theorem hb_cu41 : ∃ (k : Nat) (ss : List Nat), ∀ i, i ≤ ss.length → sy_ckT hb_cl hb_lt hb_P (hb_P ++ [hb_m302]) hb_GM (px_Hq hb_B) (px_g2 hb_AB) hb_A hb_LW hb_Cs 40 hb_zs 302 hb_cuts 6530 (hb_cs 889 hb_RB hb_FB) k ss i = true := ⟨0, [], fun j hj => match j, hj with
    | 0, _ => hb_t41_0
    | j + 1, hj => absurd hj (by simp only [List.length_cons, List.length_nil]; omega)⟩
theorem hb_cu42 : ∃ (k : Nat) (ss : List Nat), ∀ i, i ≤ ss.length → sy_ckT hb_cl hb_lt hb_P (hb_P ++ [hb_m302]) hb_GM (px_Hq hb_B) (px_g2 hb_AB) hb_A hb_LW hb_Cs 40 hb_zs 302 hb_cuts 6530 (hb_cs 932 hb_RA hb_FA) k ss i = true := ⟨0, [], fun j hj => match j, hj with
    | 0, _ => hb_t42_0
    | j + 1, hj => absurd hj (by simp only [List.length_cons, List.length_nil]; omega)⟩
theorem hb_cu43 : ∃ (k : Nat) (ss : List Nat), ∀ i, i ≤ ss.length → sy_ckT hb_cl hb_lt hb_P (hb_P ++ [hb_m302]) hb_GM (px_Hq hb_B) (px_g2 hb_AB) hb_A hb_LW hb_Cs 40 hb_zs 302 hb_cuts 6530 (hb_cs 932 hb_RB hb_FB) k ss i = true := ⟨0, [], fun j hj => match j, hj with
    | 0, _ => hb_t43_0
    | j + 1, hj => absurd hj (by simp only [List.length_cons, List.length_nil]; omega)⟩
theorem hb_cu44 : ∃ (k : Nat) (ss : List Nat), ∀ i, i ≤ ss.length → sy_ckT hb_cl hb_lt hb_P (hb_P ++ [hb_m302]) hb_GM (px_Hq hb_B) (px_g2 hb_AB) hb_A hb_LW hb_Cs 40 hb_zs 302 hb_cuts 6530 (hb_cs 985 hb_RA hb_FA) k ss i = true := ⟨0, [], fun j hj => match j, hj with
    | 0, _ => hb_t44_0
    | j + 1, hj => absurd hj (by simp only [List.length_cons, List.length_nil]; omega)⟩
theorem hb_cu45 : ∃ (k : Nat) (ss : List Nat), ∀ i, i ≤ ss.length → sy_ckT hb_cl hb_lt hb_P (hb_P ++ [hb_m302]) hb_GM (px_Hq hb_B) (px_g2 hb_AB) hb_A hb_LW hb_Cs 40 hb_zs 302 hb_cuts 6530 (hb_cs 985 hb_RB hb_FB) k ss i = true := ⟨0, [], fun j hj => match j, hj with
    | 0, _ => hb_t45_0
    | j + 1, hj => absurd hj (by simp only [List.length_cons, List.length_nil]; omega)⟩
theorem hb_cu46 : ∃ (k : Nat) (ss : List Nat), ∀ i, i ≤ ss.length → sy_ckT hb_cl hb_lt hb_P (hb_P ++ [hb_m302]) hb_GM (px_Hq hb_B) (px_g2 hb_AB) hb_A hb_LW hb_Cs 40 hb_zs 302 hb_cuts 6530 (hb_cs 1008 hb_RA hb_FA) k ss i = true := ⟨0, [], fun j hj => match j, hj with
    | 0, _ => hb_t46_0
    | j + 1, hj => absurd hj (by simp only [List.length_cons, List.length_nil]; omega)⟩
theorem hb_cu47 : ∃ (k : Nat) (ss : List Nat), ∀ i, i ≤ ss.length → sy_ckT hb_cl hb_lt hb_P (hb_P ++ [hb_m302]) hb_GM (px_Hq hb_B) (px_g2 hb_AB) hb_A hb_LW hb_Cs 40 hb_zs 302 hb_cuts 6530 (hb_cs 1008 hb_RB hb_FB) k ss i = true := ⟨0, [], fun j hj => match j, hj with
    | 0, _ => hb_t47_0
    | j + 1, hj => absurd hj (by simp only [List.length_cons, List.length_nil]; omega)⟩
theorem hb_cu48 : ∃ (k : Nat) (ss : List Nat), ∀ i, i ≤ ss.length → sy_ckT hb_cl hb_lt hb_P (hb_P ++ [hb_m302]) hb_GM (px_Hq hb_B) (px_g2 hb_AB) hb_A hb_LW hb_Cs 40 hb_zs 302 hb_cuts 6530 (hb_cs 1031 hb_RA hb_FA) k ss i = true := ⟨0, [], fun j hj => match j, hj with
    | 0, _ => hb_t48_0
    | j + 1, hj => absurd hj (by simp only [List.length_cons, List.length_nil]; omega)⟩
theorem hb_cu49 : ∃ (k : Nat) (ss : List Nat), ∀ i, i ≤ ss.length → sy_ckT hb_cl hb_lt hb_P (hb_P ++ [hb_m302]) hb_GM (px_Hq hb_B) (px_g2 hb_AB) hb_A hb_LW hb_Cs 40 hb_zs 302 hb_cuts 6530 (hb_cs 1031 hb_RB hb_FB) k ss i = true := ⟨0, [], fun j hj => match j, hj with
    | 0, _ => hb_t49_0
    | j + 1, hj => absurd hj (by simp only [List.length_cons, List.length_nil]; omega)⟩
theorem hb_cu50 : ∃ (k : Nat) (ss : List Nat), ∀ i, i ≤ ss.length → sy_ckT hb_cl hb_lt hb_P (hb_P ++ [hb_m302]) hb_GM (px_Hq hb_B) (px_g2 hb_AB) hb_A hb_LW hb_Cs 40 hb_zs 302 hb_cuts 6530 (hb_cs 1054 hb_RA hb_FA) k ss i = true := ⟨0, [], fun j hj => match j, hj with
    | 0, _ => hb_t50_0
    | j + 1, hj => absurd hj (by simp only [List.length_cons, List.length_nil]; omega)⟩
theorem hb_cu51 : ∃ (k : Nat) (ss : List Nat), ∀ i, i ≤ ss.length → sy_ckT hb_cl hb_lt hb_P (hb_P ++ [hb_m302]) hb_GM (px_Hq hb_B) (px_g2 hb_AB) hb_A hb_LW hb_Cs 40 hb_zs 302 hb_cuts 6530 (hb_cs 1054 hb_RB hb_FB) k ss i = true := ⟨0, [], fun j hj => match j, hj with
    | 0, _ => hb_t51_0
    | j + 1, hj => absurd hj (by simp only [List.length_cons, List.length_nil]; omega)⟩
theorem hb_cu52 : ∃ (k : Nat) (ss : List Nat), ∀ i, i ≤ ss.length → sy_ckT hb_cl hb_lt hb_P (hb_P ++ [hb_m302]) hb_GM (px_Hq hb_B) (px_g2 hb_AB) hb_A hb_LW hb_Cs 40 hb_zs 302 hb_cuts 6530 (hb_cs 1077 hb_RA hb_FA) k ss i = true := ⟨0, [], fun j hj => match j, hj with
    | 0, _ => hb_t52_0
    | j + 1, hj => absurd hj (by simp only [List.length_cons, List.length_nil]; omega)⟩
theorem hb_cu53 : ∃ (k : Nat) (ss : List Nat), ∀ i, i ≤ ss.length → sy_ckT hb_cl hb_lt hb_P (hb_P ++ [hb_m302]) hb_GM (px_Hq hb_B) (px_g2 hb_AB) hb_A hb_LW hb_Cs 40 hb_zs 302 hb_cuts 6530 (hb_cs 1077 hb_RB hb_FB) k ss i = true := ⟨0, [], fun j hj => match j, hj with
    | 0, _ => hb_t53_0
    | j + 1, hj => absurd hj (by simp only [List.length_cons, List.length_nil]; omega)⟩
theorem hb_cu54 : ∃ (k : Nat) (ss : List Nat), ∀ i, i ≤ ss.length → sy_ckT hb_cl hb_lt hb_P (hb_P ++ [hb_m302]) hb_GM (px_Hq hb_B) (px_g2 hb_AB) hb_A hb_LW hb_Cs 40 hb_zs 302 hb_cuts 6530 (hb_cs 1120 hb_RA hb_FA) k ss i = true := ⟨0, [], fun j hj => match j, hj with
    | 0, _ => hb_t54_0
    | j + 1, hj => absurd hj (by simp only [List.length_cons, List.length_nil]; omega)⟩
theorem hb_cu55 : ∃ (k : Nat) (ss : List Nat), ∀ i, i ≤ ss.length → sy_ckT hb_cl hb_lt hb_P (hb_P ++ [hb_m302]) hb_GM (px_Hq hb_B) (px_g2 hb_AB) hb_A hb_LW hb_Cs 40 hb_zs 302 hb_cuts 6530 (hb_cs 1120 hb_RB hb_FB) k ss i = true := ⟨0, [], fun j hj => match j, hj with
    | 0, _ => hb_t55_0
    | j + 1, hj => absurd hj (by simp only [List.length_cons, List.length_nil]; omega)⟩
theorem hb_cu56 : ∃ (k : Nat) (ss : List Nat), ∀ i, i ≤ ss.length → sy_ckT hb_cl hb_lt hb_P (hb_P ++ [hb_m302]) hb_GM (px_Hq hb_B) (px_g2 hb_AB) hb_A hb_LW hb_Cs 40 hb_zs 302 hb_cuts 6530 (hb_cs 1143 hb_RA hb_FA) k ss i = true := ⟨0, [], fun j hj => match j, hj with
    | 0, _ => hb_t56_0
    | j + 1, hj => absurd hj (by simp only [List.length_cons, List.length_nil]; omega)⟩
theorem hb_cu57 : ∃ (k : Nat) (ss : List Nat), ∀ i, i ≤ ss.length → sy_ckT hb_cl hb_lt hb_P (hb_P ++ [hb_m302]) hb_GM (px_Hq hb_B) (px_g2 hb_AB) hb_A hb_LW hb_Cs 40 hb_zs 302 hb_cuts 6530 (hb_cs 1143 hb_RB hb_FB) k ss i = true := ⟨0, [], fun j hj => match j, hj with
    | 0, _ => hb_t57_0
    | j + 1, hj => absurd hj (by simp only [List.length_cons, List.length_nil]; omega)⟩
theorem hb_cu58 : ∃ (k : Nat) (ss : List Nat), ∀ i, i ≤ ss.length → sy_ckT hb_cl hb_lt hb_P (hb_P ++ [hb_m302]) hb_GM (px_Hq hb_B) (px_g2 hb_AB) hb_A hb_LW hb_Cs 40 hb_zs 302 hb_cuts 6530 (hb_cs 1166 hb_RA hb_FA) k ss i = true := ⟨0, [], fun j hj => match j, hj with
    | 0, _ => hb_t58_0
    | j + 1, hj => absurd hj (by simp only [List.length_cons, List.length_nil]; omega)⟩
theorem hb_cu59 : ∃ (k : Nat) (ss : List Nat), ∀ i, i ≤ ss.length → sy_ckT hb_cl hb_lt hb_P (hb_P ++ [hb_m302]) hb_GM (px_Hq hb_B) (px_g2 hb_AB) hb_A hb_LW hb_Cs 40 hb_zs 302 hb_cuts 6530 (hb_cs 1166 hb_RB hb_FB) k ss i = true := ⟨0, [], fun j hj => match j, hj with
    | 0, _ => hb_t59_0
    | j + 1, hj => absurd hj (by simp only [List.length_cons, List.length_nil]; omega)⟩
theorem hb_cu60 : ∃ (k : Nat) (ss : List Nat), ∀ i, i ≤ ss.length → sy_ckT hb_cl hb_lt hb_P (hb_P ++ [hb_m302]) hb_GM (px_Hq hb_B) (px_g2 hb_AB) hb_A hb_LW hb_Cs 40 hb_zs 302 hb_cuts 6530 (hb_cs 1199 hb_RA hb_FA) k ss i = true := ⟨0, [], fun j hj => match j, hj with
    | 0, _ => hb_t60_0
    | j + 1, hj => absurd hj (by simp only [List.length_cons, List.length_nil]; omega)⟩
theorem hb_cu61 : ∃ (k : Nat) (ss : List Nat), ∀ i, i ≤ ss.length → sy_ckT hb_cl hb_lt hb_P (hb_P ++ [hb_m302]) hb_GM (px_Hq hb_B) (px_g2 hb_AB) hb_A hb_LW hb_Cs 40 hb_zs 302 hb_cuts 6530 (hb_cs 1199 hb_RB hb_FB) k ss i = true := ⟨0, [], fun j hj => match j, hj with
    | 0, _ => hb_t61_0
    | j + 1, hj => absurd hj (by simp only [List.length_cons, List.length_nil]; omega)⟩
theorem hb_cu62 : ∃ (k : Nat) (ss : List Nat), ∀ i, i ≤ ss.length → sy_ckT hb_cl hb_lt hb_P (hb_P ++ [hb_m302]) hb_GM (px_Hq hb_B) (px_g2 hb_AB) hb_A hb_LW hb_Cs 40 hb_zs 302 hb_cuts 6530 (hb_cs 1222 hb_RA hb_FA) k ss i = true := ⟨0, [], fun j hj => match j, hj with
    | 0, _ => hb_t62_0
    | j + 1, hj => absurd hj (by simp only [List.length_cons, List.length_nil]; omega)⟩
theorem hb_cu63 : ∃ (k : Nat) (ss : List Nat), ∀ i, i ≤ ss.length → sy_ckT hb_cl hb_lt hb_P (hb_P ++ [hb_m302]) hb_GM (px_Hq hb_B) (px_g2 hb_AB) hb_A hb_LW hb_Cs 40 hb_zs 302 hb_cuts 6530 (hb_cs 1222 hb_RB hb_FB) k ss i = true := ⟨0, [], fun j hj => match j, hj with
    | 0, _ => hb_t63_0
    | j + 1, hj => absurd hj (by simp only [List.length_cons, List.length_nil]; omega)⟩
theorem hb_cu64 : ∃ (k : Nat) (ss : List Nat), ∀ i, i ≤ ss.length → sy_ckT hb_cl hb_lt hb_P (hb_P ++ [hb_m302]) hb_GM (px_Hq hb_B) (px_g2 hb_AB) hb_A hb_LW hb_Cs 40 hb_zs 302 hb_cuts 6530 (hb_cs 1245 hb_RA hb_FA) k ss i = true := ⟨0, [], fun j hj => match j, hj with
    | 0, _ => hb_t64_0
    | j + 1, hj => absurd hj (by simp only [List.length_cons, List.length_nil]; omega)⟩
theorem hb_cu65 : ∃ (k : Nat) (ss : List Nat), ∀ i, i ≤ ss.length → sy_ckT hb_cl hb_lt hb_P (hb_P ++ [hb_m302]) hb_GM (px_Hq hb_B) (px_g2 hb_AB) hb_A hb_LW hb_Cs 40 hb_zs 302 hb_cuts 6530 (hb_cs 1245 hb_RB hb_FB) k ss i = true := ⟨0, [], fun j hj => match j, hj with
    | 0, _ => hb_t65_0
    | j + 1, hj => absurd hj (by simp only [List.length_cons, List.length_nil]; omega)⟩
theorem hb_cu66 : ∃ (k : Nat) (ss : List Nat), ∀ i, i ≤ ss.length → sy_ckT hb_cl hb_lt hb_P (hb_P ++ [hb_m302]) hb_GM (px_Hq hb_B) (px_g2 hb_AB) hb_A hb_LW hb_Cs 40 hb_zs 302 hb_cuts 6530 (hb_cs 1268 hb_RA hb_FA) k ss i = true := ⟨0, [], fun j hj => match j, hj with
    | 0, _ => hb_t66_0
    | j + 1, hj => absurd hj (by simp only [List.length_cons, List.length_nil]; omega)⟩
theorem hb_cu67 : ∃ (k : Nat) (ss : List Nat), ∀ i, i ≤ ss.length → sy_ckT hb_cl hb_lt hb_P (hb_P ++ [hb_m302]) hb_GM (px_Hq hb_B) (px_g2 hb_AB) hb_A hb_LW hb_Cs 40 hb_zs 302 hb_cuts 6530 (hb_cs 1268 hb_RB hb_FB) k ss i = true := ⟨0, [], fun j hj => match j, hj with
    | 0, _ => hb_t67_0
    | j + 1, hj => absurd hj (by simp only [List.length_cons, List.length_nil]; omega)⟩
theorem hb_cu68 : ∃ (k : Nat) (ss : List Nat), ∀ i, i ≤ ss.length → sy_ckT hb_cl hb_lt hb_P (hb_P ++ [hb_m302]) hb_GM (px_Hq hb_B) (px_g2 hb_AB) hb_A hb_LW hb_Cs 40 hb_zs 302 hb_cuts 6530 (hb_cs 1291 hb_RA hb_FA) k ss i = true := ⟨0, [], fun j hj => match j, hj with
    | 0, _ => hb_t68_0
    | j + 1, hj => absurd hj (by simp only [List.length_cons, List.length_nil]; omega)⟩
theorem hb_cu69 : ∃ (k : Nat) (ss : List Nat), ∀ i, i ≤ ss.length → sy_ckT hb_cl hb_lt hb_P (hb_P ++ [hb_m302]) hb_GM (px_Hq hb_B) (px_g2 hb_AB) hb_A hb_LW hb_Cs 40 hb_zs 302 hb_cuts 6530 (hb_cs 1291 hb_RB hb_FB) k ss i = true := ⟨0, [], fun j hj => match j, hj with
    | 0, _ => hb_t69_0
    | j + 1, hj => absurd hj (by simp only [List.length_cons, List.length_nil]; omega)⟩
theorem hb_cu70 : ∃ (k : Nat) (ss : List Nat), ∀ i, i ≤ ss.length → sy_ckT hb_cl hb_lt hb_P (hb_P ++ [hb_m302]) hb_GM (px_Hq hb_B) (px_g2 hb_AB) hb_A hb_LW hb_Cs 40 hb_zs 302 hb_cuts 6530 (hb_cs 1354 hb_RA hb_FA) k ss i = true := ⟨0, [], fun j hj => match j, hj with
    | 0, _ => hb_t70_0
    | j + 1, hj => absurd hj (by simp only [List.length_cons, List.length_nil]; omega)⟩
theorem hb_cu71 : ∃ (k : Nat) (ss : List Nat), ∀ i, i ≤ ss.length → sy_ckT hb_cl hb_lt hb_P (hb_P ++ [hb_m302]) hb_GM (px_Hq hb_B) (px_g2 hb_AB) hb_A hb_LW hb_Cs 40 hb_zs 302 hb_cuts 6530 (hb_cs 1354 hb_RB hb_FB) k ss i = true := ⟨0, [], fun j hj => match j, hj with
    | 0, _ => hb_t71_0
    | j + 1, hj => absurd hj (by simp only [List.length_cons, List.length_nil]; omega)⟩
theorem hb_cu72 : ∃ (k : Nat) (ss : List Nat), ∀ i, i ≤ ss.length → sy_ckT hb_cl hb_lt hb_P (hb_P ++ [hb_m302]) hb_GM (px_Hq hb_B) (px_g2 hb_AB) hb_A hb_LW hb_Cs 40 hb_zs 302 hb_cuts 6530 (hb_cs 1367 hb_RA hb_FA) k ss i = true := ⟨0, [], fun j hj => match j, hj with
    | 0, _ => hb_t72_0
    | j + 1, hj => absurd hj (by simp only [List.length_cons, List.length_nil]; omega)⟩
theorem hb_cu73 : ∃ (k : Nat) (ss : List Nat), ∀ i, i ≤ ss.length → sy_ckT hb_cl hb_lt hb_P (hb_P ++ [hb_m302]) hb_GM (px_Hq hb_B) (px_g2 hb_AB) hb_A hb_LW hb_Cs 40 hb_zs 302 hb_cuts 6530 (hb_cs 1367 hb_RB hb_FB) k ss i = true := ⟨0, [], fun j hj => match j, hj with
    | 0, _ => hb_t73_0
    | j + 1, hj => absurd hj (by simp only [List.length_cons, List.length_nil]; omega)⟩
theorem hb_cu74 : ∃ (k : Nat) (ss : List Nat), ∀ i, i ≤ ss.length → sy_ckT hb_cl hb_lt hb_P (hb_P ++ [hb_m302]) hb_GM (px_Hq hb_B) (px_g2 hb_AB) hb_A hb_LW hb_Cs 40 hb_zs 302 hb_cuts 6530 (hb_cs 1400 hb_RA hb_FA) k ss i = true := ⟨0, [], fun j hj => match j, hj with
    | 0, _ => hb_t74_0
    | j + 1, hj => absurd hj (by simp only [List.length_cons, List.length_nil]; omega)⟩
theorem hb_cu75 : ∃ (k : Nat) (ss : List Nat), ∀ i, i ≤ ss.length → sy_ckT hb_cl hb_lt hb_P (hb_P ++ [hb_m302]) hb_GM (px_Hq hb_B) (px_g2 hb_AB) hb_A hb_LW hb_Cs 40 hb_zs 302 hb_cuts 6530 (hb_cs 1400 hb_RB hb_FB) k ss i = true := ⟨0, [], fun j hj => match j, hj with
    | 0, _ => hb_t75_0
    | j + 1, hj => absurd hj (by simp only [List.length_cons, List.length_nil]; omega)⟩
theorem hb_cu76 : ∃ (k : Nat) (ss : List Nat), ∀ i, i ≤ ss.length → sy_ckT hb_cl hb_lt hb_P (hb_P ++ [hb_m302]) hb_GM (px_Hq hb_B) (px_g2 hb_AB) hb_A hb_LW hb_Cs 40 hb_zs 302 hb_cuts 6530 (hb_cs 1423 hb_RA hb_FA) k ss i = true := ⟨0, [], fun j hj => match j, hj with
    | 0, _ => hb_t76_0
    | j + 1, hj => absurd hj (by simp only [List.length_cons, List.length_nil]; omega)⟩
theorem hb_cu77 : ∃ (k : Nat) (ss : List Nat), ∀ i, i ≤ ss.length → sy_ckT hb_cl hb_lt hb_P (hb_P ++ [hb_m302]) hb_GM (px_Hq hb_B) (px_g2 hb_AB) hb_A hb_LW hb_Cs 40 hb_zs 302 hb_cuts 6530 (hb_cs 1423 hb_RB hb_FB) k ss i = true := ⟨0, [], fun j hj => match j, hj with
    | 0, _ => hb_t77_0
    | j + 1, hj => absurd hj (by simp only [List.length_cons, List.length_nil]; omega)⟩
theorem hb_cu78 : ∃ (k : Nat) (ss : List Nat), ∀ i, i ≤ ss.length → sy_ckT hb_cl hb_lt hb_P (hb_P ++ [hb_m302]) hb_GM (px_Hq hb_B) (px_g2 hb_AB) hb_A hb_LW hb_Cs 40 hb_zs 302 hb_cuts 6530 (hb_cs 1456 hb_RA hb_FA) k ss i = true := ⟨0, [], fun j hj => match j, hj with
    | 0, _ => hb_t78_0
    | j + 1, hj => absurd hj (by simp only [List.length_cons, List.length_nil]; omega)⟩
theorem hb_cu79 : ∃ (k : Nat) (ss : List Nat), ∀ i, i ≤ ss.length → sy_ckT hb_cl hb_lt hb_P (hb_P ++ [hb_m302]) hb_GM (px_Hq hb_B) (px_g2 hb_AB) hb_A hb_LW hb_Cs 40 hb_zs 302 hb_cuts 6530 (hb_cs 1456 hb_RB hb_FB) k ss i = true := ⟨0, [], fun j hj => match j, hj with
    | 0, _ => hb_t79_0
    | j + 1, hj => absurd hj (by simp only [List.length_cons, List.length_nil]; omega)⟩
theorem hb_cu80 : ∃ (k : Nat) (ss : List Nat), ∀ i, i ≤ ss.length → sy_ckT hb_cl hb_lt hb_P (hb_P ++ [hb_m302]) hb_GM (px_Hq hb_B) (px_g2 hb_AB) hb_A hb_LW hb_Cs 40 hb_zs 302 hb_cuts 6530 (hb_cs 1489 hb_RA hb_FA) k ss i = true := ⟨0, [], fun j hj => match j, hj with
    | 0, _ => hb_t80_0
    | j + 1, hj => absurd hj (by simp only [List.length_cons, List.length_nil]; omega)⟩
theorem hb_cu81 : ∃ (k : Nat) (ss : List Nat), ∀ i, i ≤ ss.length → sy_ckT hb_cl hb_lt hb_P (hb_P ++ [hb_m302]) hb_GM (px_Hq hb_B) (px_g2 hb_AB) hb_A hb_LW hb_Cs 40 hb_zs 302 hb_cuts 6530 (hb_cs 1489 hb_RB hb_FB) k ss i = true := ⟨0, [], fun j hj => match j, hj with
    | 0, _ => hb_t81_0
    | j + 1, hj => absurd hj (by simp only [List.length_cons, List.length_nil]; omega)⟩
theorem hb_cu82 : ∃ (k : Nat) (ss : List Nat), ∀ i, i ≤ ss.length → sy_ckT hb_cl hb_lt hb_P (hb_P ++ [hb_m302]) hb_GM (px_Hq hb_B) (px_g2 hb_AB) hb_A hb_LW hb_Cs 40 hb_zs 302 hb_cuts 6530 (hb_cs 1522 hb_RA hb_FA) k ss i = true := ⟨0, [], fun j hj => match j, hj with
    | 0, _ => hb_t82_0
    | j + 1, hj => absurd hj (by simp only [List.length_cons, List.length_nil]; omega)⟩
theorem hb_cu83 : ∃ (k : Nat) (ss : List Nat), ∀ i, i ≤ ss.length → sy_ckT hb_cl hb_lt hb_P (hb_P ++ [hb_m302]) hb_GM (px_Hq hb_B) (px_g2 hb_AB) hb_A hb_LW hb_Cs 40 hb_zs 302 hb_cuts 6530 (hb_cs 1522 hb_RB hb_FB) k ss i = true := ⟨0, [], fun j hj => match j, hj with
    | 0, _ => hb_t83_0
    | j + 1, hj => absurd hj (by simp only [List.length_cons, List.length_nil]; omega)⟩
theorem hb_cu84 : ∃ (k : Nat) (ss : List Nat), ∀ i, i ≤ ss.length → sy_ckT hb_cl hb_lt hb_P (hb_P ++ [hb_m302]) hb_GM (px_Hq hb_B) (px_g2 hb_AB) hb_A hb_LW hb_Cs 40 hb_zs 302 hb_cuts 6530 (hb_cs 1555 hb_RA hb_FA) k ss i = true := ⟨0, [], fun j hj => match j, hj with
    | 0, _ => hb_t84_0
    | j + 1, hj => absurd hj (by simp only [List.length_cons, List.length_nil]; omega)⟩
theorem hb_cu85 : ∃ (k : Nat) (ss : List Nat), ∀ i, i ≤ ss.length → sy_ckT hb_cl hb_lt hb_P (hb_P ++ [hb_m302]) hb_GM (px_Hq hb_B) (px_g2 hb_AB) hb_A hb_LW hb_Cs 40 hb_zs 302 hb_cuts 6530 (hb_cs 1555 hb_RB hb_FB) k ss i = true := ⟨0, [], fun j hj => match j, hj with
    | 0, _ => hb_t85_0
    | j + 1, hj => absurd hj (by simp only [List.length_cons, List.length_nil]; omega)⟩
theorem hb_cu86 : ∃ (k : Nat) (ss : List Nat), ∀ i, i ≤ ss.length → sy_ckT hb_cl hb_lt hb_P (hb_P ++ [hb_m302]) hb_GM (px_Hq hb_B) (px_g2 hb_AB) hb_A hb_LW hb_Cs 40 hb_zs 302 hb_cuts 6530 (hb_cs 1598 hb_RA hb_FA) k ss i = true := ⟨0, [], fun j hj => match j, hj with
    | 0, _ => hb_t86_0
    | j + 1, hj => absurd hj (by simp only [List.length_cons, List.length_nil]; omega)⟩
theorem hb_cu87 : ∃ (k : Nat) (ss : List Nat), ∀ i, i ≤ ss.length → sy_ckT hb_cl hb_lt hb_P (hb_P ++ [hb_m302]) hb_GM (px_Hq hb_B) (px_g2 hb_AB) hb_A hb_LW hb_Cs 40 hb_zs 302 hb_cuts 6530 (hb_cs 1598 hb_RB hb_FB) k ss i = true := ⟨0, [], fun j hj => match j, hj with
    | 0, _ => hb_t87_0
    | j + 1, hj => absurd hj (by simp only [List.length_cons, List.length_nil]; omega)⟩
theorem hb_cu88 : ∃ (k : Nat) (ss : List Nat), ∀ i, i ≤ ss.length → sy_ckT hb_cl hb_lt hb_P (hb_P ++ [hb_m302]) hb_GM (px_Hq hb_B) (px_g2 hb_AB) hb_A hb_LW hb_Cs 40 hb_zs 302 hb_cuts 6530 (hb_cs 1641 hb_RA hb_FA) k ss i = true := ⟨0, [], fun j hj => match j, hj with
    | 0, _ => hb_t88_0
    | j + 1, hj => absurd hj (by simp only [List.length_cons, List.length_nil]; omega)⟩
theorem hb_cu89 : ∃ (k : Nat) (ss : List Nat), ∀ i, i ≤ ss.length → sy_ckT hb_cl hb_lt hb_P (hb_P ++ [hb_m302]) hb_GM (px_Hq hb_B) (px_g2 hb_AB) hb_A hb_LW hb_Cs 40 hb_zs 302 hb_cuts 6530 (hb_cs 1641 hb_RB hb_FB) k ss i = true := ⟨0, [], fun j hj => match j, hj with
    | 0, _ => hb_t89_0
    | j + 1, hj => absurd hj (by simp only [List.length_cons, List.length_nil]; omega)⟩
theorem hb_cu90 : ∃ (k : Nat) (ss : List Nat), ∀ i, i ≤ ss.length → sy_ckT hb_cl hb_lt hb_P (hb_P ++ [hb_m302]) hb_GM (px_Hq hb_B) (px_g2 hb_AB) hb_A hb_LW hb_Cs 40 hb_zs 302 hb_cuts 6530 (hb_cs 1684 hb_RA hb_FA) k ss i = true := ⟨0, [], fun j hj => match j, hj with
    | 0, _ => hb_t90_0
    | j + 1, hj => absurd hj (by simp only [List.length_cons, List.length_nil]; omega)⟩
theorem hb_cu91 : ∃ (k : Nat) (ss : List Nat), ∀ i, i ≤ ss.length → sy_ckT hb_cl hb_lt hb_P (hb_P ++ [hb_m302]) hb_GM (px_Hq hb_B) (px_g2 hb_AB) hb_A hb_LW hb_Cs 40 hb_zs 302 hb_cuts 6530 (hb_cs 1684 hb_RB hb_FB) k ss i = true := ⟨0, [], fun j hj => match j, hj with
    | 0, _ => hb_t91_0
    | j + 1, hj => absurd hj (by simp only [List.length_cons, List.length_nil]; omega)⟩
theorem hb_cu92 : ∃ (k : Nat) (ss : List Nat), ∀ i, i ≤ ss.length → sy_ckT hb_cl hb_lt hb_P (hb_P ++ [hb_m302]) hb_GM (px_Hq hb_B) (px_g2 hb_AB) hb_A hb_LW hb_Cs 40 hb_zs 302 hb_cuts 6530 (hb_cs 1747 hb_RA hb_FA) k ss i = true := ⟨0, [], fun j hj => match j, hj with
    | 0, _ => hb_t92_0
    | j + 1, hj => absurd hj (by simp only [List.length_cons, List.length_nil]; omega)⟩
theorem hb_cu93 : ∃ (k : Nat) (ss : List Nat), ∀ i, i ≤ ss.length → sy_ckT hb_cl hb_lt hb_P (hb_P ++ [hb_m302]) hb_GM (px_Hq hb_B) (px_g2 hb_AB) hb_A hb_LW hb_Cs 40 hb_zs 302 hb_cuts 6530 (hb_cs 1747 hb_RB hb_FB) k ss i = true := ⟨0, [], fun j hj => match j, hj with
    | 0, _ => hb_t93_0
    | j + 1, hj => absurd hj (by simp only [List.length_cons, List.length_nil]; omega)⟩
theorem hb_cu94 : ∃ (k : Nat) (ss : List Nat), ∀ i, i ≤ ss.length → sy_ckT hb_cl hb_lt hb_P (hb_P ++ [hb_m302]) hb_GM (px_Hq hb_B) (px_g2 hb_AB) hb_A hb_LW hb_Cs 40 hb_zs 302 hb_cuts 6530 (hb_cs 1790 hb_RA hb_FA) k ss i = true := ⟨0, [], fun j hj => match j, hj with
    | 0, _ => hb_t94_0
    | j + 1, hj => absurd hj (by simp only [List.length_cons, List.length_nil]; omega)⟩
theorem hb_cu95 : ∃ (k : Nat) (ss : List Nat), ∀ i, i ≤ ss.length → sy_ckT hb_cl hb_lt hb_P (hb_P ++ [hb_m302]) hb_GM (px_Hq hb_B) (px_g2 hb_AB) hb_A hb_LW hb_Cs 40 hb_zs 302 hb_cuts 6530 (hb_cs 1790 hb_RB hb_FB) k ss i = true := ⟨0, [], fun j hj => match j, hj with
    | 0, _ => hb_t95_0
    | j + 1, hj => absurd hj (by simp only [List.length_cons, List.length_nil]; omega)⟩
theorem hb_cu96 : ∃ (k : Nat) (ss : List Nat), ∀ i, i ≤ ss.length → sy_ckT hb_cl hb_lt hb_P (hb_P ++ [hb_m302]) hb_GM (px_Hq hb_B) (px_g2 hb_AB) hb_A hb_LW hb_Cs 40 hb_zs 302 hb_cuts 6530 (hb_cs 1823 hb_RA hb_FA) k ss i = true := ⟨0, [], fun j hj => match j, hj with
    | 0, _ => hb_t96_0
    | j + 1, hj => absurd hj (by simp only [List.length_cons, List.length_nil]; omega)⟩
theorem hb_cu97 : ∃ (k : Nat) (ss : List Nat), ∀ i, i ≤ ss.length → sy_ckT hb_cl hb_lt hb_P (hb_P ++ [hb_m302]) hb_GM (px_Hq hb_B) (px_g2 hb_AB) hb_A hb_LW hb_Cs 40 hb_zs 302 hb_cuts 6530 (hb_cs 1823 hb_RB hb_FB) k ss i = true := ⟨0, [], fun j hj => match j, hj with
    | 0, _ => hb_t97_0
    | j + 1, hj => absurd hj (by simp only [List.length_cons, List.length_nil]; omega)⟩
theorem hb_cu98 : ∃ (k : Nat) (ss : List Nat), ∀ i, i ≤ ss.length → sy_ckT hb_cl hb_lt hb_P (hb_P ++ [hb_m302]) hb_GM (px_Hq hb_B) (px_g2 hb_AB) hb_A hb_LW hb_Cs 40 hb_zs 302 hb_cuts 6530 (hb_cs 1866 hb_RA hb_FA) k ss i = true := ⟨0, [], fun j hj => match j, hj with
    | 0, _ => hb_t98_0
    | j + 1, hj => absurd hj (by simp only [List.length_cons, List.length_nil]; omega)⟩
theorem hb_cu99 : ∃ (k : Nat) (ss : List Nat), ∀ i, i ≤ ss.length → sy_ckT hb_cl hb_lt hb_P (hb_P ++ [hb_m302]) hb_GM (px_Hq hb_B) (px_g2 hb_AB) hb_A hb_LW hb_Cs 40 hb_zs 302 hb_cuts 6530 (hb_cs 1866 hb_RB hb_FB) k ss i = true := ⟨0, [], fun j hj => match j, hj with
    | 0, _ => hb_t99_0
    | j + 1, hj => absurd hj (by simp only [List.length_cons, List.length_nil]; omega)⟩
theorem hb_cu100 : ∃ (k : Nat) (ss : List Nat), ∀ i, i ≤ ss.length → sy_ckT hb_cl hb_lt hb_P (hb_P ++ [hb_m302]) hb_GM (px_Hq hb_B) (px_g2 hb_AB) hb_A hb_LW hb_Cs 40 hb_zs 302 hb_cuts 6530 (hb_cs 1889 hb_RA hb_FA) k ss i = true := ⟨0, [], fun j hj => match j, hj with
    | 0, _ => hb_t100_0
    | j + 1, hj => absurd hj (by simp only [List.length_cons, List.length_nil]; omega)⟩
theorem hb_cu101 : ∃ (k : Nat) (ss : List Nat), ∀ i, i ≤ ss.length → sy_ckT hb_cl hb_lt hb_P (hb_P ++ [hb_m302]) hb_GM (px_Hq hb_B) (px_g2 hb_AB) hb_A hb_LW hb_Cs 40 hb_zs 302 hb_cuts 6530 (hb_cs 1889 hb_RB hb_FB) k ss i = true := ⟨0, [], fun j hj => match j, hj with
    | 0, _ => hb_t101_0
    | j + 1, hj => absurd hj (by simp only [List.length_cons, List.length_nil]; omega)⟩
theorem hb_cu102 : ∃ (k : Nat) (ss : List Nat), ∀ i, i ≤ ss.length → sy_ckT hb_cl hb_lt hb_P (hb_P ++ [hb_m302]) hb_GM (px_Hq hb_B) (px_g2 hb_AB) hb_A hb_LW hb_Cs 40 hb_zs 302 hb_cuts 6530 (hb_cs 1912 hb_RA hb_FA) k ss i = true := ⟨0, [], fun j hj => match j, hj with
    | 0, _ => hb_t102_0
    | j + 1, hj => absurd hj (by simp only [List.length_cons, List.length_nil]; omega)⟩
theorem hb_cu103 : ∃ (k : Nat) (ss : List Nat), ∀ i, i ≤ ss.length → sy_ckT hb_cl hb_lt hb_P (hb_P ++ [hb_m302]) hb_GM (px_Hq hb_B) (px_g2 hb_AB) hb_A hb_LW hb_Cs 40 hb_zs 302 hb_cuts 6530 (hb_cs 1912 hb_RB hb_FB) k ss i = true := ⟨0, [], fun j hj => match j, hj with
    | 0, _ => hb_t103_0
    | j + 1, hj => absurd hj (by simp only [List.length_cons, List.length_nil]; omega)⟩
theorem hb_cu104 : ∃ (k : Nat) (ss : List Nat), ∀ i, i ≤ ss.length → sy_ckT hb_cl hb_lt hb_P (hb_P ++ [hb_m302]) hb_GM (px_Hq hb_B) (px_g2 hb_AB) hb_A hb_LW hb_Cs 40 hb_zs 302 hb_cuts 6530 (hb_cs 1925 hb_RA hb_FA) k ss i = true := ⟨0, [], fun j hj => match j, hj with
    | 0, _ => hb_t104_0
    | j + 1, hj => absurd hj (by simp only [List.length_cons, List.length_nil]; omega)⟩
theorem hb_cu105 : ∃ (k : Nat) (ss : List Nat), ∀ i, i ≤ ss.length → sy_ckT hb_cl hb_lt hb_P (hb_P ++ [hb_m302]) hb_GM (px_Hq hb_B) (px_g2 hb_AB) hb_A hb_LW hb_Cs 40 hb_zs 302 hb_cuts 6530 (hb_cs 1925 hb_RB hb_FB) k ss i = true := ⟨0, [], fun j hj => match j, hj with
    | 0, _ => hb_t105_0
    | j + 1, hj => absurd hj (by simp only [List.length_cons, List.length_nil]; omega)⟩
theorem hb_tall : ∀ c ∈ hb_cuts, ∃ (k : Nat) (ss : List Nat), ∀ i, i ≤ ss.length → sy_ckT hb_cl hb_lt hb_P (hb_P ++ [hb_m302]) hb_GM (px_Hq hb_B) (px_g2 hb_AB) hb_A hb_LW hb_Cs 40 hb_zs 302 hb_cuts 6530 c k ss i = true := List.forall_mem_cons.mpr ⟨hb_cu0, List.forall_mem_cons.mpr ⟨hb_cu1, List.forall_mem_cons.mpr ⟨hb_cu2, List.forall_mem_cons.mpr ⟨hb_cu3, List.forall_mem_cons.mpr ⟨hb_cu4, List.forall_mem_cons.mpr ⟨hb_cu5, List.forall_mem_cons.mpr ⟨hb_cu6, List.forall_mem_cons.mpr ⟨hb_cu7, List.forall_mem_cons.mpr ⟨hb_cu8, List.forall_mem_cons.mpr ⟨hb_cu9, List.forall_mem_cons.mpr ⟨hb_cu10, List.forall_mem_cons.mpr ⟨hb_cu11, List.forall_mem_cons.mpr ⟨hb_cu12, List.forall_mem_cons.mpr ⟨hb_cu13, List.forall_mem_cons.mpr ⟨hb_cu14, List.forall_mem_cons.mpr ⟨hb_cu15, List.forall_mem_cons.mpr ⟨hb_cu16, List.forall_mem_cons.mpr ⟨hb_cu17, List.forall_mem_cons.mpr ⟨hb_cu18, List.forall_mem_cons.mpr ⟨hb_cu19, List.forall_mem_cons.mpr ⟨hb_cu20, List.forall_mem_cons.mpr ⟨hb_cu21, List.forall_mem_cons.mpr ⟨hb_cu22, List.forall_mem_cons.mpr ⟨hb_cu23, List.forall_mem_cons.mpr ⟨hb_cu24, List.forall_mem_cons.mpr ⟨hb_cu25, List.forall_mem_cons.mpr ⟨hb_cu26, List.forall_mem_cons.mpr ⟨hb_cu27, List.forall_mem_cons.mpr ⟨hb_cu28, List.forall_mem_cons.mpr ⟨hb_cu29, List.forall_mem_cons.mpr ⟨hb_cu30, List.forall_mem_cons.mpr ⟨hb_cu31, List.forall_mem_cons.mpr ⟨hb_cu32, List.forall_mem_cons.mpr ⟨hb_cu33, List.forall_mem_cons.mpr ⟨hb_cu34, List.forall_mem_cons.mpr ⟨hb_cu35, List.forall_mem_cons.mpr ⟨hb_cu36, List.forall_mem_cons.mpr ⟨hb_cu37, List.forall_mem_cons.mpr ⟨hb_cu38, List.forall_mem_cons.mpr ⟨hb_cu39, List.forall_mem_cons.mpr ⟨hb_cu40, List.forall_mem_cons.mpr ⟨hb_cu41, List.forall_mem_cons.mpr ⟨hb_cu42, List.forall_mem_cons.mpr ⟨hb_cu43, List.forall_mem_cons.mpr ⟨hb_cu44, List.forall_mem_cons.mpr ⟨hb_cu45, List.forall_mem_cons.mpr ⟨hb_cu46, List.forall_mem_cons.mpr ⟨hb_cu47, List.forall_mem_cons.mpr ⟨hb_cu48, List.forall_mem_cons.mpr ⟨hb_cu49, List.forall_mem_cons.mpr ⟨hb_cu50, List.forall_mem_cons.mpr ⟨hb_cu51, List.forall_mem_cons.mpr ⟨hb_cu52, List.forall_mem_cons.mpr ⟨hb_cu53, List.forall_mem_cons.mpr ⟨hb_cu54, List.forall_mem_cons.mpr ⟨hb_cu55, List.forall_mem_cons.mpr ⟨hb_cu56, List.forall_mem_cons.mpr ⟨hb_cu57, List.forall_mem_cons.mpr ⟨hb_cu58, List.forall_mem_cons.mpr ⟨hb_cu59, List.forall_mem_cons.mpr ⟨hb_cu60, List.forall_mem_cons.mpr ⟨hb_cu61, List.forall_mem_cons.mpr ⟨hb_cu62, List.forall_mem_cons.mpr ⟨hb_cu63, List.forall_mem_cons.mpr ⟨hb_cu64, List.forall_mem_cons.mpr ⟨hb_cu65, List.forall_mem_cons.mpr ⟨hb_cu66, List.forall_mem_cons.mpr ⟨hb_cu67, List.forall_mem_cons.mpr ⟨hb_cu68, List.forall_mem_cons.mpr ⟨hb_cu69, List.forall_mem_cons.mpr ⟨hb_cu70, List.forall_mem_cons.mpr ⟨hb_cu71, List.forall_mem_cons.mpr ⟨hb_cu72, List.forall_mem_cons.mpr ⟨hb_cu73, List.forall_mem_cons.mpr ⟨hb_cu74, List.forall_mem_cons.mpr ⟨hb_cu75, List.forall_mem_cons.mpr ⟨hb_cu76, List.forall_mem_cons.mpr ⟨hb_cu77, List.forall_mem_cons.mpr ⟨hb_cu78, List.forall_mem_cons.mpr ⟨hb_cu79, List.forall_mem_cons.mpr ⟨hb_cu80, List.forall_mem_cons.mpr ⟨hb_cu81, List.forall_mem_cons.mpr ⟨hb_cu82, List.forall_mem_cons.mpr ⟨hb_cu83, List.forall_mem_cons.mpr ⟨hb_cu84, List.forall_mem_cons.mpr ⟨hb_cu85, List.forall_mem_cons.mpr ⟨hb_cu86, List.forall_mem_cons.mpr ⟨hb_cu87, List.forall_mem_cons.mpr ⟨hb_cu88, List.forall_mem_cons.mpr ⟨hb_cu89, List.forall_mem_cons.mpr ⟨hb_cu90, List.forall_mem_cons.mpr ⟨hb_cu91, List.forall_mem_cons.mpr ⟨hb_cu92, List.forall_mem_cons.mpr ⟨hb_cu93, List.forall_mem_cons.mpr ⟨hb_cu94, List.forall_mem_cons.mpr ⟨hb_cu95, List.forall_mem_cons.mpr ⟨hb_cu96, List.forall_mem_cons.mpr ⟨hb_cu97, List.forall_mem_cons.mpr ⟨hb_cu98, List.forall_mem_cons.mpr ⟨hb_cu99, List.forall_mem_cons.mpr ⟨hb_cu100, List.forall_mem_cons.mpr ⟨hb_cu101, List.forall_mem_cons.mpr ⟨hb_cu102, List.forall_mem_cons.mpr ⟨hb_cu103, List.forall_mem_cons.mpr ⟨hb_cu104, List.forall_mem_cons.mpr ⟨hb_cu105, fun _ h => absurd h List.not_mem_nil⟩⟩⟩⟩⟩⟩⟩⟩⟩⟩⟩⟩⟩⟩⟩⟩⟩⟩⟩⟩⟩⟩⟩⟩⟩⟩⟩⟩⟩⟩⟩⟩⟩⟩⟩⟩⟩⟩⟩⟩⟩⟩⟩⟩⟩⟩⟩⟩⟩⟩⟩⟩⟩⟩⟩⟩⟩⟩⟩⟩⟩⟩⟩⟩⟩⟩⟩⟩⟩⟩⟩⟩⟩⟩⟩⟩⟩⟩⟩⟩⟩⟩⟩⟩⟩⟩⟩⟩⟩⟩⟩⟩⟩⟩⟩⟩⟩⟩⟩⟩⟩⟩⟩⟩⟩⟩
theorem hb_whole (xs : List Int32) (hlen : xs.length ≤ 3072) : ∃ (n : Nat) (r : Option Value × px_W × (Nat × Nat)), px_exec hb_cl hb_lt hb_P n 40 (some xs) hb_m302 0 [(0, .ref 0)] [] [] (600000, 7302250) = some r ∧ r.1 = some (.int 1) := hb_run 6530 hb_Cs_ok (by decide) List.mem_cons_self hb_tall xs hlen

end

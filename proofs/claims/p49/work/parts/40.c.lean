noncomputable section
/-! THE LAW OF THIS CLAIM -/
theorem hb_sb_hb_Wc0 : sy_sbW hb_Wc0 hb_LW = true := by decide +kernel
theorem hb_sb_hb_Wc1 : sy_sbW hb_Wc1 hb_LW = true := by decide +kernel
theorem hb_sb_hb_Wc2 : sy_sbW hb_Wc2 hb_LW = true := by decide +kernel
theorem hb_sb_hb_Wc3 : sy_sbW hb_Wc3 hb_LW = true := by decide +kernel
theorem hb_sb_hb_Wc4 : sy_sbW hb_Wc4 hb_LW = true := by decide +kernel
theorem hb_sb_hb_Wc5 : sy_sbW hb_Wc5 hb_LW = true := by decide +kernel
theorem hb_sb_hb_Wc6 : sy_sbW hb_Wc6 hb_LW = true := by decide +kernel
theorem hb_sb_hb_Wc7 : sy_sbW hb_Wc7 hb_LW = true := by decide +kernel
theorem hb_sb_hb_Wc8 : sy_sbW hb_Wc8 hb_LW = true := by decide +kernel
theorem hb_sb_hb_Wc9 : sy_sbW hb_Wc9 hb_LW = true := by decide +kernel
theorem hb_sb_hb_Wc10 : sy_sbW hb_Wc10 hb_LW = true := by decide +kernel
theorem hb_sb_hb_Wc11 : sy_sbW hb_Wc11 hb_LW = true := by decide +kernel
theorem hb_sb_hb_Wc12 : sy_sbW hb_Wc12 hb_LW = true := by decide +kernel
theorem hb_sb_hb_Wc13 : sy_sbW hb_Wc13 hb_LW = true := by decide +kernel
theorem hb_sb_hb_Wc14 : sy_sbW hb_Wc14 hb_LW = true := by decide +kernel
theorem hb_sb_hb_Wc15 : sy_sbW hb_Wc15 hb_LW = true := by decide +kernel
theorem hb_sb_hb_Wc16 : sy_sbW hb_Wc16 hb_LW = true := by decide +kernel
theorem hb_sb_hb_Wc17 : sy_sbW hb_Wc17 hb_LW = true := by decide +kernel
theorem hb_sb_hb_Wc18 : sy_sbW hb_Wc18 hb_LW = true := by decide +kernel
theorem hb_sb_hb_Wc19 : sy_sbW hb_Wc19 hb_LW = true := by decide +kernel
theorem hb_sb_hb_Wc20 : sy_sbW hb_Wc20 hb_LW = true := by decide +kernel
theorem hb_sb_hb_Wc21 : sy_sbW hb_Wc21 hb_LW = true := by decide +kernel
theorem hb_sb_hb_Wc22 : sy_sbW hb_Wc22 hb_LW = true := by decide +kernel
theorem hb_sb_hb_Wc23 : sy_sbW hb_Wc23 hb_LW = true := by decide +kernel
theorem hb_sb_hb_Wc24 : sy_sbW hb_Wc24 hb_LW = true := by decide +kernel
theorem hb_sb_hb_Wc25 : sy_sbW hb_Wc25 hb_LW = true := by decide +kernel
theorem hb_sb_hb_Wc26 : sy_sbW hb_Wc26 hb_LW = true := by decide +kernel
theorem hb_sb_hb_Wc27 : sy_sbW hb_Wc27 hb_LW = true := by decide +kernel
theorem hb_sb_hb_Wc28 : sy_sbW hb_Wc28 hb_LW = true := by decide +kernel
theorem hb_sb_hb_Wc29 : sy_sbW hb_Wc29 hb_LW = true := by decide +kernel
theorem hb_sb_hb_Wc30 : sy_sbW hb_Wc30 hb_LW = true := by decide +kernel
theorem hb_sb_hb_Wc31 : sy_sbW hb_Wc31 hb_LW = true := by decide +kernel
theorem hb_sb_hb_Wc32 : sy_sbW hb_Wc32 hb_LW = true := by decide +kernel
theorem hb_sb_hb_Wc33 : sy_sbW hb_Wc33 hb_LW = true := by decide +kernel
theorem hb_sb_hb_Wc34 : sy_sbW hb_Wc34 hb_LW = true := by decide +kernel
theorem hb_sb_hb_Wc35 : sy_sbW hb_Wc35 hb_LW = true := by decide +kernel
theorem hb_sb_hb_Wc36 : sy_sbW hb_Wc36 hb_LW = true := by decide +kernel
theorem hb_cu0 : ∃ (Wc : sy_Wr) (rel : sy_Wr) (k : Nat) (ss : List Nat), sy_sbW Wc hb_LW = true ∧ ∀ i, i ≤ ss.length → sy_ckT hb_cl hb_lt hb_P (hb_P ++ [hb_m302]) hb_GM (px_Hq hb_B) (px_g2 hb_AB) hb_A Wc hb_Cs 40 hb_zs 302 hb_cuts 27484 (hb_hd hb_RA hb_FA) rel k ss i = true := ⟨hb_Wc0, hb_rl0, 0, [], hb_sb_hb_Wc0, fun j hj => match j, hj with
    | 0, _ => hb_t0_0
    | j + 1, hj => absurd hj (by simp only [List.length_cons, List.length_nil]; omega)⟩
theorem hb_cu1 : ∃ (Wc : sy_Wr) (rel : sy_Wr) (k : Nat) (ss : List Nat), sy_sbW Wc hb_LW = true ∧ ∀ i, i ≤ ss.length → sy_ckT hb_cl hb_lt hb_P (hb_P ++ [hb_m302]) hb_GM (px_Hq hb_B) (px_g2 hb_AB) hb_A Wc hb_Cs 40 hb_zs 302 hb_cuts 27484 (hb_hd hb_RB hb_FB) rel k ss i = true := ⟨hb_Wc0, hb_rl0, 0, [], hb_sb_hb_Wc0, fun j hj => match j, hj with
    | 0, _ => hb_t1_0
    | j + 1, hj => absurd hj (by simp only [List.length_cons, List.length_nil]; omega)⟩
theorem hb_cu2 : ∃ (Wc : sy_Wr) (rel : sy_Wr) (k : Nat) (ss : List Nat), sy_sbW Wc hb_LW = true ∧ ∀ i, i ≤ ss.length → sy_ckT hb_cl hb_lt hb_P (hb_P ++ [hb_m302]) hb_GM (px_Hq hb_B) (px_g2 hb_AB) hb_A Wc hb_Cs 40 hb_zs 302 hb_cuts 27484 (hb_cs 256 hb_RA hb_FA) rel k ss i = true := ⟨hb_Wc1, hb_rl1, 0, [], hb_sb_hb_Wc1, fun j hj => match j, hj with
    | 0, _ => hb_t2_0
    | j + 1, hj => absurd hj (by simp only [List.length_cons, List.length_nil]; omega)⟩
theorem hb_cu3 : ∃ (Wc : sy_Wr) (rel : sy_Wr) (k : Nat) (ss : List Nat), sy_sbW Wc hb_LW = true ∧ ∀ i, i ≤ ss.length → sy_ckT hb_cl hb_lt hb_P (hb_P ++ [hb_m302]) hb_GM (px_Hq hb_B) (px_g2 hb_AB) hb_A Wc hb_Cs 40 hb_zs 302 hb_cuts 27484 (hb_cs 256 hb_RB hb_FB) rel k ss i = true := ⟨hb_Wc1, hb_rl1, 0, [], hb_sb_hb_Wc1, fun j hj => match j, hj with
    | 0, _ => hb_t3_0
    | j + 1, hj => absurd hj (by simp only [List.length_cons, List.length_nil]; omega)⟩
theorem hb_cu4 : ∃ (Wc : sy_Wr) (rel : sy_Wr) (k : Nat) (ss : List Nat), sy_sbW Wc hb_LW = true ∧ ∀ i, i ≤ ss.length → sy_ckT hb_cl hb_lt hb_P (hb_P ++ [hb_m302]) hb_GM (px_Hq hb_B) (px_g2 hb_AB) hb_A Wc hb_Cs 40 hb_zs 302 hb_cuts 27484 (hb_cs 279 hb_RA hb_FA) rel k ss i = true := ⟨hb_Wc2, hb_rl2, 86, [6, 9], hb_sb_hb_Wc2, fun j hj => match j, hj with
    | 0, _ => hb_t4_0
    | 1, _ => hb_t4_1
    | 2, _ => hb_t4_2
    | j + 3, hj => absurd hj (by simp only [List.length_cons, List.length_nil]; omega)⟩
theorem hb_cu5 : ∃ (Wc : sy_Wr) (rel : sy_Wr) (k : Nat) (ss : List Nat), sy_sbW Wc hb_LW = true ∧ ∀ i, i ≤ ss.length → sy_ckT hb_cl hb_lt hb_P (hb_P ++ [hb_m302]) hb_GM (px_Hq hb_B) (px_g2 hb_AB) hb_A Wc hb_Cs 40 hb_zs 302 hb_cuts 27484 (hb_cs 279 hb_RB hb_FB) rel k ss i = true := ⟨hb_Wc2, hb_rl2, 86, [6, 9], hb_sb_hb_Wc2, fun j hj => match j, hj with
    | 0, _ => hb_t5_0
    | 1, _ => hb_t5_1
    | 2, _ => hb_t5_2
    | j + 3, hj => absurd hj (by simp only [List.length_cons, List.length_nil]; omega)⟩
theorem hb_cu6 : ∃ (Wc : sy_Wr) (rel : sy_Wr) (k : Nat) (ss : List Nat), sy_sbW Wc hb_LW = true ∧ ∀ i, i ≤ ss.length → sy_ckT hb_cl hb_lt hb_P (hb_P ++ [hb_m302]) hb_GM (px_Hq hb_B) (px_g2 hb_AB) hb_A Wc hb_Cs 40 hb_zs 302 hb_cuts 27484 (hb_cs 322 hb_RA hb_FA) rel k ss i = true := ⟨hb_Wc3, hb_rl3, 0, [], hb_sb_hb_Wc3, fun j hj => match j, hj with
    | 0, _ => hb_t6_0
    | j + 1, hj => absurd hj (by simp only [List.length_cons, List.length_nil]; omega)⟩
theorem hb_cu7 : ∃ (Wc : sy_Wr) (rel : sy_Wr) (k : Nat) (ss : List Nat), sy_sbW Wc hb_LW = true ∧ ∀ i, i ≤ ss.length → sy_ckT hb_cl hb_lt hb_P (hb_P ++ [hb_m302]) hb_GM (px_Hq hb_B) (px_g2 hb_AB) hb_A Wc hb_Cs 40 hb_zs 302 hb_cuts 27484 (hb_cs 322 hb_RB hb_FB) rel k ss i = true := ⟨hb_Wc3, hb_rl3, 0, [], hb_sb_hb_Wc3, fun j hj => match j, hj with
    | 0, _ => hb_t7_0
    | j + 1, hj => absurd hj (by simp only [List.length_cons, List.length_nil]; omega)⟩
theorem hb_cu8 : ∃ (Wc : sy_Wr) (rel : sy_Wr) (k : Nat) (ss : List Nat), sy_sbW Wc hb_LW = true ∧ ∀ i, i ≤ ss.length → sy_ckT hb_cl hb_lt hb_P (hb_P ++ [hb_m302]) hb_GM (px_Hq hb_B) (px_g2 hb_AB) hb_A Wc hb_Cs 40 hb_zs 302 hb_cuts 27484 (hb_cs 355 hb_RA hb_FA) rel k ss i = true := ⟨hb_Wc4, hb_rl4, 0, [], hb_sb_hb_Wc4, fun j hj => match j, hj with
    | 0, _ => hb_t8_0
    | j + 1, hj => absurd hj (by simp only [List.length_cons, List.length_nil]; omega)⟩
theorem hb_cu9 : ∃ (Wc : sy_Wr) (rel : sy_Wr) (k : Nat) (ss : List Nat), sy_sbW Wc hb_LW = true ∧ ∀ i, i ≤ ss.length → sy_ckT hb_cl hb_lt hb_P (hb_P ++ [hb_m302]) hb_GM (px_Hq hb_B) (px_g2 hb_AB) hb_A Wc hb_Cs 40 hb_zs 302 hb_cuts 27484 (hb_cs 355 hb_RB hb_FB) rel k ss i = true := ⟨hb_Wc4, hb_rl4, 0, [], hb_sb_hb_Wc4, fun j hj => match j, hj with
    | 0, _ => hb_t9_0
    | j + 1, hj => absurd hj (by simp only [List.length_cons, List.length_nil]; omega)⟩
theorem hb_cu10 : ∃ (Wc : sy_Wr) (rel : sy_Wr) (k : Nat) (ss : List Nat), sy_sbW Wc hb_LW = true ∧ ∀ i, i ≤ ss.length → sy_ckT hb_cl hb_lt hb_P (hb_P ++ [hb_m302]) hb_GM (px_Hq hb_B) (px_g2 hb_AB) hb_A Wc hb_Cs 40 hb_zs 302 hb_cuts 27484 (hb_cs 404 hb_RA hb_FA) rel k ss i = true := ⟨hb_Wc5, hb_rl5, 0, [], hb_sb_hb_Wc5, fun j hj => match j, hj with
    | 0, _ => hb_t10_0
    | j + 1, hj => absurd hj (by simp only [List.length_cons, List.length_nil]; omega)⟩
theorem hb_cu11 : ∃ (Wc : sy_Wr) (rel : sy_Wr) (k : Nat) (ss : List Nat), sy_sbW Wc hb_LW = true ∧ ∀ i, i ≤ ss.length → sy_ckT hb_cl hb_lt hb_P (hb_P ++ [hb_m302]) hb_GM (px_Hq hb_B) (px_g2 hb_AB) hb_A Wc hb_Cs 40 hb_zs 302 hb_cuts 27484 (hb_cs 404 hb_RB hb_FB) rel k ss i = true := ⟨hb_Wc5, hb_rl5, 0, [], hb_sb_hb_Wc5, fun j hj => match j, hj with
    | 0, _ => hb_t11_0
    | j + 1, hj => absurd hj (by simp only [List.length_cons, List.length_nil]; omega)⟩
theorem hb_cu12 : ∃ (Wc : sy_Wr) (rel : sy_Wr) (k : Nat) (ss : List Nat), sy_sbW Wc hb_LW = true ∧ ∀ i, i ≤ ss.length → sy_ckT hb_cl hb_lt hb_P (hb_P ++ [hb_m302]) hb_GM (px_Hq hb_B) (px_g2 hb_AB) hb_A Wc hb_Cs 40 hb_zs 302 hb_cuts 27484 (hb_cs 437 hb_RA hb_FA) rel k ss i = true := ⟨hb_Wc0, hb_rl0, 0, [], hb_sb_hb_Wc0, fun j hj => match j, hj with
    | 0, _ => hb_t12_0
    | j + 1, hj => absurd hj (by simp only [List.length_cons, List.length_nil]; omega)⟩
theorem hb_cu13 : ∃ (Wc : sy_Wr) (rel : sy_Wr) (k : Nat) (ss : List Nat), sy_sbW Wc hb_LW = true ∧ ∀ i, i ≤ ss.length → sy_ckT hb_cl hb_lt hb_P (hb_P ++ [hb_m302]) hb_GM (px_Hq hb_B) (px_g2 hb_AB) hb_A Wc hb_Cs 40 hb_zs 302 hb_cuts 27484 (hb_cs 437 hb_RB hb_FB) rel k ss i = true := ⟨hb_Wc0, hb_rl0, 0, [], hb_sb_hb_Wc0, fun j hj => match j, hj with
    | 0, _ => hb_t13_0
    | j + 1, hj => absurd hj (by simp only [List.length_cons, List.length_nil]; omega)⟩
theorem hb_cu14 : ∃ (Wc : sy_Wr) (rel : sy_Wr) (k : Nat) (ss : List Nat), sy_sbW Wc hb_LW = true ∧ ∀ i, i ≤ ss.length → sy_ckT hb_cl hb_lt hb_P (hb_P ++ [hb_m302]) hb_GM (px_Hq hb_B) (px_g2 hb_AB) hb_A Wc hb_Cs 40 hb_zs 302 hb_cuts 27484 (hb_cs 450 hb_RA hb_FA) rel k ss i = true := ⟨hb_Wc6, hb_rl6, 0, [], hb_sb_hb_Wc6, fun j hj => match j, hj with
    | 0, _ => hb_t14_0
    | j + 1, hj => absurd hj (by simp only [List.length_cons, List.length_nil]; omega)⟩
theorem hb_cu15 : ∃ (Wc : sy_Wr) (rel : sy_Wr) (k : Nat) (ss : List Nat), sy_sbW Wc hb_LW = true ∧ ∀ i, i ≤ ss.length → sy_ckT hb_cl hb_lt hb_P (hb_P ++ [hb_m302]) hb_GM (px_Hq hb_B) (px_g2 hb_AB) hb_A Wc hb_Cs 40 hb_zs 302 hb_cuts 27484 (hb_cs 450 hb_RB hb_FB) rel k ss i = true := ⟨hb_Wc6, hb_rl6, 0, [], hb_sb_hb_Wc6, fun j hj => match j, hj with
    | 0, _ => hb_t15_0
    | j + 1, hj => absurd hj (by simp only [List.length_cons, List.length_nil]; omega)⟩
theorem hb_cu16 : ∃ (Wc : sy_Wr) (rel : sy_Wr) (k : Nat) (ss : List Nat), sy_sbW Wc hb_LW = true ∧ ∀ i, i ≤ ss.length → sy_ckT hb_cl hb_lt hb_P (hb_P ++ [hb_m302]) hb_GM (px_Hq hb_B) (px_g2 hb_AB) hb_A Wc hb_Cs 40 hb_zs 302 hb_cuts 27484 (hb_cs 483 hb_RA hb_FA) rel k ss i = true := ⟨hb_Wc7, hb_rl7, 0, [], hb_sb_hb_Wc7, fun j hj => match j, hj with
    | 0, _ => hb_t16_0
    | j + 1, hj => absurd hj (by simp only [List.length_cons, List.length_nil]; omega)⟩
theorem hb_cu17 : ∃ (Wc : sy_Wr) (rel : sy_Wr) (k : Nat) (ss : List Nat), sy_sbW Wc hb_LW = true ∧ ∀ i, i ≤ ss.length → sy_ckT hb_cl hb_lt hb_P (hb_P ++ [hb_m302]) hb_GM (px_Hq hb_B) (px_g2 hb_AB) hb_A Wc hb_Cs 40 hb_zs 302 hb_cuts 27484 (hb_cs 483 hb_RB hb_FB) rel k ss i = true := ⟨hb_Wc7, hb_rl7, 0, [], hb_sb_hb_Wc7, fun j hj => match j, hj with
    | 0, _ => hb_t17_0
    | j + 1, hj => absurd hj (by simp only [List.length_cons, List.length_nil]; omega)⟩
theorem hb_cu18 : ∃ (Wc : sy_Wr) (rel : sy_Wr) (k : Nat) (ss : List Nat), sy_sbW Wc hb_LW = true ∧ ∀ i, i ≤ ss.length → sy_ckT hb_cl hb_lt hb_P (hb_P ++ [hb_m302]) hb_GM (px_Hq hb_B) (px_g2 hb_AB) hb_A Wc hb_Cs 40 hb_zs 302 hb_cuts 27484 (hb_cs 536 hb_RA hb_FA) rel k ss i = true := ⟨hb_Wc8, hb_rl8, 0, [], hb_sb_hb_Wc8, fun j hj => match j, hj with
    | 0, _ => hb_t18_0
    | j + 1, hj => absurd hj (by simp only [List.length_cons, List.length_nil]; omega)⟩
theorem hb_cu19 : ∃ (Wc : sy_Wr) (rel : sy_Wr) (k : Nat) (ss : List Nat), sy_sbW Wc hb_LW = true ∧ ∀ i, i ≤ ss.length → sy_ckT hb_cl hb_lt hb_P (hb_P ++ [hb_m302]) hb_GM (px_Hq hb_B) (px_g2 hb_AB) hb_A Wc hb_Cs 40 hb_zs 302 hb_cuts 27484 (hb_cs 536 hb_RB hb_FB) rel k ss i = true := ⟨hb_Wc8, hb_rl8, 0, [], hb_sb_hb_Wc8, fun j hj => match j, hj with
    | 0, _ => hb_t19_0
    | j + 1, hj => absurd hj (by simp only [List.length_cons, List.length_nil]; omega)⟩
theorem hb_cu20 : ∃ (Wc : sy_Wr) (rel : sy_Wr) (k : Nat) (ss : List Nat), sy_sbW Wc hb_LW = true ∧ ∀ i, i ≤ ss.length → sy_ckT hb_cl hb_lt hb_P (hb_P ++ [hb_m302]) hb_GM (px_Hq hb_B) (px_g2 hb_AB) hb_A Wc hb_Cs 40 hb_zs 302 hb_cuts 27484 (hb_cs 559 hb_RA hb_FA) rel k ss i = true := ⟨hb_Wc9, hb_rl9, 0, [], hb_sb_hb_Wc9, fun j hj => match j, hj with
    | 0, _ => hb_t20_0
    | j + 1, hj => absurd hj (by simp only [List.length_cons, List.length_nil]; omega)⟩
theorem hb_cu21 : ∃ (Wc : sy_Wr) (rel : sy_Wr) (k : Nat) (ss : List Nat), sy_sbW Wc hb_LW = true ∧ ∀ i, i ≤ ss.length → sy_ckT hb_cl hb_lt hb_P (hb_P ++ [hb_m302]) hb_GM (px_Hq hb_B) (px_g2 hb_AB) hb_A Wc hb_Cs 40 hb_zs 302 hb_cuts 27484 (hb_cs 559 hb_RB hb_FB) rel k ss i = true := ⟨hb_Wc9, hb_rl9, 0, [], hb_sb_hb_Wc9, fun j hj => match j, hj with
    | 0, _ => hb_t21_0
    | j + 1, hj => absurd hj (by simp only [List.length_cons, List.length_nil]; omega)⟩
theorem hb_cu22 : ∃ (Wc : sy_Wr) (rel : sy_Wr) (k : Nat) (ss : List Nat), sy_sbW Wc hb_LW = true ∧ ∀ i, i ≤ ss.length → sy_ckT hb_cl hb_lt hb_P (hb_P ++ [hb_m302]) hb_GM (px_Hq hb_B) (px_g2 hb_AB) hb_A Wc hb_Cs 40 hb_zs 302 hb_cuts 27484 (hb_cs 612 hb_RA hb_FA) rel k ss i = true := ⟨hb_Wc10, hb_rl10, 0, [], hb_sb_hb_Wc10, fun j hj => match j, hj with
    | 0, _ => hb_t22_0
    | j + 1, hj => absurd hj (by simp only [List.length_cons, List.length_nil]; omega)⟩
theorem hb_cu23 : ∃ (Wc : sy_Wr) (rel : sy_Wr) (k : Nat) (ss : List Nat), sy_sbW Wc hb_LW = true ∧ ∀ i, i ≤ ss.length → sy_ckT hb_cl hb_lt hb_P (hb_P ++ [hb_m302]) hb_GM (px_Hq hb_B) (px_g2 hb_AB) hb_A Wc hb_Cs 40 hb_zs 302 hb_cuts 27484 (hb_cs 612 hb_RB hb_FB) rel k ss i = true := ⟨hb_Wc10, hb_rl10, 0, [], hb_sb_hb_Wc10, fun j hj => match j, hj with
    | 0, _ => hb_t23_0
    | j + 1, hj => absurd hj (by simp only [List.length_cons, List.length_nil]; omega)⟩
theorem hb_cu24 : ∃ (Wc : sy_Wr) (rel : sy_Wr) (k : Nat) (ss : List Nat), sy_sbW Wc hb_LW = true ∧ ∀ i, i ≤ ss.length → sy_ckT hb_cl hb_lt hb_P (hb_P ++ [hb_m302]) hb_GM (px_Hq hb_B) (px_g2 hb_AB) hb_A Wc hb_Cs 40 hb_zs 302 hb_cuts 27484 (hb_cs 665 hb_RA hb_FA) rel k ss i = true := ⟨hb_Wc11, hb_rl11, 0, [], hb_sb_hb_Wc11, fun j hj => match j, hj with
    | 0, _ => hb_t24_0
    | j + 1, hj => absurd hj (by simp only [List.length_cons, List.length_nil]; omega)⟩
theorem hb_cu25 : ∃ (Wc : sy_Wr) (rel : sy_Wr) (k : Nat) (ss : List Nat), sy_sbW Wc hb_LW = true ∧ ∀ i, i ≤ ss.length → sy_ckT hb_cl hb_lt hb_P (hb_P ++ [hb_m302]) hb_GM (px_Hq hb_B) (px_g2 hb_AB) hb_A Wc hb_Cs 40 hb_zs 302 hb_cuts 27484 (hb_cs 665 hb_RB hb_FB) rel k ss i = true := ⟨hb_Wc11, hb_rl11, 0, [], hb_sb_hb_Wc11, fun j hj => match j, hj with
    | 0, _ => hb_t25_0
    | j + 1, hj => absurd hj (by simp only [List.length_cons, List.length_nil]; omega)⟩
theorem hb_cu26 : ∃ (Wc : sy_Wr) (rel : sy_Wr) (k : Nat) (ss : List Nat), sy_sbW Wc hb_LW = true ∧ ∀ i, i ≤ ss.length → sy_ckT hb_cl hb_lt hb_P (hb_P ++ [hb_m302]) hb_GM (px_Hq hb_B) (px_g2 hb_AB) hb_A Wc hb_Cs 40 hb_zs 302 hb_cuts 27484 (hb_cs 698 hb_RA hb_FA) rel k ss i = true := ⟨hb_Wc12, hb_rl12, 0, [], hb_sb_hb_Wc12, fun j hj => match j, hj with
    | 0, _ => hb_t26_0
    | j + 1, hj => absurd hj (by simp only [List.length_cons, List.length_nil]; omega)⟩
theorem hb_cu27 : ∃ (Wc : sy_Wr) (rel : sy_Wr) (k : Nat) (ss : List Nat), sy_sbW Wc hb_LW = true ∧ ∀ i, i ≤ ss.length → sy_ckT hb_cl hb_lt hb_P (hb_P ++ [hb_m302]) hb_GM (px_Hq hb_B) (px_g2 hb_AB) hb_A Wc hb_Cs 40 hb_zs 302 hb_cuts 27484 (hb_cs 698 hb_RB hb_FB) rel k ss i = true := ⟨hb_Wc12, hb_rl12, 0, [], hb_sb_hb_Wc12, fun j hj => match j, hj with
    | 0, _ => hb_t27_0
    | j + 1, hj => absurd hj (by simp only [List.length_cons, List.length_nil]; omega)⟩
theorem hb_cu28 : ∃ (Wc : sy_Wr) (rel : sy_Wr) (k : Nat) (ss : List Nat), sy_sbW Wc hb_LW = true ∧ ∀ i, i ≤ ss.length → sy_ckT hb_cl hb_lt hb_P (hb_P ++ [hb_m302]) hb_GM (px_Hq hb_B) (px_g2 hb_AB) hb_A Wc hb_Cs 40 hb_zs 302 hb_cuts 27484 (hb_cs 751 hb_RA hb_FA) rel k ss i = true := ⟨hb_Wc13, hb_rl13, 0, [], hb_sb_hb_Wc13, fun j hj => match j, hj with
    | 0, _ => hb_t28_0
    | j + 1, hj => absurd hj (by simp only [List.length_cons, List.length_nil]; omega)⟩
theorem hb_cu29 : ∃ (Wc : sy_Wr) (rel : sy_Wr) (k : Nat) (ss : List Nat), sy_sbW Wc hb_LW = true ∧ ∀ i, i ≤ ss.length → sy_ckT hb_cl hb_lt hb_P (hb_P ++ [hb_m302]) hb_GM (px_Hq hb_B) (px_g2 hb_AB) hb_A Wc hb_Cs 40 hb_zs 302 hb_cuts 27484 (hb_cs 751 hb_RB hb_FB) rel k ss i = true := ⟨hb_Wc13, hb_rl13, 0, [], hb_sb_hb_Wc13, fun j hj => match j, hj with
    | 0, _ => hb_t29_0
    | j + 1, hj => absurd hj (by simp only [List.length_cons, List.length_nil]; omega)⟩
theorem hb_cu30 : ∃ (Wc : sy_Wr) (rel : sy_Wr) (k : Nat) (ss : List Nat), sy_sbW Wc hb_LW = true ∧ ∀ i, i ≤ ss.length → sy_ckT hb_cl hb_lt hb_P (hb_P ++ [hb_m302]) hb_GM (px_Hq hb_B) (px_g2 hb_AB) hb_A Wc hb_Cs 40 hb_zs 302 hb_cuts 27484 (hb_cs 774 hb_RA hb_FA) rel k ss i = true := ⟨hb_Wc14, hb_rl14, 0, [], hb_sb_hb_Wc14, fun j hj => match j, hj with
    | 0, _ => hb_t30_0
    | j + 1, hj => absurd hj (by simp only [List.length_cons, List.length_nil]; omega)⟩
theorem hb_cu31 : ∃ (Wc : sy_Wr) (rel : sy_Wr) (k : Nat) (ss : List Nat), sy_sbW Wc hb_LW = true ∧ ∀ i, i ≤ ss.length → sy_ckT hb_cl hb_lt hb_P (hb_P ++ [hb_m302]) hb_GM (px_Hq hb_B) (px_g2 hb_AB) hb_A Wc hb_Cs 40 hb_zs 302 hb_cuts 27484 (hb_cs 774 hb_RB hb_FB) rel k ss i = true := ⟨hb_Wc14, hb_rl14, 0, [], hb_sb_hb_Wc14, fun j hj => match j, hj with
    | 0, _ => hb_t31_0
    | j + 1, hj => absurd hj (by simp only [List.length_cons, List.length_nil]; omega)⟩
theorem hb_cu32 : ∃ (Wc : sy_Wr) (rel : sy_Wr) (k : Nat) (ss : List Nat), sy_sbW Wc hb_LW = true ∧ ∀ i, i ≤ ss.length → sy_ckT hb_cl hb_lt hb_P (hb_P ++ [hb_m302]) hb_GM (px_Hq hb_B) (px_g2 hb_AB) hb_A Wc hb_Cs 40 hb_zs 302 hb_cuts 27484 (hb_cs 787 hb_RA hb_FA) rel k ss i = true := ⟨hb_Wc15, hb_rl15, 0, [], hb_sb_hb_Wc15, fun j hj => match j, hj with
    | 0, _ => hb_t32_0
    | j + 1, hj => absurd hj (by simp only [List.length_cons, List.length_nil]; omega)⟩
theorem hb_cu33 : ∃ (Wc : sy_Wr) (rel : sy_Wr) (k : Nat) (ss : List Nat), sy_sbW Wc hb_LW = true ∧ ∀ i, i ≤ ss.length → sy_ckT hb_cl hb_lt hb_P (hb_P ++ [hb_m302]) hb_GM (px_Hq hb_B) (px_g2 hb_AB) hb_A Wc hb_Cs 40 hb_zs 302 hb_cuts 27484 (hb_cs 787 hb_RB hb_FB) rel k ss i = true := ⟨hb_Wc15, hb_rl15, 0, [], hb_sb_hb_Wc15, fun j hj => match j, hj with
    | 0, _ => hb_t33_0
    | j + 1, hj => absurd hj (by simp only [List.length_cons, List.length_nil]; omega)⟩
theorem hb_cu34 : ∃ (Wc : sy_Wr) (rel : sy_Wr) (k : Nat) (ss : List Nat), sy_sbW Wc hb_LW = true ∧ ∀ i, i ≤ ss.length → sy_ckT hb_cl hb_lt hb_P (hb_P ++ [hb_m302]) hb_GM (px_Hq hb_B) (px_g2 hb_AB) hb_A Wc hb_Cs 40 hb_zs 302 hb_cuts 27484 (hb_cs 800 hb_RA hb_FA) rel k ss i = true := ⟨hb_Wc0, hb_rl0, 0, [], hb_sb_hb_Wc0, fun j hj => match j, hj with
    | 0, _ => hb_t34_0
    | j + 1, hj => absurd hj (by simp only [List.length_cons, List.length_nil]; omega)⟩
theorem hb_cu35 : ∃ (Wc : sy_Wr) (rel : sy_Wr) (k : Nat) (ss : List Nat), sy_sbW Wc hb_LW = true ∧ ∀ i, i ≤ ss.length → sy_ckT hb_cl hb_lt hb_P (hb_P ++ [hb_m302]) hb_GM (px_Hq hb_B) (px_g2 hb_AB) hb_A Wc hb_Cs 40 hb_zs 302 hb_cuts 27484 (hb_cs 800 hb_RB hb_FB) rel k ss i = true := ⟨hb_Wc0, hb_rl0, 0, [], hb_sb_hb_Wc0, fun j hj => match j, hj with
    | 0, _ => hb_t35_0
    | j + 1, hj => absurd hj (by simp only [List.length_cons, List.length_nil]; omega)⟩
theorem hb_cu36 : ∃ (Wc : sy_Wr) (rel : sy_Wr) (k : Nat) (ss : List Nat), sy_sbW Wc hb_LW = true ∧ ∀ i, i ≤ ss.length → sy_ckT hb_cl hb_lt hb_P (hb_P ++ [hb_m302]) hb_GM (px_Hq hb_B) (px_g2 hb_AB) hb_A Wc hb_Cs 40 hb_zs 302 hb_cuts 27484 (hb_cs 833 hb_RA hb_FA) rel k ss i = true := ⟨hb_Wc16, hb_rl16, 0, [], hb_sb_hb_Wc16, fun j hj => match j, hj with
    | 0, _ => hb_t36_0
    | j + 1, hj => absurd hj (by simp only [List.length_cons, List.length_nil]; omega)⟩
theorem hb_cu37 : ∃ (Wc : sy_Wr) (rel : sy_Wr) (k : Nat) (ss : List Nat), sy_sbW Wc hb_LW = true ∧ ∀ i, i ≤ ss.length → sy_ckT hb_cl hb_lt hb_P (hb_P ++ [hb_m302]) hb_GM (px_Hq hb_B) (px_g2 hb_AB) hb_A Wc hb_Cs 40 hb_zs 302 hb_cuts 27484 (hb_cs 833 hb_RB hb_FB) rel k ss i = true := ⟨hb_Wc16, hb_rl16, 0, [], hb_sb_hb_Wc16, fun j hj => match j, hj with
    | 0, _ => hb_t37_0
    | j + 1, hj => absurd hj (by simp only [List.length_cons, List.length_nil]; omega)⟩
theorem hb_cu38 : ∃ (Wc : sy_Wr) (rel : sy_Wr) (k : Nat) (ss : List Nat), sy_sbW Wc hb_LW = true ∧ ∀ i, i ≤ ss.length → sy_ckT hb_cl hb_lt hb_P (hb_P ++ [hb_m302]) hb_GM (px_Hq hb_B) (px_g2 hb_AB) hb_A Wc hb_Cs 40 hb_zs 302 hb_cuts 27484 (hb_cs 876 hb_RA hb_FA) rel k ss i = true := ⟨hb_Wc13, hb_rl13, 0, [], hb_sb_hb_Wc13, fun j hj => match j, hj with
    | 0, _ => hb_t38_0
    | j + 1, hj => absurd hj (by simp only [List.length_cons, List.length_nil]; omega)⟩
theorem hb_cu39 : ∃ (Wc : sy_Wr) (rel : sy_Wr) (k : Nat) (ss : List Nat), sy_sbW Wc hb_LW = true ∧ ∀ i, i ≤ ss.length → sy_ckT hb_cl hb_lt hb_P (hb_P ++ [hb_m302]) hb_GM (px_Hq hb_B) (px_g2 hb_AB) hb_A Wc hb_Cs 40 hb_zs 302 hb_cuts 27484 (hb_cs 876 hb_RB hb_FB) rel k ss i = true := ⟨hb_Wc13, hb_rl13, 0, [], hb_sb_hb_Wc13, fun j hj => match j, hj with
    | 0, _ => hb_t39_0
    | j + 1, hj => absurd hj (by simp only [List.length_cons, List.length_nil]; omega)⟩
theorem hb_cu40 : ∃ (Wc : sy_Wr) (rel : sy_Wr) (k : Nat) (ss : List Nat), sy_sbW Wc hb_LW = true ∧ ∀ i, i ≤ ss.length → sy_ckT hb_cl hb_lt hb_P (hb_P ++ [hb_m302]) hb_GM (px_Hq hb_B) (px_g2 hb_AB) hb_A Wc hb_Cs 40 hb_zs 302 hb_cuts 27484 (hb_cs 889 hb_RA hb_FA) rel k ss i = true := ⟨hb_Wc17, hb_rl17, 0, [], hb_sb_hb_Wc17, fun j hj => match j, hj with
    | 0, _ => hb_t40_0
    | j + 1, hj => absurd hj (by simp only [List.length_cons, List.length_nil]; omega)⟩
theorem hb_cu41 : ∃ (Wc : sy_Wr) (rel : sy_Wr) (k : Nat) (ss : List Nat), sy_sbW Wc hb_LW = true ∧ ∀ i, i ≤ ss.length → sy_ckT hb_cl hb_lt hb_P (hb_P ++ [hb_m302]) hb_GM (px_Hq hb_B) (px_g2 hb_AB) hb_A Wc hb_Cs 40 hb_zs 302 hb_cuts 27484 (hb_cs 889 hb_RB hb_FB) rel k ss i = true := ⟨hb_Wc17, hb_rl17, 0, [], hb_sb_hb_Wc17, fun j hj => match j, hj with
    | 0, _ => hb_t41_0
    | j + 1, hj => absurd hj (by simp only [List.length_cons, List.length_nil]; omega)⟩
theorem hb_cu42 : ∃ (Wc : sy_Wr) (rel : sy_Wr) (k : Nat) (ss : List Nat), sy_sbW Wc hb_LW = true ∧ ∀ i, i ≤ ss.length → sy_ckT hb_cl hb_lt hb_P (hb_P ++ [hb_m302]) hb_GM (px_Hq hb_B) (px_g2 hb_AB) hb_A Wc hb_Cs 40 hb_zs 302 hb_cuts 27484 (hb_cs 932 hb_RA hb_FA) rel k ss i = true := ⟨hb_Wc18, hb_rl18, 0, [], hb_sb_hb_Wc18, fun j hj => match j, hj with
    | 0, _ => hb_t42_0
    | j + 1, hj => absurd hj (by simp only [List.length_cons, List.length_nil]; omega)⟩
theorem hb_cu43 : ∃ (Wc : sy_Wr) (rel : sy_Wr) (k : Nat) (ss : List Nat), sy_sbW Wc hb_LW = true ∧ ∀ i, i ≤ ss.length → sy_ckT hb_cl hb_lt hb_P (hb_P ++ [hb_m302]) hb_GM (px_Hq hb_B) (px_g2 hb_AB) hb_A Wc hb_Cs 40 hb_zs 302 hb_cuts 27484 (hb_cs 932 hb_RB hb_FB) rel k ss i = true := ⟨hb_Wc18, hb_rl18, 0, [], hb_sb_hb_Wc18, fun j hj => match j, hj with
    | 0, _ => hb_t43_0
    | j + 1, hj => absurd hj (by simp only [List.length_cons, List.length_nil]; omega)⟩
theorem hb_cu44 : ∃ (Wc : sy_Wr) (rel : sy_Wr) (k : Nat) (ss : List Nat), sy_sbW Wc hb_LW = true ∧ ∀ i, i ≤ ss.length → sy_ckT hb_cl hb_lt hb_P (hb_P ++ [hb_m302]) hb_GM (px_Hq hb_B) (px_g2 hb_AB) hb_A Wc hb_Cs 40 hb_zs 302 hb_cuts 27484 (hb_cs 985 hb_RA hb_FA) rel k ss i = true := ⟨hb_Wc19, hb_rl19, 0, [], hb_sb_hb_Wc19, fun j hj => match j, hj with
    | 0, _ => hb_t44_0
    | j + 1, hj => absurd hj (by simp only [List.length_cons, List.length_nil]; omega)⟩
theorem hb_cu45 : ∃ (Wc : sy_Wr) (rel : sy_Wr) (k : Nat) (ss : List Nat), sy_sbW Wc hb_LW = true ∧ ∀ i, i ≤ ss.length → sy_ckT hb_cl hb_lt hb_P (hb_P ++ [hb_m302]) hb_GM (px_Hq hb_B) (px_g2 hb_AB) hb_A Wc hb_Cs 40 hb_zs 302 hb_cuts 27484 (hb_cs 985 hb_RB hb_FB) rel k ss i = true := ⟨hb_Wc19, hb_rl19, 0, [], hb_sb_hb_Wc19, fun j hj => match j, hj with
    | 0, _ => hb_t45_0
    | j + 1, hj => absurd hj (by simp only [List.length_cons, List.length_nil]; omega)⟩
theorem hb_cu46 : ∃ (Wc : sy_Wr) (rel : sy_Wr) (k : Nat) (ss : List Nat), sy_sbW Wc hb_LW = true ∧ ∀ i, i ≤ ss.length → sy_ckT hb_cl hb_lt hb_P (hb_P ++ [hb_m302]) hb_GM (px_Hq hb_B) (px_g2 hb_AB) hb_A Wc hb_Cs 40 hb_zs 302 hb_cuts 27484 (hb_cs 1008 hb_RA hb_FA) rel k ss i = true := ⟨hb_Wc20, hb_rl20, 0, [], hb_sb_hb_Wc20, fun j hj => match j, hj with
    | 0, _ => hb_t46_0
    | j + 1, hj => absurd hj (by simp only [List.length_cons, List.length_nil]; omega)⟩
theorem hb_cu47 : ∃ (Wc : sy_Wr) (rel : sy_Wr) (k : Nat) (ss : List Nat), sy_sbW Wc hb_LW = true ∧ ∀ i, i ≤ ss.length → sy_ckT hb_cl hb_lt hb_P (hb_P ++ [hb_m302]) hb_GM (px_Hq hb_B) (px_g2 hb_AB) hb_A Wc hb_Cs 40 hb_zs 302 hb_cuts 27484 (hb_cs 1008 hb_RB hb_FB) rel k ss i = true := ⟨hb_Wc20, hb_rl20, 0, [], hb_sb_hb_Wc20, fun j hj => match j, hj with
    | 0, _ => hb_t47_0
    | j + 1, hj => absurd hj (by simp only [List.length_cons, List.length_nil]; omega)⟩
theorem hb_cu48 : ∃ (Wc : sy_Wr) (rel : sy_Wr) (k : Nat) (ss : List Nat), sy_sbW Wc hb_LW = true ∧ ∀ i, i ≤ ss.length → sy_ckT hb_cl hb_lt hb_P (hb_P ++ [hb_m302]) hb_GM (px_Hq hb_B) (px_g2 hb_AB) hb_A Wc hb_Cs 40 hb_zs 302 hb_cuts 27484 (hb_cs 1031 hb_RA hb_FA) rel k ss i = true := ⟨hb_Wc0, hb_rl0, 0, [], hb_sb_hb_Wc0, fun j hj => match j, hj with
    | 0, _ => hb_t48_0
    | j + 1, hj => absurd hj (by simp only [List.length_cons, List.length_nil]; omega)⟩
theorem hb_cu49 : ∃ (Wc : sy_Wr) (rel : sy_Wr) (k : Nat) (ss : List Nat), sy_sbW Wc hb_LW = true ∧ ∀ i, i ≤ ss.length → sy_ckT hb_cl hb_lt hb_P (hb_P ++ [hb_m302]) hb_GM (px_Hq hb_B) (px_g2 hb_AB) hb_A Wc hb_Cs 40 hb_zs 302 hb_cuts 27484 (hb_cs 1031 hb_RB hb_FB) rel k ss i = true := ⟨hb_Wc0, hb_rl0, 0, [], hb_sb_hb_Wc0, fun j hj => match j, hj with
    | 0, _ => hb_t49_0
    | j + 1, hj => absurd hj (by simp only [List.length_cons, List.length_nil]; omega)⟩
theorem hb_cu50 : ∃ (Wc : sy_Wr) (rel : sy_Wr) (k : Nat) (ss : List Nat), sy_sbW Wc hb_LW = true ∧ ∀ i, i ≤ ss.length → sy_ckT hb_cl hb_lt hb_P (hb_P ++ [hb_m302]) hb_GM (px_Hq hb_B) (px_g2 hb_AB) hb_A Wc hb_Cs 40 hb_zs 302 hb_cuts 27484 (hb_cs 1054 hb_RA hb_FA) rel k ss i = true := ⟨hb_Wc0, hb_rl0, 0, [], hb_sb_hb_Wc0, fun j hj => match j, hj with
    | 0, _ => hb_t50_0
    | j + 1, hj => absurd hj (by simp only [List.length_cons, List.length_nil]; omega)⟩
theorem hb_cu51 : ∃ (Wc : sy_Wr) (rel : sy_Wr) (k : Nat) (ss : List Nat), sy_sbW Wc hb_LW = true ∧ ∀ i, i ≤ ss.length → sy_ckT hb_cl hb_lt hb_P (hb_P ++ [hb_m302]) hb_GM (px_Hq hb_B) (px_g2 hb_AB) hb_A Wc hb_Cs 40 hb_zs 302 hb_cuts 27484 (hb_cs 1054 hb_RB hb_FB) rel k ss i = true := ⟨hb_Wc0, hb_rl0, 0, [], hb_sb_hb_Wc0, fun j hj => match j, hj with
    | 0, _ => hb_t51_0
    | j + 1, hj => absurd hj (by simp only [List.length_cons, List.length_nil]; omega)⟩
theorem hb_cu52 : ∃ (Wc : sy_Wr) (rel : sy_Wr) (k : Nat) (ss : List Nat), sy_sbW Wc hb_LW = true ∧ ∀ i, i ≤ ss.length → sy_ckT hb_cl hb_lt hb_P (hb_P ++ [hb_m302]) hb_GM (px_Hq hb_B) (px_g2 hb_AB) hb_A Wc hb_Cs 40 hb_zs 302 hb_cuts 27484 (hb_cs 1077 hb_RA hb_FA) rel k ss i = true := ⟨hb_Wc21, hb_rl21, 0, [], hb_sb_hb_Wc21, fun j hj => match j, hj with
    | 0, _ => hb_t52_0
    | j + 1, hj => absurd hj (by simp only [List.length_cons, List.length_nil]; omega)⟩
theorem hb_cu53 : ∃ (Wc : sy_Wr) (rel : sy_Wr) (k : Nat) (ss : List Nat), sy_sbW Wc hb_LW = true ∧ ∀ i, i ≤ ss.length → sy_ckT hb_cl hb_lt hb_P (hb_P ++ [hb_m302]) hb_GM (px_Hq hb_B) (px_g2 hb_AB) hb_A Wc hb_Cs 40 hb_zs 302 hb_cuts 27484 (hb_cs 1077 hb_RB hb_FB) rel k ss i = true := ⟨hb_Wc21, hb_rl21, 0, [], hb_sb_hb_Wc21, fun j hj => match j, hj with
    | 0, _ => hb_t53_0
    | j + 1, hj => absurd hj (by simp only [List.length_cons, List.length_nil]; omega)⟩
theorem hb_cu54 : ∃ (Wc : sy_Wr) (rel : sy_Wr) (k : Nat) (ss : List Nat), sy_sbW Wc hb_LW = true ∧ ∀ i, i ≤ ss.length → sy_ckT hb_cl hb_lt hb_P (hb_P ++ [hb_m302]) hb_GM (px_Hq hb_B) (px_g2 hb_AB) hb_A Wc hb_Cs 40 hb_zs 302 hb_cuts 27484 (hb_cs 1120 hb_RA hb_FA) rel k ss i = true := ⟨hb_Wc0, hb_rl0, 0, [], hb_sb_hb_Wc0, fun j hj => match j, hj with
    | 0, _ => hb_t54_0
    | j + 1, hj => absurd hj (by simp only [List.length_cons, List.length_nil]; omega)⟩
theorem hb_cu55 : ∃ (Wc : sy_Wr) (rel : sy_Wr) (k : Nat) (ss : List Nat), sy_sbW Wc hb_LW = true ∧ ∀ i, i ≤ ss.length → sy_ckT hb_cl hb_lt hb_P (hb_P ++ [hb_m302]) hb_GM (px_Hq hb_B) (px_g2 hb_AB) hb_A Wc hb_Cs 40 hb_zs 302 hb_cuts 27484 (hb_cs 1120 hb_RB hb_FB) rel k ss i = true := ⟨hb_Wc0, hb_rl0, 0, [], hb_sb_hb_Wc0, fun j hj => match j, hj with
    | 0, _ => hb_t55_0
    | j + 1, hj => absurd hj (by simp only [List.length_cons, List.length_nil]; omega)⟩
theorem hb_cu56 : ∃ (Wc : sy_Wr) (rel : sy_Wr) (k : Nat) (ss : List Nat), sy_sbW Wc hb_LW = true ∧ ∀ i, i ≤ ss.length → sy_ckT hb_cl hb_lt hb_P (hb_P ++ [hb_m302]) hb_GM (px_Hq hb_B) (px_g2 hb_AB) hb_A Wc hb_Cs 40 hb_zs 302 hb_cuts 27484 (hb_cs 1143 hb_RA hb_FA) rel k ss i = true := ⟨hb_Wc0, hb_rl0, 0, [], hb_sb_hb_Wc0, fun j hj => match j, hj with
    | 0, _ => hb_t56_0
    | j + 1, hj => absurd hj (by simp only [List.length_cons, List.length_nil]; omega)⟩
theorem hb_cu57 : ∃ (Wc : sy_Wr) (rel : sy_Wr) (k : Nat) (ss : List Nat), sy_sbW Wc hb_LW = true ∧ ∀ i, i ≤ ss.length → sy_ckT hb_cl hb_lt hb_P (hb_P ++ [hb_m302]) hb_GM (px_Hq hb_B) (px_g2 hb_AB) hb_A Wc hb_Cs 40 hb_zs 302 hb_cuts 27484 (hb_cs 1143 hb_RB hb_FB) rel k ss i = true := ⟨hb_Wc0, hb_rl0, 0, [], hb_sb_hb_Wc0, fun j hj => match j, hj with
    | 0, _ => hb_t57_0
    | j + 1, hj => absurd hj (by simp only [List.length_cons, List.length_nil]; omega)⟩
theorem hb_cu58 : ∃ (Wc : sy_Wr) (rel : sy_Wr) (k : Nat) (ss : List Nat), sy_sbW Wc hb_LW = true ∧ ∀ i, i ≤ ss.length → sy_ckT hb_cl hb_lt hb_P (hb_P ++ [hb_m302]) hb_GM (px_Hq hb_B) (px_g2 hb_AB) hb_A Wc hb_Cs 40 hb_zs 302 hb_cuts 27484 (hb_cs 1166 hb_RA hb_FA) rel k ss i = true := ⟨hb_Wc22, hb_rl22, 0, [], hb_sb_hb_Wc22, fun j hj => match j, hj with
    | 0, _ => hb_t58_0
    | j + 1, hj => absurd hj (by simp only [List.length_cons, List.length_nil]; omega)⟩
theorem hb_cu59 : ∃ (Wc : sy_Wr) (rel : sy_Wr) (k : Nat) (ss : List Nat), sy_sbW Wc hb_LW = true ∧ ∀ i, i ≤ ss.length → sy_ckT hb_cl hb_lt hb_P (hb_P ++ [hb_m302]) hb_GM (px_Hq hb_B) (px_g2 hb_AB) hb_A Wc hb_Cs 40 hb_zs 302 hb_cuts 27484 (hb_cs 1166 hb_RB hb_FB) rel k ss i = true := ⟨hb_Wc22, hb_rl22, 0, [], hb_sb_hb_Wc22, fun j hj => match j, hj with
    | 0, _ => hb_t59_0
    | j + 1, hj => absurd hj (by simp only [List.length_cons, List.length_nil]; omega)⟩
theorem hb_cu60 : ∃ (Wc : sy_Wr) (rel : sy_Wr) (k : Nat) (ss : List Nat), sy_sbW Wc hb_LW = true ∧ ∀ i, i ≤ ss.length → sy_ckT hb_cl hb_lt hb_P (hb_P ++ [hb_m302]) hb_GM (px_Hq hb_B) (px_g2 hb_AB) hb_A Wc hb_Cs 40 hb_zs 302 hb_cuts 27484 (hb_cs 1199 hb_RA hb_FA) rel k ss i = true := ⟨hb_Wc0, hb_rl0, 0, [], hb_sb_hb_Wc0, fun j hj => match j, hj with
    | 0, _ => hb_t60_0
    | j + 1, hj => absurd hj (by simp only [List.length_cons, List.length_nil]; omega)⟩
theorem hb_cu61 : ∃ (Wc : sy_Wr) (rel : sy_Wr) (k : Nat) (ss : List Nat), sy_sbW Wc hb_LW = true ∧ ∀ i, i ≤ ss.length → sy_ckT hb_cl hb_lt hb_P (hb_P ++ [hb_m302]) hb_GM (px_Hq hb_B) (px_g2 hb_AB) hb_A Wc hb_Cs 40 hb_zs 302 hb_cuts 27484 (hb_cs 1199 hb_RB hb_FB) rel k ss i = true := ⟨hb_Wc0, hb_rl0, 0, [], hb_sb_hb_Wc0, fun j hj => match j, hj with
    | 0, _ => hb_t61_0
    | j + 1, hj => absurd hj (by simp only [List.length_cons, List.length_nil]; omega)⟩
theorem hb_cu62 : ∃ (Wc : sy_Wr) (rel : sy_Wr) (k : Nat) (ss : List Nat), sy_sbW Wc hb_LW = true ∧ ∀ i, i ≤ ss.length → sy_ckT hb_cl hb_lt hb_P (hb_P ++ [hb_m302]) hb_GM (px_Hq hb_B) (px_g2 hb_AB) hb_A Wc hb_Cs 40 hb_zs 302 hb_cuts 27484 (hb_cs 1222 hb_RA hb_FA) rel k ss i = true := ⟨hb_Wc23, hb_rl23, 0, [], hb_sb_hb_Wc23, fun j hj => match j, hj with
    | 0, _ => hb_t62_0
    | j + 1, hj => absurd hj (by simp only [List.length_cons, List.length_nil]; omega)⟩
theorem hb_cu63 : ∃ (Wc : sy_Wr) (rel : sy_Wr) (k : Nat) (ss : List Nat), sy_sbW Wc hb_LW = true ∧ ∀ i, i ≤ ss.length → sy_ckT hb_cl hb_lt hb_P (hb_P ++ [hb_m302]) hb_GM (px_Hq hb_B) (px_g2 hb_AB) hb_A Wc hb_Cs 40 hb_zs 302 hb_cuts 27484 (hb_cs 1222 hb_RB hb_FB) rel k ss i = true := ⟨hb_Wc23, hb_rl23, 0, [], hb_sb_hb_Wc23, fun j hj => match j, hj with
    | 0, _ => hb_t63_0
    | j + 1, hj => absurd hj (by simp only [List.length_cons, List.length_nil]; omega)⟩
theorem hb_cu64 : ∃ (Wc : sy_Wr) (rel : sy_Wr) (k : Nat) (ss : List Nat), sy_sbW Wc hb_LW = true ∧ ∀ i, i ≤ ss.length → sy_ckT hb_cl hb_lt hb_P (hb_P ++ [hb_m302]) hb_GM (px_Hq hb_B) (px_g2 hb_AB) hb_A Wc hb_Cs 40 hb_zs 302 hb_cuts 27484 (hb_cs 1245 hb_RA hb_FA) rel k ss i = true := ⟨hb_Wc24, hb_rl24, 0, [], hb_sb_hb_Wc24, fun j hj => match j, hj with
    | 0, _ => hb_t64_0
    | j + 1, hj => absurd hj (by simp only [List.length_cons, List.length_nil]; omega)⟩
theorem hb_cu65 : ∃ (Wc : sy_Wr) (rel : sy_Wr) (k : Nat) (ss : List Nat), sy_sbW Wc hb_LW = true ∧ ∀ i, i ≤ ss.length → sy_ckT hb_cl hb_lt hb_P (hb_P ++ [hb_m302]) hb_GM (px_Hq hb_B) (px_g2 hb_AB) hb_A Wc hb_Cs 40 hb_zs 302 hb_cuts 27484 (hb_cs 1245 hb_RB hb_FB) rel k ss i = true := ⟨hb_Wc24, hb_rl24, 0, [], hb_sb_hb_Wc24, fun j hj => match j, hj with
    | 0, _ => hb_t65_0
    | j + 1, hj => absurd hj (by simp only [List.length_cons, List.length_nil]; omega)⟩
theorem hb_cu66 : ∃ (Wc : sy_Wr) (rel : sy_Wr) (k : Nat) (ss : List Nat), sy_sbW Wc hb_LW = true ∧ ∀ i, i ≤ ss.length → sy_ckT hb_cl hb_lt hb_P (hb_P ++ [hb_m302]) hb_GM (px_Hq hb_B) (px_g2 hb_AB) hb_A Wc hb_Cs 40 hb_zs 302 hb_cuts 27484 (hb_cs 1268 hb_RA hb_FA) rel k ss i = true := ⟨hb_Wc0, hb_rl0, 0, [], hb_sb_hb_Wc0, fun j hj => match j, hj with
    | 0, _ => hb_t66_0
    | j + 1, hj => absurd hj (by simp only [List.length_cons, List.length_nil]; omega)⟩
theorem hb_cu67 : ∃ (Wc : sy_Wr) (rel : sy_Wr) (k : Nat) (ss : List Nat), sy_sbW Wc hb_LW = true ∧ ∀ i, i ≤ ss.length → sy_ckT hb_cl hb_lt hb_P (hb_P ++ [hb_m302]) hb_GM (px_Hq hb_B) (px_g2 hb_AB) hb_A Wc hb_Cs 40 hb_zs 302 hb_cuts 27484 (hb_cs 1268 hb_RB hb_FB) rel k ss i = true := ⟨hb_Wc0, hb_rl0, 0, [], hb_sb_hb_Wc0, fun j hj => match j, hj with
    | 0, _ => hb_t67_0
    | j + 1, hj => absurd hj (by simp only [List.length_cons, List.length_nil]; omega)⟩
theorem hb_cu68 : ∃ (Wc : sy_Wr) (rel : sy_Wr) (k : Nat) (ss : List Nat), sy_sbW Wc hb_LW = true ∧ ∀ i, i ≤ ss.length → sy_ckT hb_cl hb_lt hb_P (hb_P ++ [hb_m302]) hb_GM (px_Hq hb_B) (px_g2 hb_AB) hb_A Wc hb_Cs 40 hb_zs 302 hb_cuts 27484 (hb_cs 1291 hb_RA hb_FA) rel k ss i = true := ⟨hb_Wc25, hb_rl25, 0, [], hb_sb_hb_Wc25, fun j hj => match j, hj with
    | 0, _ => hb_t68_0
    | j + 1, hj => absurd hj (by simp only [List.length_cons, List.length_nil]; omega)⟩
theorem hb_cu69 : ∃ (Wc : sy_Wr) (rel : sy_Wr) (k : Nat) (ss : List Nat), sy_sbW Wc hb_LW = true ∧ ∀ i, i ≤ ss.length → sy_ckT hb_cl hb_lt hb_P (hb_P ++ [hb_m302]) hb_GM (px_Hq hb_B) (px_g2 hb_AB) hb_A Wc hb_Cs 40 hb_zs 302 hb_cuts 27484 (hb_cs 1291 hb_RB hb_FB) rel k ss i = true := ⟨hb_Wc25, hb_rl25, 0, [], hb_sb_hb_Wc25, fun j hj => match j, hj with
    | 0, _ => hb_t69_0
    | j + 1, hj => absurd hj (by simp only [List.length_cons, List.length_nil]; omega)⟩
theorem hb_cu70 : ∃ (Wc : sy_Wr) (rel : sy_Wr) (k : Nat) (ss : List Nat), sy_sbW Wc hb_LW = true ∧ ∀ i, i ≤ ss.length → sy_ckT hb_cl hb_lt hb_P (hb_P ++ [hb_m302]) hb_GM (px_Hq hb_B) (px_g2 hb_AB) hb_A Wc hb_Cs 40 hb_zs 302 hb_cuts 27484 (hb_cs 1354 hb_RA hb_FA) rel k ss i = true := ⟨hb_Wc26, hb_rl26, 0, [], hb_sb_hb_Wc26, fun j hj => match j, hj with
    | 0, _ => hb_t70_0
    | j + 1, hj => absurd hj (by simp only [List.length_cons, List.length_nil]; omega)⟩
theorem hb_cu71 : ∃ (Wc : sy_Wr) (rel : sy_Wr) (k : Nat) (ss : List Nat), sy_sbW Wc hb_LW = true ∧ ∀ i, i ≤ ss.length → sy_ckT hb_cl hb_lt hb_P (hb_P ++ [hb_m302]) hb_GM (px_Hq hb_B) (px_g2 hb_AB) hb_A Wc hb_Cs 40 hb_zs 302 hb_cuts 27484 (hb_cs 1354 hb_RB hb_FB) rel k ss i = true := ⟨hb_Wc26, hb_rl26, 0, [], hb_sb_hb_Wc26, fun j hj => match j, hj with
    | 0, _ => hb_t71_0
    | j + 1, hj => absurd hj (by simp only [List.length_cons, List.length_nil]; omega)⟩
theorem hb_cu72 : ∃ (Wc : sy_Wr) (rel : sy_Wr) (k : Nat) (ss : List Nat), sy_sbW Wc hb_LW = true ∧ ∀ i, i ≤ ss.length → sy_ckT hb_cl hb_lt hb_P (hb_P ++ [hb_m302]) hb_GM (px_Hq hb_B) (px_g2 hb_AB) hb_A Wc hb_Cs 40 hb_zs 302 hb_cuts 27484 (hb_cs 1367 hb_RA hb_FA) rel k ss i = true := ⟨hb_Wc27, hb_rl27, 0, [], hb_sb_hb_Wc27, fun j hj => match j, hj with
    | 0, _ => hb_t72_0
    | j + 1, hj => absurd hj (by simp only [List.length_cons, List.length_nil]; omega)⟩
theorem hb_cu73 : ∃ (Wc : sy_Wr) (rel : sy_Wr) (k : Nat) (ss : List Nat), sy_sbW Wc hb_LW = true ∧ ∀ i, i ≤ ss.length → sy_ckT hb_cl hb_lt hb_P (hb_P ++ [hb_m302]) hb_GM (px_Hq hb_B) (px_g2 hb_AB) hb_A Wc hb_Cs 40 hb_zs 302 hb_cuts 27484 (hb_cs 1367 hb_RB hb_FB) rel k ss i = true := ⟨hb_Wc27, hb_rl27, 0, [], hb_sb_hb_Wc27, fun j hj => match j, hj with
    | 0, _ => hb_t73_0
    | j + 1, hj => absurd hj (by simp only [List.length_cons, List.length_nil]; omega)⟩
theorem hb_cu74 : ∃ (Wc : sy_Wr) (rel : sy_Wr) (k : Nat) (ss : List Nat), sy_sbW Wc hb_LW = true ∧ ∀ i, i ≤ ss.length → sy_ckT hb_cl hb_lt hb_P (hb_P ++ [hb_m302]) hb_GM (px_Hq hb_B) (px_g2 hb_AB) hb_A Wc hb_Cs 40 hb_zs 302 hb_cuts 27484 (hb_cs 1400 hb_RA hb_FA) rel k ss i = true := ⟨hb_Wc27, hb_rl27, 0, [], hb_sb_hb_Wc27, fun j hj => match j, hj with
    | 0, _ => hb_t74_0
    | j + 1, hj => absurd hj (by simp only [List.length_cons, List.length_nil]; omega)⟩
theorem hb_cu75 : ∃ (Wc : sy_Wr) (rel : sy_Wr) (k : Nat) (ss : List Nat), sy_sbW Wc hb_LW = true ∧ ∀ i, i ≤ ss.length → sy_ckT hb_cl hb_lt hb_P (hb_P ++ [hb_m302]) hb_GM (px_Hq hb_B) (px_g2 hb_AB) hb_A Wc hb_Cs 40 hb_zs 302 hb_cuts 27484 (hb_cs 1400 hb_RB hb_FB) rel k ss i = true := ⟨hb_Wc27, hb_rl27, 0, [], hb_sb_hb_Wc27, fun j hj => match j, hj with
    | 0, _ => hb_t75_0
    | j + 1, hj => absurd hj (by simp only [List.length_cons, List.length_nil]; omega)⟩
theorem hb_cu76 : ∃ (Wc : sy_Wr) (rel : sy_Wr) (k : Nat) (ss : List Nat), sy_sbW Wc hb_LW = true ∧ ∀ i, i ≤ ss.length → sy_ckT hb_cl hb_lt hb_P (hb_P ++ [hb_m302]) hb_GM (px_Hq hb_B) (px_g2 hb_AB) hb_A Wc hb_Cs 40 hb_zs 302 hb_cuts 27484 (hb_cs 1423 hb_RA hb_FA) rel k ss i = true := ⟨hb_Wc27, hb_rl27, 0, [], hb_sb_hb_Wc27, fun j hj => match j, hj with
    | 0, _ => hb_t76_0
    | j + 1, hj => absurd hj (by simp only [List.length_cons, List.length_nil]; omega)⟩
theorem hb_cu77 : ∃ (Wc : sy_Wr) (rel : sy_Wr) (k : Nat) (ss : List Nat), sy_sbW Wc hb_LW = true ∧ ∀ i, i ≤ ss.length → sy_ckT hb_cl hb_lt hb_P (hb_P ++ [hb_m302]) hb_GM (px_Hq hb_B) (px_g2 hb_AB) hb_A Wc hb_Cs 40 hb_zs 302 hb_cuts 27484 (hb_cs 1423 hb_RB hb_FB) rel k ss i = true := ⟨hb_Wc27, hb_rl27, 0, [], hb_sb_hb_Wc27, fun j hj => match j, hj with
    | 0, _ => hb_t77_0
    | j + 1, hj => absurd hj (by simp only [List.length_cons, List.length_nil]; omega)⟩
theorem hb_cu78 : ∃ (Wc : sy_Wr) (rel : sy_Wr) (k : Nat) (ss : List Nat), sy_sbW Wc hb_LW = true ∧ ∀ i, i ≤ ss.length → sy_ckT hb_cl hb_lt hb_P (hb_P ++ [hb_m302]) hb_GM (px_Hq hb_B) (px_g2 hb_AB) hb_A Wc hb_Cs 40 hb_zs 302 hb_cuts 27484 (hb_cs 1456 hb_RA hb_FA) rel k ss i = true := ⟨hb_Wc28, hb_rl28, 0, [], hb_sb_hb_Wc28, fun j hj => match j, hj with
    | 0, _ => hb_t78_0
    | j + 1, hj => absurd hj (by simp only [List.length_cons, List.length_nil]; omega)⟩
theorem hb_cu79 : ∃ (Wc : sy_Wr) (rel : sy_Wr) (k : Nat) (ss : List Nat), sy_sbW Wc hb_LW = true ∧ ∀ i, i ≤ ss.length → sy_ckT hb_cl hb_lt hb_P (hb_P ++ [hb_m302]) hb_GM (px_Hq hb_B) (px_g2 hb_AB) hb_A Wc hb_Cs 40 hb_zs 302 hb_cuts 27484 (hb_cs 1456 hb_RB hb_FB) rel k ss i = true := ⟨hb_Wc28, hb_rl28, 0, [], hb_sb_hb_Wc28, fun j hj => match j, hj with
    | 0, _ => hb_t79_0
    | j + 1, hj => absurd hj (by simp only [List.length_cons, List.length_nil]; omega)⟩
theorem hb_cu80 : ∃ (Wc : sy_Wr) (rel : sy_Wr) (k : Nat) (ss : List Nat), sy_sbW Wc hb_LW = true ∧ ∀ i, i ≤ ss.length → sy_ckT hb_cl hb_lt hb_P (hb_P ++ [hb_m302]) hb_GM (px_Hq hb_B) (px_g2 hb_AB) hb_A Wc hb_Cs 40 hb_zs 302 hb_cuts 27484 (hb_cs 1489 hb_RA hb_FA) rel k ss i = true := ⟨hb_Wc29, hb_rl29, 0, [], hb_sb_hb_Wc29, fun j hj => match j, hj with
    | 0, _ => hb_t80_0
    | j + 1, hj => absurd hj (by simp only [List.length_cons, List.length_nil]; omega)⟩
theorem hb_cu81 : ∃ (Wc : sy_Wr) (rel : sy_Wr) (k : Nat) (ss : List Nat), sy_sbW Wc hb_LW = true ∧ ∀ i, i ≤ ss.length → sy_ckT hb_cl hb_lt hb_P (hb_P ++ [hb_m302]) hb_GM (px_Hq hb_B) (px_g2 hb_AB) hb_A Wc hb_Cs 40 hb_zs 302 hb_cuts 27484 (hb_cs 1489 hb_RB hb_FB) rel k ss i = true := ⟨hb_Wc29, hb_rl29, 0, [], hb_sb_hb_Wc29, fun j hj => match j, hj with
    | 0, _ => hb_t81_0
    | j + 1, hj => absurd hj (by simp only [List.length_cons, List.length_nil]; omega)⟩
theorem hb_cu82 : ∃ (Wc : sy_Wr) (rel : sy_Wr) (k : Nat) (ss : List Nat), sy_sbW Wc hb_LW = true ∧ ∀ i, i ≤ ss.length → sy_ckT hb_cl hb_lt hb_P (hb_P ++ [hb_m302]) hb_GM (px_Hq hb_B) (px_g2 hb_AB) hb_A Wc hb_Cs 40 hb_zs 302 hb_cuts 27484 (hb_cs 1522 hb_RA hb_FA) rel k ss i = true := ⟨hb_Wc30, hb_rl30, 0, [], hb_sb_hb_Wc30, fun j hj => match j, hj with
    | 0, _ => hb_t82_0
    | j + 1, hj => absurd hj (by simp only [List.length_cons, List.length_nil]; omega)⟩
theorem hb_cu83 : ∃ (Wc : sy_Wr) (rel : sy_Wr) (k : Nat) (ss : List Nat), sy_sbW Wc hb_LW = true ∧ ∀ i, i ≤ ss.length → sy_ckT hb_cl hb_lt hb_P (hb_P ++ [hb_m302]) hb_GM (px_Hq hb_B) (px_g2 hb_AB) hb_A Wc hb_Cs 40 hb_zs 302 hb_cuts 27484 (hb_cs 1522 hb_RB hb_FB) rel k ss i = true := ⟨hb_Wc30, hb_rl30, 0, [], hb_sb_hb_Wc30, fun j hj => match j, hj with
    | 0, _ => hb_t83_0
    | j + 1, hj => absurd hj (by simp only [List.length_cons, List.length_nil]; omega)⟩
theorem hb_cu84 : ∃ (Wc : sy_Wr) (rel : sy_Wr) (k : Nat) (ss : List Nat), sy_sbW Wc hb_LW = true ∧ ∀ i, i ≤ ss.length → sy_ckT hb_cl hb_lt hb_P (hb_P ++ [hb_m302]) hb_GM (px_Hq hb_B) (px_g2 hb_AB) hb_A Wc hb_Cs 40 hb_zs 302 hb_cuts 27484 (hb_cs 1555 hb_RA hb_FA) rel k ss i = true := ⟨hb_Wc31, hb_rl31, 0, [], hb_sb_hb_Wc31, fun j hj => match j, hj with
    | 0, _ => hb_t84_0
    | j + 1, hj => absurd hj (by simp only [List.length_cons, List.length_nil]; omega)⟩
theorem hb_cu85 : ∃ (Wc : sy_Wr) (rel : sy_Wr) (k : Nat) (ss : List Nat), sy_sbW Wc hb_LW = true ∧ ∀ i, i ≤ ss.length → sy_ckT hb_cl hb_lt hb_P (hb_P ++ [hb_m302]) hb_GM (px_Hq hb_B) (px_g2 hb_AB) hb_A Wc hb_Cs 40 hb_zs 302 hb_cuts 27484 (hb_cs 1555 hb_RB hb_FB) rel k ss i = true := ⟨hb_Wc31, hb_rl31, 0, [], hb_sb_hb_Wc31, fun j hj => match j, hj with
    | 0, _ => hb_t85_0
    | j + 1, hj => absurd hj (by simp only [List.length_cons, List.length_nil]; omega)⟩
theorem hb_cu86 : ∃ (Wc : sy_Wr) (rel : sy_Wr) (k : Nat) (ss : List Nat), sy_sbW Wc hb_LW = true ∧ ∀ i, i ≤ ss.length → sy_ckT hb_cl hb_lt hb_P (hb_P ++ [hb_m302]) hb_GM (px_Hq hb_B) (px_g2 hb_AB) hb_A Wc hb_Cs 40 hb_zs 302 hb_cuts 27484 (hb_cs 1598 hb_RA hb_FA) rel k ss i = true := ⟨hb_Wc32, hb_rl32, 0, [], hb_sb_hb_Wc32, fun j hj => match j, hj with
    | 0, _ => hb_t86_0
    | j + 1, hj => absurd hj (by simp only [List.length_cons, List.length_nil]; omega)⟩
theorem hb_cu87 : ∃ (Wc : sy_Wr) (rel : sy_Wr) (k : Nat) (ss : List Nat), sy_sbW Wc hb_LW = true ∧ ∀ i, i ≤ ss.length → sy_ckT hb_cl hb_lt hb_P (hb_P ++ [hb_m302]) hb_GM (px_Hq hb_B) (px_g2 hb_AB) hb_A Wc hb_Cs 40 hb_zs 302 hb_cuts 27484 (hb_cs 1598 hb_RB hb_FB) rel k ss i = true := ⟨hb_Wc32, hb_rl32, 0, [], hb_sb_hb_Wc32, fun j hj => match j, hj with
    | 0, _ => hb_t87_0
    | j + 1, hj => absurd hj (by simp only [List.length_cons, List.length_nil]; omega)⟩
theorem hb_cu88 : ∃ (Wc : sy_Wr) (rel : sy_Wr) (k : Nat) (ss : List Nat), sy_sbW Wc hb_LW = true ∧ ∀ i, i ≤ ss.length → sy_ckT hb_cl hb_lt hb_P (hb_P ++ [hb_m302]) hb_GM (px_Hq hb_B) (px_g2 hb_AB) hb_A Wc hb_Cs 40 hb_zs 302 hb_cuts 27484 (hb_cs 1641 hb_RA hb_FA) rel k ss i = true := ⟨hb_Wc0, hb_rl0, 0, [], hb_sb_hb_Wc0, fun j hj => match j, hj with
    | 0, _ => hb_t88_0
    | j + 1, hj => absurd hj (by simp only [List.length_cons, List.length_nil]; omega)⟩
theorem hb_cu89 : ∃ (Wc : sy_Wr) (rel : sy_Wr) (k : Nat) (ss : List Nat), sy_sbW Wc hb_LW = true ∧ ∀ i, i ≤ ss.length → sy_ckT hb_cl hb_lt hb_P (hb_P ++ [hb_m302]) hb_GM (px_Hq hb_B) (px_g2 hb_AB) hb_A Wc hb_Cs 40 hb_zs 302 hb_cuts 27484 (hb_cs 1641 hb_RB hb_FB) rel k ss i = true := ⟨hb_Wc0, hb_rl0, 0, [], hb_sb_hb_Wc0, fun j hj => match j, hj with
    | 0, _ => hb_t89_0
    | j + 1, hj => absurd hj (by simp only [List.length_cons, List.length_nil]; omega)⟩
theorem hb_cu90 : ∃ (Wc : sy_Wr) (rel : sy_Wr) (k : Nat) (ss : List Nat), sy_sbW Wc hb_LW = true ∧ ∀ i, i ≤ ss.length → sy_ckT hb_cl hb_lt hb_P (hb_P ++ [hb_m302]) hb_GM (px_Hq hb_B) (px_g2 hb_AB) hb_A Wc hb_Cs 40 hb_zs 302 hb_cuts 27484 (hb_cs 1684 hb_RA hb_FA) rel k ss i = true := ⟨hb_Wc7, hb_rl7, 0, [], hb_sb_hb_Wc7, fun j hj => match j, hj with
    | 0, _ => hb_t90_0
    | j + 1, hj => absurd hj (by simp only [List.length_cons, List.length_nil]; omega)⟩
theorem hb_cu91 : ∃ (Wc : sy_Wr) (rel : sy_Wr) (k : Nat) (ss : List Nat), sy_sbW Wc hb_LW = true ∧ ∀ i, i ≤ ss.length → sy_ckT hb_cl hb_lt hb_P (hb_P ++ [hb_m302]) hb_GM (px_Hq hb_B) (px_g2 hb_AB) hb_A Wc hb_Cs 40 hb_zs 302 hb_cuts 27484 (hb_cs 1684 hb_RB hb_FB) rel k ss i = true := ⟨hb_Wc7, hb_rl7, 0, [], hb_sb_hb_Wc7, fun j hj => match j, hj with
    | 0, _ => hb_t91_0
    | j + 1, hj => absurd hj (by simp only [List.length_cons, List.length_nil]; omega)⟩
theorem hb_cu92 : ∃ (Wc : sy_Wr) (rel : sy_Wr) (k : Nat) (ss : List Nat), sy_sbW Wc hb_LW = true ∧ ∀ i, i ≤ ss.length → sy_ckT hb_cl hb_lt hb_P (hb_P ++ [hb_m302]) hb_GM (px_Hq hb_B) (px_g2 hb_AB) hb_A Wc hb_Cs 40 hb_zs 302 hb_cuts 27484 (hb_cs 1747 hb_RA hb_FA) rel k ss i = true := ⟨hb_Wc33, hb_rl33, 28, [4], hb_sb_hb_Wc33, fun j hj => match j, hj with
    | 0, _ => hb_t92_0
    | 1, _ => hb_t92_1
    | j + 2, hj => absurd hj (by simp only [List.length_cons, List.length_nil]; omega)⟩
theorem hb_cu93 : ∃ (Wc : sy_Wr) (rel : sy_Wr) (k : Nat) (ss : List Nat), sy_sbW Wc hb_LW = true ∧ ∀ i, i ≤ ss.length → sy_ckT hb_cl hb_lt hb_P (hb_P ++ [hb_m302]) hb_GM (px_Hq hb_B) (px_g2 hb_AB) hb_A Wc hb_Cs 40 hb_zs 302 hb_cuts 27484 (hb_cs 1747 hb_RB hb_FB) rel k ss i = true := ⟨hb_Wc33, hb_rl33, 28, [4], hb_sb_hb_Wc33, fun j hj => match j, hj with
    | 0, _ => hb_t93_0
    | 1, _ => hb_t93_1
    | j + 2, hj => absurd hj (by simp only [List.length_cons, List.length_nil]; omega)⟩
theorem hb_cu94 : ∃ (Wc : sy_Wr) (rel : sy_Wr) (k : Nat) (ss : List Nat), sy_sbW Wc hb_LW = true ∧ ∀ i, i ≤ ss.length → sy_ckT hb_cl hb_lt hb_P (hb_P ++ [hb_m302]) hb_GM (px_Hq hb_B) (px_g2 hb_AB) hb_A Wc hb_Cs 40 hb_zs 302 hb_cuts 27484 (hb_cs 1790 hb_RA hb_FA) rel k ss i = true := ⟨hb_Wc0, hb_rl0, 0, [], hb_sb_hb_Wc0, fun j hj => match j, hj with
    | 0, _ => hb_t94_0
    | j + 1, hj => absurd hj (by simp only [List.length_cons, List.length_nil]; omega)⟩
theorem hb_cu95 : ∃ (Wc : sy_Wr) (rel : sy_Wr) (k : Nat) (ss : List Nat), sy_sbW Wc hb_LW = true ∧ ∀ i, i ≤ ss.length → sy_ckT hb_cl hb_lt hb_P (hb_P ++ [hb_m302]) hb_GM (px_Hq hb_B) (px_g2 hb_AB) hb_A Wc hb_Cs 40 hb_zs 302 hb_cuts 27484 (hb_cs 1790 hb_RB hb_FB) rel k ss i = true := ⟨hb_Wc0, hb_rl0, 0, [], hb_sb_hb_Wc0, fun j hj => match j, hj with
    | 0, _ => hb_t95_0
    | j + 1, hj => absurd hj (by simp only [List.length_cons, List.length_nil]; omega)⟩
theorem hb_cu96 : ∃ (Wc : sy_Wr) (rel : sy_Wr) (k : Nat) (ss : List Nat), sy_sbW Wc hb_LW = true ∧ ∀ i, i ≤ ss.length → sy_ckT hb_cl hb_lt hb_P (hb_P ++ [hb_m302]) hb_GM (px_Hq hb_B) (px_g2 hb_AB) hb_A Wc hb_Cs 40 hb_zs 302 hb_cuts 27484 (hb_cs 1823 hb_RA hb_FA) rel k ss i = true := ⟨hb_Wc34, hb_rl34, 104, [7, 2, 2, 2], hb_sb_hb_Wc34, fun j hj => match j, hj with
    | 0, _ => hb_t96_0
    | 1, _ => hb_t96_1
    | 2, _ => hb_t96_2
    | 3, _ => hb_t96_3
    | 4, _ => hb_t96_4
    | j + 5, hj => absurd hj (by simp only [List.length_cons, List.length_nil]; omega)⟩
theorem hb_cu97 : ∃ (Wc : sy_Wr) (rel : sy_Wr) (k : Nat) (ss : List Nat), sy_sbW Wc hb_LW = true ∧ ∀ i, i ≤ ss.length → sy_ckT hb_cl hb_lt hb_P (hb_P ++ [hb_m302]) hb_GM (px_Hq hb_B) (px_g2 hb_AB) hb_A Wc hb_Cs 40 hb_zs 302 hb_cuts 27484 (hb_cs 1823 hb_RB hb_FB) rel k ss i = true := ⟨hb_Wc34, hb_rl34, 104, [7, 2, 2, 2], hb_sb_hb_Wc34, fun j hj => match j, hj with
    | 0, _ => hb_t97_0
    | 1, _ => hb_t97_1
    | 2, _ => hb_t97_2
    | 3, _ => hb_t97_3
    | 4, _ => hb_t97_4
    | j + 5, hj => absurd hj (by simp only [List.length_cons, List.length_nil]; omega)⟩
theorem hb_cu98 : ∃ (Wc : sy_Wr) (rel : sy_Wr) (k : Nat) (ss : List Nat), sy_sbW Wc hb_LW = true ∧ ∀ i, i ≤ ss.length → sy_ckT hb_cl hb_lt hb_P (hb_P ++ [hb_m302]) hb_GM (px_Hq hb_B) (px_g2 hb_AB) hb_A Wc hb_Cs 40 hb_zs 302 hb_cuts 27484 (hb_cs 1866 hb_RA hb_FA) rel k ss i = true := ⟨hb_Wc0, hb_rl0, 0, [], hb_sb_hb_Wc0, fun j hj => match j, hj with
    | 0, _ => hb_t98_0
    | j + 1, hj => absurd hj (by simp only [List.length_cons, List.length_nil]; omega)⟩
theorem hb_cu99 : ∃ (Wc : sy_Wr) (rel : sy_Wr) (k : Nat) (ss : List Nat), sy_sbW Wc hb_LW = true ∧ ∀ i, i ≤ ss.length → sy_ckT hb_cl hb_lt hb_P (hb_P ++ [hb_m302]) hb_GM (px_Hq hb_B) (px_g2 hb_AB) hb_A Wc hb_Cs 40 hb_zs 302 hb_cuts 27484 (hb_cs 1866 hb_RB hb_FB) rel k ss i = true := ⟨hb_Wc0, hb_rl0, 0, [], hb_sb_hb_Wc0, fun j hj => match j, hj with
    | 0, _ => hb_t99_0
    | j + 1, hj => absurd hj (by simp only [List.length_cons, List.length_nil]; omega)⟩
theorem hb_cu100 : ∃ (Wc : sy_Wr) (rel : sy_Wr) (k : Nat) (ss : List Nat), sy_sbW Wc hb_LW = true ∧ ∀ i, i ≤ ss.length → sy_ckT hb_cl hb_lt hb_P (hb_P ++ [hb_m302]) hb_GM (px_Hq hb_B) (px_g2 hb_AB) hb_A Wc hb_Cs 40 hb_zs 302 hb_cuts 27484 (hb_cs 1889 hb_RA hb_FA) rel k ss i = true := ⟨hb_Wc0, hb_rl0, 0, [], hb_sb_hb_Wc0, fun j hj => match j, hj with
    | 0, _ => hb_t100_0
    | j + 1, hj => absurd hj (by simp only [List.length_cons, List.length_nil]; omega)⟩
theorem hb_cu101 : ∃ (Wc : sy_Wr) (rel : sy_Wr) (k : Nat) (ss : List Nat), sy_sbW Wc hb_LW = true ∧ ∀ i, i ≤ ss.length → sy_ckT hb_cl hb_lt hb_P (hb_P ++ [hb_m302]) hb_GM (px_Hq hb_B) (px_g2 hb_AB) hb_A Wc hb_Cs 40 hb_zs 302 hb_cuts 27484 (hb_cs 1889 hb_RB hb_FB) rel k ss i = true := ⟨hb_Wc0, hb_rl0, 0, [], hb_sb_hb_Wc0, fun j hj => match j, hj with
    | 0, _ => hb_t101_0
    | j + 1, hj => absurd hj (by simp only [List.length_cons, List.length_nil]; omega)⟩
theorem hb_cu102 : ∃ (Wc : sy_Wr) (rel : sy_Wr) (k : Nat) (ss : List Nat), sy_sbW Wc hb_LW = true ∧ ∀ i, i ≤ ss.length → sy_ckT hb_cl hb_lt hb_P (hb_P ++ [hb_m302]) hb_GM (px_Hq hb_B) (px_g2 hb_AB) hb_A Wc hb_Cs 40 hb_zs 302 hb_cuts 27484 (hb_cs 1912 hb_RA hb_FA) rel k ss i = true := ⟨hb_Wc35, hb_rl35, 0, [], hb_sb_hb_Wc35, fun j hj => match j, hj with
    | 0, _ => hb_t102_0
    | j + 1, hj => absurd hj (by simp only [List.length_cons, List.length_nil]; omega)⟩
theorem hb_cu103 : ∃ (Wc : sy_Wr) (rel : sy_Wr) (k : Nat) (ss : List Nat), sy_sbW Wc hb_LW = true ∧ ∀ i, i ≤ ss.length → sy_ckT hb_cl hb_lt hb_P (hb_P ++ [hb_m302]) hb_GM (px_Hq hb_B) (px_g2 hb_AB) hb_A Wc hb_Cs 40 hb_zs 302 hb_cuts 27484 (hb_cs 1912 hb_RB hb_FB) rel k ss i = true := ⟨hb_Wc35, hb_rl35, 0, [], hb_sb_hb_Wc35, fun j hj => match j, hj with
    | 0, _ => hb_t103_0
    | j + 1, hj => absurd hj (by simp only [List.length_cons, List.length_nil]; omega)⟩
theorem hb_cu104 : ∃ (Wc : sy_Wr) (rel : sy_Wr) (k : Nat) (ss : List Nat), sy_sbW Wc hb_LW = true ∧ ∀ i, i ≤ ss.length → sy_ckT hb_cl hb_lt hb_P (hb_P ++ [hb_m302]) hb_GM (px_Hq hb_B) (px_g2 hb_AB) hb_A Wc hb_Cs 40 hb_zs 302 hb_cuts 27484 (hb_cs 1925 hb_RA hb_FA) rel k ss i = true := ⟨hb_Wc0, hb_rl36, 0, [], hb_sb_hb_Wc0, fun j hj => match j, hj with
    | 0, _ => hb_t104_0
    | j + 1, hj => absurd hj (by simp only [List.length_cons, List.length_nil]; omega)⟩
theorem hb_cu105 : ∃ (Wc : sy_Wr) (rel : sy_Wr) (k : Nat) (ss : List Nat), sy_sbW Wc hb_LW = true ∧ ∀ i, i ≤ ss.length → sy_ckT hb_cl hb_lt hb_P (hb_P ++ [hb_m302]) hb_GM (px_Hq hb_B) (px_g2 hb_AB) hb_A Wc hb_Cs 40 hb_zs 302 hb_cuts 27484 (hb_cs 1925 hb_RB hb_FB) rel k ss i = true := ⟨hb_Wc36, hb_rl37, 0, [], hb_sb_hb_Wc36, fun j hj => match j, hj with
    | 0, _ => hb_t105_0
    | j + 1, hj => absurd hj (by simp only [List.length_cons, List.length_nil]; omega)⟩
theorem hb_tall : ∀ c ∈ hb_cuts, ∃ (Wc : sy_Wr) (rel : sy_Wr) (k : Nat) (ss : List Nat), sy_sbW Wc hb_LW = true ∧ ∀ i, i ≤ ss.length → sy_ckT hb_cl hb_lt hb_P (hb_P ++ [hb_m302]) hb_GM (px_Hq hb_B) (px_g2 hb_AB) hb_A Wc hb_Cs 40 hb_zs 302 hb_cuts 27484 c rel k ss i = true := List.forall_mem_cons.mpr ⟨hb_cu0, List.forall_mem_cons.mpr ⟨hb_cu1, List.forall_mem_cons.mpr ⟨hb_cu2, List.forall_mem_cons.mpr ⟨hb_cu3, List.forall_mem_cons.mpr ⟨hb_cu4, List.forall_mem_cons.mpr ⟨hb_cu5, List.forall_mem_cons.mpr ⟨hb_cu6, List.forall_mem_cons.mpr ⟨hb_cu7, List.forall_mem_cons.mpr ⟨hb_cu8, List.forall_mem_cons.mpr ⟨hb_cu9, List.forall_mem_cons.mpr ⟨hb_cu10, List.forall_mem_cons.mpr ⟨hb_cu11, List.forall_mem_cons.mpr ⟨hb_cu12, List.forall_mem_cons.mpr ⟨hb_cu13, List.forall_mem_cons.mpr ⟨hb_cu14, List.forall_mem_cons.mpr ⟨hb_cu15, List.forall_mem_cons.mpr ⟨hb_cu16, List.forall_mem_cons.mpr ⟨hb_cu17, List.forall_mem_cons.mpr ⟨hb_cu18, List.forall_mem_cons.mpr ⟨hb_cu19, List.forall_mem_cons.mpr ⟨hb_cu20, List.forall_mem_cons.mpr ⟨hb_cu21, List.forall_mem_cons.mpr ⟨hb_cu22, List.forall_mem_cons.mpr ⟨hb_cu23, List.forall_mem_cons.mpr ⟨hb_cu24, List.forall_mem_cons.mpr ⟨hb_cu25, List.forall_mem_cons.mpr ⟨hb_cu26, List.forall_mem_cons.mpr ⟨hb_cu27, List.forall_mem_cons.mpr ⟨hb_cu28, List.forall_mem_cons.mpr ⟨hb_cu29, List.forall_mem_cons.mpr ⟨hb_cu30, List.forall_mem_cons.mpr ⟨hb_cu31, List.forall_mem_cons.mpr ⟨hb_cu32, List.forall_mem_cons.mpr ⟨hb_cu33, List.forall_mem_cons.mpr ⟨hb_cu34, List.forall_mem_cons.mpr ⟨hb_cu35, List.forall_mem_cons.mpr ⟨hb_cu36, List.forall_mem_cons.mpr ⟨hb_cu37, List.forall_mem_cons.mpr ⟨hb_cu38, List.forall_mem_cons.mpr ⟨hb_cu39, List.forall_mem_cons.mpr ⟨hb_cu40, List.forall_mem_cons.mpr ⟨hb_cu41, List.forall_mem_cons.mpr ⟨hb_cu42, List.forall_mem_cons.mpr ⟨hb_cu43, List.forall_mem_cons.mpr ⟨hb_cu44, List.forall_mem_cons.mpr ⟨hb_cu45, List.forall_mem_cons.mpr ⟨hb_cu46, List.forall_mem_cons.mpr ⟨hb_cu47, List.forall_mem_cons.mpr ⟨hb_cu48, List.forall_mem_cons.mpr ⟨hb_cu49, List.forall_mem_cons.mpr ⟨hb_cu50, List.forall_mem_cons.mpr ⟨hb_cu51, List.forall_mem_cons.mpr ⟨hb_cu52, List.forall_mem_cons.mpr ⟨hb_cu53, List.forall_mem_cons.mpr ⟨hb_cu54, List.forall_mem_cons.mpr ⟨hb_cu55, List.forall_mem_cons.mpr ⟨hb_cu56, List.forall_mem_cons.mpr ⟨hb_cu57, List.forall_mem_cons.mpr ⟨hb_cu58, List.forall_mem_cons.mpr ⟨hb_cu59, List.forall_mem_cons.mpr ⟨hb_cu60, List.forall_mem_cons.mpr ⟨hb_cu61, List.forall_mem_cons.mpr ⟨hb_cu62, List.forall_mem_cons.mpr ⟨hb_cu63, List.forall_mem_cons.mpr ⟨hb_cu64, List.forall_mem_cons.mpr ⟨hb_cu65, List.forall_mem_cons.mpr ⟨hb_cu66, List.forall_mem_cons.mpr ⟨hb_cu67, List.forall_mem_cons.mpr ⟨hb_cu68, List.forall_mem_cons.mpr ⟨hb_cu69, List.forall_mem_cons.mpr ⟨hb_cu70, List.forall_mem_cons.mpr ⟨hb_cu71, List.forall_mem_cons.mpr ⟨hb_cu72, List.forall_mem_cons.mpr ⟨hb_cu73, List.forall_mem_cons.mpr ⟨hb_cu74, List.forall_mem_cons.mpr ⟨hb_cu75, List.forall_mem_cons.mpr ⟨hb_cu76, List.forall_mem_cons.mpr ⟨hb_cu77, List.forall_mem_cons.mpr ⟨hb_cu78, List.forall_mem_cons.mpr ⟨hb_cu79, List.forall_mem_cons.mpr ⟨hb_cu80, List.forall_mem_cons.mpr ⟨hb_cu81, List.forall_mem_cons.mpr ⟨hb_cu82, List.forall_mem_cons.mpr ⟨hb_cu83, List.forall_mem_cons.mpr ⟨hb_cu84, List.forall_mem_cons.mpr ⟨hb_cu85, List.forall_mem_cons.mpr ⟨hb_cu86, List.forall_mem_cons.mpr ⟨hb_cu87, List.forall_mem_cons.mpr ⟨hb_cu88, List.forall_mem_cons.mpr ⟨hb_cu89, List.forall_mem_cons.mpr ⟨hb_cu90, List.forall_mem_cons.mpr ⟨hb_cu91, List.forall_mem_cons.mpr ⟨hb_cu92, List.forall_mem_cons.mpr ⟨hb_cu93, List.forall_mem_cons.mpr ⟨hb_cu94, List.forall_mem_cons.mpr ⟨hb_cu95, List.forall_mem_cons.mpr ⟨hb_cu96, List.forall_mem_cons.mpr ⟨hb_cu97, List.forall_mem_cons.mpr ⟨hb_cu98, List.forall_mem_cons.mpr ⟨hb_cu99, List.forall_mem_cons.mpr ⟨hb_cu100, List.forall_mem_cons.mpr ⟨hb_cu101, List.forall_mem_cons.mpr ⟨hb_cu102, List.forall_mem_cons.mpr ⟨hb_cu103, List.forall_mem_cons.mpr ⟨hb_cu104, List.forall_mem_cons.mpr ⟨hb_cu105, fun _ h => absurd h List.not_mem_nil⟩⟩⟩⟩⟩⟩⟩⟩⟩⟩⟩⟩⟩⟩⟩⟩⟩⟩⟩⟩⟩⟩⟩⟩⟩⟩⟩⟩⟩⟩⟩⟩⟩⟩⟩⟩⟩⟩⟩⟩⟩⟩⟩⟩⟩⟩⟩⟩⟩⟩⟩⟩⟩⟩⟩⟩⟩⟩⟩⟩⟩⟩⟩⟩⟩⟩⟩⟩⟩⟩⟩⟩⟩⟩⟩⟩⟩⟩⟩⟩⟩⟩⟩⟩⟩⟩⟩⟩⟩⟩⟩⟩⟩⟩⟩⟩⟩⟩⟩⟩⟩⟩⟩⟩⟩⟩
theorem hb_whole (xs : List Int32) (hlen : xs.length ≤ 3072) : ∃ (n : Nat) (r : Option Value × px_W × (Nat × Nat)), px_exec hb_cl hb_lt hb_P n 40 (some xs) hb_m302 0 [(0, .ref 0)] [] [] (600000, 7302250) = some r ∧ r.1 = some (.int 1) := hb_run 27484 hb_Cs_ok (by decide) List.mem_cons_self hb_tall xs hlen

end

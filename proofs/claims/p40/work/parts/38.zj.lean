noncomputable section
/-! RULES: the words of the class -/
theorem ew_chk {n : Nat} {w w1 : px_W} {v : Option Value} {x l : Nat} (hx : x < l) (hl : l < 100) (h : ec_E hb_X n 299 0 [(0, .inl (x : Int)), (1, .inl (l : Int))] [] w (v, w1)) : w = w1 ∧ ec_W hb_A w1 ∧ v = none := by
  obtain ⟨_, u, w2, a1, a2⟩ := eg299_0_0 h
  have k := eg301_0_0 a1
  have t0 : ec_tw 0 = 0 := rfl
  rw [t0, ec_twn (n := x) (by omega), ec_twn (n := l) (by omega)] at k
  obtain ⟨_, hr, hW⟩ := k (by omega) (by omega)
  injection hr with e1 e2
  rw [e2] at a2
  obtain ⟨_, hr2, hW2⟩ := eg299_8_0 (a2 _ e1 hW)
  injection hr2 with e3 e4
  rw [e4]
  exact ⟨rfl, hW2, e3⟩
theorem ew_len1 {n : Nat} {w w1 : px_W} {v : Option Value} (h : ec_E hb_X n 295 0 [(0, .inr (.inl 1))] [] w (v, w1)) : w = w1 ∧ ec_W hb_A w1 ∧ v = ec_R 2 := by
  obtain ⟨_, u, w2, a1, a2⟩ := eg295_t1_0_0 h
  obtain ⟨_, hr, hW⟩ := eg297_t1_0_0 a1 (by decide)
  injection hr with e1 e2
  rw [e2] at a2
  obtain ⟨_, hr2, hW2⟩ := eg295_t1_9_0 (a2 _ e1 hW)
  injection hr2 with e3 e4
  rw [e4]
  exact ⟨rfl, hW2, e3.trans (by decide +kernel)⟩
theorem ew_lt1 : ∀ x : Nat, x < 2 → ec_ch (ec_and (((hb_lt.getD 0 []).getD x 0).toInt) 255) = ([105, 102] : List Int).getD x 0 := by decide +kernel
theorem ew_chr1 {n x : Nat} {w w1 : px_W} {v : Option Value} (hx : x < 2) (h : ec_E hb_X n 296 0 [(0, .inr (.inl 1)), (1, .inl (x : Int))] [] w (v, w1)) : w = w1 ∧ ec_W hb_A w1 ∧ v = ec_R (([105, 102] : List Int).getD x 0) := by
  obtain ⟨_, u, w2, a1, a2⟩ := eg296_t1_0_0 h
  obtain ⟨_, hr, hW⟩ := eg298_t1_0_0 a1 (by decide) rfl
  injection hr with e1 e2
  rw [e2] at a2
  obtain ⟨_, u3, w3, a3, a4⟩ := eg296_t1_4_0 (a2 _ e1 hW) (by decide)
  obtain ⟨_, u4, w4, a5, a6⟩ := eg300_t1_0_0 a3
  obtain ⟨i5, W5, e5⟩ := ew_chk (x := x) (l := 2) hx (by decide) a5
  rw [← i5] at a6 W5
  obtain ⟨_, hr6, hW6⟩ := eg300_t1_6_0 (a6 e5 W5)
  rw [ec_twn (n := x) (by omega), Int.toNat_natCast, ew_lt1 x hx] at hr6
  injection hr6 with e7 e8
  rw [e8] at a4
  obtain ⟨_, hr9, hW9⟩ := eg296_t1_15_0 (a4 _ e7 hW6)
  injection hr9 with e9 e10
  rw [e10]
  exact ⟨rfl, hW9, e9⟩
theorem ew_isl1 {N i : Nat} {t : Nat → Int} (hN : N ≤ 200) (hi : i + 2 ≤ N) : ∀ (c n x : Nat) (w : px_W) (r : Option Value × px_W), x + c = 2 → ec_fd w 137 0 = (N : Int) → (∀ y, y < N → ef_a w 138 y = t y) → (∀ y, y < x → t (i + y) = ([105, 102] : List Int).getD y 0) → ec_E hb_X n 60 2 [(0, .inr (.inl 201)), (1, .inr (.inl 1)), (2, .inl (i : Int)), (3, .inl (x : Int))] [] w r → r = (ec_R (if er_bs t i (i + 2) = [105, 102] then 1 else 0), w) ∧ ec_W hb_A w := by
  intro c
  induction c with
  | zero =>
    intro n x w r hx h0 ht hy h
    have ex : x = 2 := by omega
    rw [ex] at h hy
    obtain ⟨_, u, w1, a1, a2⟩ := eg60_137_t1_2_0 h
    obtain ⟨i1, W1, e1⟩ := ew_len1 a1
    rw [← i1] at a2 W1
    obtain ⟨_, hr, hW⟩ := eg60_137_t1_7_0 (a2 _ e1 W1) (Int.le_refl _)
    have q0 : er_bs t i (i + 2) = [105, 102] := (er_bs_is (l := [105, 102])).mpr hy
    rw [if_pos q0]
    exact ⟨hr, hW⟩
  | succ c ih =>
    intro n x w r hx h0 ht hy h
    obtain ⟨_, u, w1, a1, a2⟩ := eg60_137_t1_2_0 h
    obtain ⟨i1, W1, e1⟩ := ew_len1 a1
    rw [← i1] at a2 W1
    have l := eg60_137_t1_7_2 (a2 _ e1 W1)
    have tl : ec_tw 2 = 2 := rfl
    have es : (i : Int) + (x : Int) = ((i + x : Nat) : Int) := rfl
    rw [tl, h0, es, ec_twn (n := x) (by omega), ec_twn (n := i + x) (by omega), ec_twn (n := N) (by omega), ef_rd w 138 (i + x), ht (i + x) (by omega)] at l
    obtain ⟨_, u2, w2, a3, a4⟩ := l (by omega) (by omega)
    obtain ⟨i2, W2, e2⟩ := ew_chr1 (x := x) (by omega) a3
    rw [← i2] at a4 W2
    have a5 := a4 _ e2 W2
    have ti : ec_tw (t (i + x)) = t (i + x) := by
      rw [← ht (i + x) (by omega)]
      exact ef_tw _ _ _
    have tc : ∀ y : Nat, y < 2 → ec_tw (([105, 102] : List Int).getD y 0) = ([105, 102] : List Int).getD y 0 := by decide +kernel
    have b0 := eg60_137_t1_33_0 a5
    have b1 := eg60_137_t1_33_1 a5
    rw [ti, tc x (by omega)] at b0 b1
    by_cases q : t (i + x) = ([105, 102] : List Int).getD x 0
    · exact ih n (x + 1) w r (by omega) h0 ht (fun y hy' => by
        by_cases e : y = x
        · rw [e]
          exact q
        · exact hy y (by omega)) (b0 q).2
    · obtain ⟨_, hr, hW⟩ := b1 q
      have q0 : ¬ er_bs t i (i + 2) = [105, 102] := fun e => q ((er_bs_is (l := [105, 102])).mp e x (by show x < 2; omega))
      rw [if_neg q0]
      exact ⟨hr, hW⟩
theorem ew_is1 {N i e n : Nat} {t : Nat → Int} {w w1 : px_W} {v : Option Value} (hN : N ≤ 200) (he : e ≤ N) (hie : e = i + 2) (h0 : ec_fd w 137 0 = (N : Int)) (ht : ∀ y, y < N → ef_a w 138 y = t y) (h : ec_E hb_X n 60 0 [(0, .inr (.inl 201)), (1, .inr (.inl 1)), (2, .inl (i : Int))] [] w (v, w1)) : w = w1 ∧ ec_W hb_A w1 ∧ v = ec_R (if er_bs t i e = [105, 102] then 1 else 0) := by
  obtain ⟨hr, hW⟩ := ew_isl1 hN (by omega) 2 n 0 w _ (by omega) h0 ht (fun y hy => absurd hy (Nat.not_lt_zero _)) (eg60_137_t1_0_0 h).2
  injection hr with e1 e2
  rw [e2, hie]
  exact ⟨rfl, hW, e1⟩
theorem ew_len2 {n : Nat} {w w1 : px_W} {v : Option Value} (h : ec_E hb_X n 295 0 [(0, .inr (.inl 2))] [] w (v, w1)) : w = w1 ∧ ec_W hb_A w1 ∧ v = ec_R 2 := by
  obtain ⟨_, u, w2, a1, a2⟩ := eg295_t2_0_0 h
  obtain ⟨_, hr, hW⟩ := eg297_t2_0_0 a1 (by decide)
  injection hr with e1 e2
  rw [e2] at a2
  obtain ⟨_, hr2, hW2⟩ := eg295_t2_9_0 (a2 _ e1 hW)
  injection hr2 with e3 e4
  rw [e4]
  exact ⟨rfl, hW2, e3.trans (by decide +kernel)⟩
theorem ew_lt2 : ∀ x : Nat, x < 2 → ec_ch (ec_and (((hb_lt.getD 1 []).getD x 0).toInt) 255) = ([111, 114] : List Int).getD x 0 := by decide +kernel
theorem ew_chr2 {n x : Nat} {w w1 : px_W} {v : Option Value} (hx : x < 2) (h : ec_E hb_X n 296 0 [(0, .inr (.inl 2)), (1, .inl (x : Int))] [] w (v, w1)) : w = w1 ∧ ec_W hb_A w1 ∧ v = ec_R (([111, 114] : List Int).getD x 0) := by
  obtain ⟨_, u, w2, a1, a2⟩ := eg296_t2_0_0 h
  obtain ⟨_, hr, hW⟩ := eg298_t2_0_0 a1 (by decide) rfl
  injection hr with e1 e2
  rw [e2] at a2
  obtain ⟨_, u3, w3, a3, a4⟩ := eg296_t2_4_0 (a2 _ e1 hW) (by decide)
  obtain ⟨_, u4, w4, a5, a6⟩ := eg300_t2_0_0 a3
  obtain ⟨i5, W5, e5⟩ := ew_chk (x := x) (l := 2) hx (by decide) a5
  rw [← i5] at a6 W5
  obtain ⟨_, hr6, hW6⟩ := eg300_t2_6_0 (a6 e5 W5)
  rw [ec_twn (n := x) (by omega), Int.toNat_natCast, ew_lt2 x hx] at hr6
  injection hr6 with e7 e8
  rw [e8] at a4
  obtain ⟨_, hr9, hW9⟩ := eg296_t2_15_0 (a4 _ e7 hW6)
  injection hr9 with e9 e10
  rw [e10]
  exact ⟨rfl, hW9, e9⟩
theorem ew_isl2 {N i : Nat} {t : Nat → Int} (hN : N ≤ 200) (hi : i + 2 ≤ N) : ∀ (c n x : Nat) (w : px_W) (r : Option Value × px_W), x + c = 2 → ec_fd w 137 0 = (N : Int) → (∀ y, y < N → ef_a w 138 y = t y) → (∀ y, y < x → t (i + y) = ([111, 114] : List Int).getD y 0) → ec_E hb_X n 60 2 [(0, .inr (.inl 201)), (1, .inr (.inl 2)), (2, .inl (i : Int)), (3, .inl (x : Int))] [] w r → r = (ec_R (if er_bs t i (i + 2) = [111, 114] then 1 else 0), w) ∧ ec_W hb_A w := by
  intro c
  induction c with
  | zero =>
    intro n x w r hx h0 ht hy h
    have ex : x = 2 := by omega
    rw [ex] at h hy
    obtain ⟨_, u, w1, a1, a2⟩ := eg60_137_t2_2_0 h
    obtain ⟨i1, W1, e1⟩ := ew_len2 a1
    rw [← i1] at a2 W1
    obtain ⟨_, hr, hW⟩ := eg60_137_t2_7_0 (a2 _ e1 W1) (Int.le_refl _)
    have q0 : er_bs t i (i + 2) = [111, 114] := (er_bs_is (l := [111, 114])).mpr hy
    rw [if_pos q0]
    exact ⟨hr, hW⟩
  | succ c ih =>
    intro n x w r hx h0 ht hy h
    obtain ⟨_, u, w1, a1, a2⟩ := eg60_137_t2_2_0 h
    obtain ⟨i1, W1, e1⟩ := ew_len2 a1
    rw [← i1] at a2 W1
    have l := eg60_137_t2_7_2 (a2 _ e1 W1)
    have tl : ec_tw 2 = 2 := rfl
    have es : (i : Int) + (x : Int) = ((i + x : Nat) : Int) := rfl
    rw [tl, h0, es, ec_twn (n := x) (by omega), ec_twn (n := i + x) (by omega), ec_twn (n := N) (by omega), ef_rd w 138 (i + x), ht (i + x) (by omega)] at l
    obtain ⟨_, u2, w2, a3, a4⟩ := l (by omega) (by omega)
    obtain ⟨i2, W2, e2⟩ := ew_chr2 (x := x) (by omega) a3
    rw [← i2] at a4 W2
    have a5 := a4 _ e2 W2
    have ti : ec_tw (t (i + x)) = t (i + x) := by
      rw [← ht (i + x) (by omega)]
      exact ef_tw _ _ _
    have tc : ∀ y : Nat, y < 2 → ec_tw (([111, 114] : List Int).getD y 0) = ([111, 114] : List Int).getD y 0 := by decide +kernel
    have b0 := eg60_137_t2_33_0 a5
    have b1 := eg60_137_t2_33_1 a5
    rw [ti, tc x (by omega)] at b0 b1
    by_cases q : t (i + x) = ([111, 114] : List Int).getD x 0
    · exact ih n (x + 1) w r (by omega) h0 ht (fun y hy' => by
        by_cases e : y = x
        · rw [e]
          exact q
        · exact hy y (by omega)) (b0 q).2
    · obtain ⟨_, hr, hW⟩ := b1 q
      have q0 : ¬ er_bs t i (i + 2) = [111, 114] := fun e => q ((er_bs_is (l := [111, 114])).mp e x (by show x < 2; omega))
      rw [if_neg q0]
      exact ⟨hr, hW⟩
theorem ew_is2 {N i e n : Nat} {t : Nat → Int} {w w1 : px_W} {v : Option Value} (hN : N ≤ 200) (he : e ≤ N) (hie : e = i + 2) (h0 : ec_fd w 137 0 = (N : Int)) (ht : ∀ y, y < N → ef_a w 138 y = t y) (h : ec_E hb_X n 60 0 [(0, .inr (.inl 201)), (1, .inr (.inl 2)), (2, .inl (i : Int))] [] w (v, w1)) : w = w1 ∧ ec_W hb_A w1 ∧ v = ec_R (if er_bs t i e = [111, 114] then 1 else 0) := by
  obtain ⟨hr, hW⟩ := ew_isl2 hN (by omega) 2 n 0 w _ (by omega) h0 ht (fun y hy => absurd hy (Nat.not_lt_zero _)) (eg60_137_t2_0_0 h).2
  injection hr with e1 e2
  rw [e2, hie]
  exact ⟨rfl, hW, e1⟩
theorem ew_len3 {n : Nat} {w w1 : px_W} {v : Option Value} (h : ec_E hb_X n 295 0 [(0, .inr (.inl 3))] [] w (v, w1)) : w = w1 ∧ ec_W hb_A w1 ∧ v = ec_R 3 := by
  obtain ⟨_, u, w2, a1, a2⟩ := eg295_t3_0_0 h
  obtain ⟨_, hr, hW⟩ := eg297_t3_0_0 a1 (by decide)
  injection hr with e1 e2
  rw [e2] at a2
  obtain ⟨_, hr2, hW2⟩ := eg295_t3_9_0 (a2 _ e1 hW)
  injection hr2 with e3 e4
  rw [e4]
  exact ⟨rfl, hW2, e3.trans (by decide +kernel)⟩
theorem ew_lt3 : ∀ x : Nat, x < 3 → ec_ch (ec_and (((hb_lt.getD 2 []).getD x 0).toInt) 255) = ([102, 111, 114] : List Int).getD x 0 := by decide +kernel
theorem ew_chr3 {n x : Nat} {w w1 : px_W} {v : Option Value} (hx : x < 3) (h : ec_E hb_X n 296 0 [(0, .inr (.inl 3)), (1, .inl (x : Int))] [] w (v, w1)) : w = w1 ∧ ec_W hb_A w1 ∧ v = ec_R (([102, 111, 114] : List Int).getD x 0) := by
  obtain ⟨_, u, w2, a1, a2⟩ := eg296_t3_0_0 h
  obtain ⟨_, hr, hW⟩ := eg298_t3_0_0 a1 (by decide) rfl
  injection hr with e1 e2
  rw [e2] at a2
  obtain ⟨_, u3, w3, a3, a4⟩ := eg296_t3_4_0 (a2 _ e1 hW) (by decide)
  obtain ⟨_, u4, w4, a5, a6⟩ := eg300_t3_0_0 a3
  obtain ⟨i5, W5, e5⟩ := ew_chk (x := x) (l := 3) hx (by decide) a5
  rw [← i5] at a6 W5
  obtain ⟨_, hr6, hW6⟩ := eg300_t3_6_0 (a6 e5 W5)
  rw [ec_twn (n := x) (by omega), Int.toNat_natCast, ew_lt3 x hx] at hr6
  injection hr6 with e7 e8
  rw [e8] at a4
  obtain ⟨_, hr9, hW9⟩ := eg296_t3_15_0 (a4 _ e7 hW6)
  injection hr9 with e9 e10
  rw [e10]
  exact ⟨rfl, hW9, e9⟩
theorem ew_isl3 {N i : Nat} {t : Nat → Int} (hN : N ≤ 200) (hi : i + 3 ≤ N) : ∀ (c n x : Nat) (w : px_W) (r : Option Value × px_W), x + c = 3 → ec_fd w 137 0 = (N : Int) → (∀ y, y < N → ef_a w 138 y = t y) → (∀ y, y < x → t (i + y) = ([102, 111, 114] : List Int).getD y 0) → ec_E hb_X n 60 2 [(0, .inr (.inl 201)), (1, .inr (.inl 3)), (2, .inl (i : Int)), (3, .inl (x : Int))] [] w r → r = (ec_R (if er_bs t i (i + 3) = [102, 111, 114] then 1 else 0), w) ∧ ec_W hb_A w := by
  intro c
  induction c with
  | zero =>
    intro n x w r hx h0 ht hy h
    have ex : x = 3 := by omega
    rw [ex] at h hy
    obtain ⟨_, u, w1, a1, a2⟩ := eg60_137_t3_2_0 h
    obtain ⟨i1, W1, e1⟩ := ew_len3 a1
    rw [← i1] at a2 W1
    obtain ⟨_, hr, hW⟩ := eg60_137_t3_7_0 (a2 _ e1 W1) (Int.le_refl _)
    have q0 : er_bs t i (i + 3) = [102, 111, 114] := (er_bs_is (l := [102, 111, 114])).mpr hy
    rw [if_pos q0]
    exact ⟨hr, hW⟩
  | succ c ih =>
    intro n x w r hx h0 ht hy h
    obtain ⟨_, u, w1, a1, a2⟩ := eg60_137_t3_2_0 h
    obtain ⟨i1, W1, e1⟩ := ew_len3 a1
    rw [← i1] at a2 W1
    have l := eg60_137_t3_7_2 (a2 _ e1 W1)
    have tl : ec_tw 3 = 3 := rfl
    have es : (i : Int) + (x : Int) = ((i + x : Nat) : Int) := rfl
    rw [tl, h0, es, ec_twn (n := x) (by omega), ec_twn (n := i + x) (by omega), ec_twn (n := N) (by omega), ef_rd w 138 (i + x), ht (i + x) (by omega)] at l
    obtain ⟨_, u2, w2, a3, a4⟩ := l (by omega) (by omega)
    obtain ⟨i2, W2, e2⟩ := ew_chr3 (x := x) (by omega) a3
    rw [← i2] at a4 W2
    have a5 := a4 _ e2 W2
    have ti : ec_tw (t (i + x)) = t (i + x) := by
      rw [← ht (i + x) (by omega)]
      exact ef_tw _ _ _
    have tc : ∀ y : Nat, y < 3 → ec_tw (([102, 111, 114] : List Int).getD y 0) = ([102, 111, 114] : List Int).getD y 0 := by decide +kernel
    have b0 := eg60_137_t3_33_0 a5
    have b1 := eg60_137_t3_33_1 a5
    rw [ti, tc x (by omega)] at b0 b1
    by_cases q : t (i + x) = ([102, 111, 114] : List Int).getD x 0
    · exact ih n (x + 1) w r (by omega) h0 ht (fun y hy' => by
        by_cases e : y = x
        · rw [e]
          exact q
        · exact hy y (by omega)) (b0 q).2
    · obtain ⟨_, hr, hW⟩ := b1 q
      have q0 : ¬ er_bs t i (i + 3) = [102, 111, 114] := fun e => q ((er_bs_is (l := [102, 111, 114])).mp e x (by show x < 3; omega))
      rw [if_neg q0]
      exact ⟨hr, hW⟩
theorem ew_is3 {N i e n : Nat} {t : Nat → Int} {w w1 : px_W} {v : Option Value} (hN : N ≤ 200) (he : e ≤ N) (hie : e = i + 3) (h0 : ec_fd w 137 0 = (N : Int)) (ht : ∀ y, y < N → ef_a w 138 y = t y) (h : ec_E hb_X n 60 0 [(0, .inr (.inl 201)), (1, .inr (.inl 3)), (2, .inl (i : Int))] [] w (v, w1)) : w = w1 ∧ ec_W hb_A w1 ∧ v = ec_R (if er_bs t i e = [102, 111, 114] then 1 else 0) := by
  obtain ⟨hr, hW⟩ := ew_isl3 hN (by omega) 3 n 0 w _ (by omega) h0 ht (fun y hy => absurd hy (Nat.not_lt_zero _)) (eg60_137_t3_0_0 h).2
  injection hr with e1 e2
  rw [e2, hie]
  exact ⟨rfl, hW, e1⟩
theorem ew_len4 {n : Nat} {w w1 : px_W} {v : Option Value} (h : ec_E hb_X n 295 0 [(0, .inr (.inl 4))] [] w (v, w1)) : w = w1 ∧ ec_W hb_A w1 ∧ v = ec_R 3 := by
  obtain ⟨_, u, w2, a1, a2⟩ := eg295_t4_0_0 h
  obtain ⟨_, hr, hW⟩ := eg297_t4_0_0 a1 (by decide)
  injection hr with e1 e2
  rw [e2] at a2
  obtain ⟨_, hr2, hW2⟩ := eg295_t4_9_0 (a2 _ e1 hW)
  injection hr2 with e3 e4
  rw [e4]
  exact ⟨rfl, hW2, e3.trans (by decide +kernel)⟩
theorem ew_lt4 : ∀ x : Nat, x < 3 → ec_ch (ec_and (((hb_lt.getD 3 []).getD x 0).toInt) 255) = ([109, 101, 110] : List Int).getD x 0 := by decide +kernel
theorem ew_chr4 {n x : Nat} {w w1 : px_W} {v : Option Value} (hx : x < 3) (h : ec_E hb_X n 296 0 [(0, .inr (.inl 4)), (1, .inl (x : Int))] [] w (v, w1)) : w = w1 ∧ ec_W hb_A w1 ∧ v = ec_R (([109, 101, 110] : List Int).getD x 0) := by
  obtain ⟨_, u, w2, a1, a2⟩ := eg296_t4_0_0 h
  obtain ⟨_, hr, hW⟩ := eg298_t4_0_0 a1 (by decide) rfl
  injection hr with e1 e2
  rw [e2] at a2
  obtain ⟨_, u3, w3, a3, a4⟩ := eg296_t4_4_0 (a2 _ e1 hW) (by decide)
  obtain ⟨_, u4, w4, a5, a6⟩ := eg300_t4_0_0 a3
  obtain ⟨i5, W5, e5⟩ := ew_chk (x := x) (l := 3) hx (by decide) a5
  rw [← i5] at a6 W5
  obtain ⟨_, hr6, hW6⟩ := eg300_t4_6_0 (a6 e5 W5)
  rw [ec_twn (n := x) (by omega), Int.toNat_natCast, ew_lt4 x hx] at hr6
  injection hr6 with e7 e8
  rw [e8] at a4
  obtain ⟨_, hr9, hW9⟩ := eg296_t4_15_0 (a4 _ e7 hW6)
  injection hr9 with e9 e10
  rw [e10]
  exact ⟨rfl, hW9, e9⟩
theorem ew_isl4 {N i : Nat} {t : Nat → Int} (hN : N ≤ 200) (hi : i + 3 ≤ N) : ∀ (c n x : Nat) (w : px_W) (r : Option Value × px_W), x + c = 3 → ec_fd w 137 0 = (N : Int) → (∀ y, y < N → ef_a w 138 y = t y) → (∀ y, y < x → t (i + y) = ([109, 101, 110] : List Int).getD y 0) → ec_E hb_X n 60 2 [(0, .inr (.inl 201)), (1, .inr (.inl 4)), (2, .inl (i : Int)), (3, .inl (x : Int))] [] w r → r = (ec_R (if er_bs t i (i + 3) = [109, 101, 110] then 1 else 0), w) ∧ ec_W hb_A w := by
  intro c
  induction c with
  | zero =>
    intro n x w r hx h0 ht hy h
    have ex : x = 3 := by omega
    rw [ex] at h hy
    obtain ⟨_, u, w1, a1, a2⟩ := eg60_137_t4_2_0 h
    obtain ⟨i1, W1, e1⟩ := ew_len4 a1
    rw [← i1] at a2 W1
    obtain ⟨_, hr, hW⟩ := eg60_137_t4_7_0 (a2 _ e1 W1) (Int.le_refl _)
    have q0 : er_bs t i (i + 3) = [109, 101, 110] := (er_bs_is (l := [109, 101, 110])).mpr hy
    rw [if_pos q0]
    exact ⟨hr, hW⟩
  | succ c ih =>
    intro n x w r hx h0 ht hy h
    obtain ⟨_, u, w1, a1, a2⟩ := eg60_137_t4_2_0 h
    obtain ⟨i1, W1, e1⟩ := ew_len4 a1
    rw [← i1] at a2 W1
    have l := eg60_137_t4_7_2 (a2 _ e1 W1)
    have tl : ec_tw 3 = 3 := rfl
    have es : (i : Int) + (x : Int) = ((i + x : Nat) : Int) := rfl
    rw [tl, h0, es, ec_twn (n := x) (by omega), ec_twn (n := i + x) (by omega), ec_twn (n := N) (by omega), ef_rd w 138 (i + x), ht (i + x) (by omega)] at l
    obtain ⟨_, u2, w2, a3, a4⟩ := l (by omega) (by omega)
    obtain ⟨i2, W2, e2⟩ := ew_chr4 (x := x) (by omega) a3
    rw [← i2] at a4 W2
    have a5 := a4 _ e2 W2
    have ti : ec_tw (t (i + x)) = t (i + x) := by
      rw [← ht (i + x) (by omega)]
      exact ef_tw _ _ _
    have tc : ∀ y : Nat, y < 3 → ec_tw (([109, 101, 110] : List Int).getD y 0) = ([109, 101, 110] : List Int).getD y 0 := by decide +kernel
    have b0 := eg60_137_t4_33_0 a5
    have b1 := eg60_137_t4_33_1 a5
    rw [ti, tc x (by omega)] at b0 b1
    by_cases q : t (i + x) = ([109, 101, 110] : List Int).getD x 0
    · exact ih n (x + 1) w r (by omega) h0 ht (fun y hy' => by
        by_cases e : y = x
        · rw [e]
          exact q
        · exact hy y (by omega)) (b0 q).2
    · obtain ⟨_, hr, hW⟩ := b1 q
      have q0 : ¬ er_bs t i (i + 3) = [109, 101, 110] := fun e => q ((er_bs_is (l := [109, 101, 110])).mp e x (by show x < 3; omega))
      rw [if_neg q0]
      exact ⟨hr, hW⟩
theorem ew_is4 {N i e n : Nat} {t : Nat → Int} {w w1 : px_W} {v : Option Value} (hN : N ≤ 200) (he : e ≤ N) (hie : e = i + 3) (h0 : ec_fd w 137 0 = (N : Int)) (ht : ∀ y, y < N → ef_a w 138 y = t y) (h : ec_E hb_X n 60 0 [(0, .inr (.inl 201)), (1, .inr (.inl 4)), (2, .inl (i : Int))] [] w (v, w1)) : w = w1 ∧ ec_W hb_A w1 ∧ v = ec_R (if er_bs t i e = [109, 101, 110] then 1 else 0) := by
  obtain ⟨hr, hW⟩ := ew_isl4 hN (by omega) 3 n 0 w _ (by omega) h0 ht (fun y hy => absurd hy (Nat.not_lt_zero _)) (eg60_137_t4_0_0 h).2
  injection hr with e1 e2
  rw [e2, hie]
  exact ⟨rfl, hW, e1⟩
theorem ew_len5 {n : Nat} {w w1 : px_W} {v : Option Value} (h : ec_E hb_X n 295 0 [(0, .inr (.inl 5))] [] w (v, w1)) : w = w1 ∧ ec_W hb_A w1 ∧ v = ec_R 3 := by
  obtain ⟨_, u, w2, a1, a2⟩ := eg295_t5_0_0 h
  obtain ⟨_, hr, hW⟩ := eg297_t5_0_0 a1 (by decide)
  injection hr with e1 e2
  rw [e2] at a2
  obtain ⟨_, hr2, hW2⟩ := eg295_t5_9_0 (a2 _ e1 hW)
  injection hr2 with e3 e4
  rw [e4]
  exact ⟨rfl, hW2, e3.trans (by decide +kernel)⟩
theorem ew_lt5 : ∀ x : Nat, x < 3 → ec_ch (ec_and (((hb_lt.getD 4 []).getD x 0).toInt) 255) = ([97, 110, 100] : List Int).getD x 0 := by decide +kernel
theorem ew_chr5 {n x : Nat} {w w1 : px_W} {v : Option Value} (hx : x < 3) (h : ec_E hb_X n 296 0 [(0, .inr (.inl 5)), (1, .inl (x : Int))] [] w (v, w1)) : w = w1 ∧ ec_W hb_A w1 ∧ v = ec_R (([97, 110, 100] : List Int).getD x 0) := by
  obtain ⟨_, u, w2, a1, a2⟩ := eg296_t5_0_0 h
  obtain ⟨_, hr, hW⟩ := eg298_t5_0_0 a1 (by decide) rfl
  injection hr with e1 e2
  rw [e2] at a2
  obtain ⟨_, u3, w3, a3, a4⟩ := eg296_t5_4_0 (a2 _ e1 hW) (by decide)
  obtain ⟨_, u4, w4, a5, a6⟩ := eg300_t5_0_0 a3
  obtain ⟨i5, W5, e5⟩ := ew_chk (x := x) (l := 3) hx (by decide) a5
  rw [← i5] at a6 W5
  obtain ⟨_, hr6, hW6⟩ := eg300_t5_6_0 (a6 e5 W5)
  rw [ec_twn (n := x) (by omega), Int.toNat_natCast, ew_lt5 x hx] at hr6
  injection hr6 with e7 e8
  rw [e8] at a4
  obtain ⟨_, hr9, hW9⟩ := eg296_t5_15_0 (a4 _ e7 hW6)
  injection hr9 with e9 e10
  rw [e10]
  exact ⟨rfl, hW9, e9⟩
theorem ew_isl5 {N i : Nat} {t : Nat → Int} (hN : N ≤ 200) (hi : i + 3 ≤ N) : ∀ (c n x : Nat) (w : px_W) (r : Option Value × px_W), x + c = 3 → ec_fd w 137 0 = (N : Int) → (∀ y, y < N → ef_a w 138 y = t y) → (∀ y, y < x → t (i + y) = ([97, 110, 100] : List Int).getD y 0) → ec_E hb_X n 60 2 [(0, .inr (.inl 201)), (1, .inr (.inl 5)), (2, .inl (i : Int)), (3, .inl (x : Int))] [] w r → r = (ec_R (if er_bs t i (i + 3) = [97, 110, 100] then 1 else 0), w) ∧ ec_W hb_A w := by
  intro c
  induction c with
  | zero =>
    intro n x w r hx h0 ht hy h
    have ex : x = 3 := by omega
    rw [ex] at h hy
    obtain ⟨_, u, w1, a1, a2⟩ := eg60_137_t5_2_0 h
    obtain ⟨i1, W1, e1⟩ := ew_len5 a1
    rw [← i1] at a2 W1
    obtain ⟨_, hr, hW⟩ := eg60_137_t5_7_0 (a2 _ e1 W1) (Int.le_refl _)
    have q0 : er_bs t i (i + 3) = [97, 110, 100] := (er_bs_is (l := [97, 110, 100])).mpr hy
    rw [if_pos q0]
    exact ⟨hr, hW⟩
  | succ c ih =>
    intro n x w r hx h0 ht hy h
    obtain ⟨_, u, w1, a1, a2⟩ := eg60_137_t5_2_0 h
    obtain ⟨i1, W1, e1⟩ := ew_len5 a1
    rw [← i1] at a2 W1
    have l := eg60_137_t5_7_2 (a2 _ e1 W1)
    have tl : ec_tw 3 = 3 := rfl
    have es : (i : Int) + (x : Int) = ((i + x : Nat) : Int) := rfl
    rw [tl, h0, es, ec_twn (n := x) (by omega), ec_twn (n := i + x) (by omega), ec_twn (n := N) (by omega), ef_rd w 138 (i + x), ht (i + x) (by omega)] at l
    obtain ⟨_, u2, w2, a3, a4⟩ := l (by omega) (by omega)
    obtain ⟨i2, W2, e2⟩ := ew_chr5 (x := x) (by omega) a3
    rw [← i2] at a4 W2
    have a5 := a4 _ e2 W2
    have ti : ec_tw (t (i + x)) = t (i + x) := by
      rw [← ht (i + x) (by omega)]
      exact ef_tw _ _ _
    have tc : ∀ y : Nat, y < 3 → ec_tw (([97, 110, 100] : List Int).getD y 0) = ([97, 110, 100] : List Int).getD y 0 := by decide +kernel
    have b0 := eg60_137_t5_33_0 a5
    have b1 := eg60_137_t5_33_1 a5
    rw [ti, tc x (by omega)] at b0 b1
    by_cases q : t (i + x) = ([97, 110, 100] : List Int).getD x 0
    · exact ih n (x + 1) w r (by omega) h0 ht (fun y hy' => by
        by_cases e : y = x
        · rw [e]
          exact q
        · exact hy y (by omega)) (b0 q).2
    · obtain ⟨_, hr, hW⟩ := b1 q
      have q0 : ¬ er_bs t i (i + 3) = [97, 110, 100] := fun e => q ((er_bs_is (l := [97, 110, 100])).mp e x (by show x < 3; omega))
      rw [if_neg q0]
      exact ⟨hr, hW⟩
theorem ew_is5 {N i e n : Nat} {t : Nat → Int} {w w1 : px_W} {v : Option Value} (hN : N ≤ 200) (he : e ≤ N) (hie : e = i + 3) (h0 : ec_fd w 137 0 = (N : Int)) (ht : ∀ y, y < N → ef_a w 138 y = t y) (h : ec_E hb_X n 60 0 [(0, .inr (.inl 201)), (1, .inr (.inl 5)), (2, .inl (i : Int))] [] w (v, w1)) : w = w1 ∧ ec_W hb_A w1 ∧ v = ec_R (if er_bs t i e = [97, 110, 100] then 1 else 0) := by
  obtain ⟨hr, hW⟩ := ew_isl5 hN (by omega) 3 n 0 w _ (by omega) h0 ht (fun y hy => absurd hy (Nat.not_lt_zero _)) (eg60_137_t5_0_0 h).2
  injection hr with e1 e2
  rw [e2, hie]
  exact ⟨rfl, hW, e1⟩
theorem ew_len6 {n : Nat} {w w1 : px_W} {v : Option Value} (h : ec_E hb_X n 295 0 [(0, .inr (.inl 6))] [] w (v, w1)) : w = w1 ∧ ec_W hb_A w1 ∧ v = ec_R 3 := by
  obtain ⟨_, u, w2, a1, a2⟩ := eg295_t6_0_0 h
  obtain ⟨_, hr, hW⟩ := eg297_t6_0_0 a1 (by decide)
  injection hr with e1 e2
  rw [e2] at a2
  obtain ⟨_, hr2, hW2⟩ := eg295_t6_9_0 (a2 _ e1 hW)
  injection hr2 with e3 e4
  rw [e4]
  exact ⟨rfl, hW2, e3.trans (by decide +kernel)⟩
theorem ew_lt6 : ∀ x : Nat, x < 3 → ec_ch (ec_and (((hb_lt.getD 5 []).getD x 0).toInt) 255) = ([110, 111, 116] : List Int).getD x 0 := by decide +kernel
theorem ew_chr6 {n x : Nat} {w w1 : px_W} {v : Option Value} (hx : x < 3) (h : ec_E hb_X n 296 0 [(0, .inr (.inl 6)), (1, .inl (x : Int))] [] w (v, w1)) : w = w1 ∧ ec_W hb_A w1 ∧ v = ec_R (([110, 111, 116] : List Int).getD x 0) := by
  obtain ⟨_, u, w2, a1, a2⟩ := eg296_t6_0_0 h
  obtain ⟨_, hr, hW⟩ := eg298_t6_0_0 a1 (by decide) rfl
  injection hr with e1 e2
  rw [e2] at a2
  obtain ⟨_, u3, w3, a3, a4⟩ := eg296_t6_4_0 (a2 _ e1 hW) (by decide)
  obtain ⟨_, u4, w4, a5, a6⟩ := eg300_t6_0_0 a3
  obtain ⟨i5, W5, e5⟩ := ew_chk (x := x) (l := 3) hx (by decide) a5
  rw [← i5] at a6 W5
  obtain ⟨_, hr6, hW6⟩ := eg300_t6_6_0 (a6 e5 W5)
  rw [ec_twn (n := x) (by omega), Int.toNat_natCast, ew_lt6 x hx] at hr6
  injection hr6 with e7 e8
  rw [e8] at a4
  obtain ⟨_, hr9, hW9⟩ := eg296_t6_15_0 (a4 _ e7 hW6)
  injection hr9 with e9 e10
  rw [e10]
  exact ⟨rfl, hW9, e9⟩
theorem ew_isl6 {N i : Nat} {t : Nat → Int} (hN : N ≤ 200) (hi : i + 3 ≤ N) : ∀ (c n x : Nat) (w : px_W) (r : Option Value × px_W), x + c = 3 → ec_fd w 137 0 = (N : Int) → (∀ y, y < N → ef_a w 138 y = t y) → (∀ y, y < x → t (i + y) = ([110, 111, 116] : List Int).getD y 0) → ec_E hb_X n 60 2 [(0, .inr (.inl 201)), (1, .inr (.inl 6)), (2, .inl (i : Int)), (3, .inl (x : Int))] [] w r → r = (ec_R (if er_bs t i (i + 3) = [110, 111, 116] then 1 else 0), w) ∧ ec_W hb_A w := by
  intro c
  induction c with
  | zero =>
    intro n x w r hx h0 ht hy h
    have ex : x = 3 := by omega
    rw [ex] at h hy
    obtain ⟨_, u, w1, a1, a2⟩ := eg60_137_t6_2_0 h
    obtain ⟨i1, W1, e1⟩ := ew_len6 a1
    rw [← i1] at a2 W1
    obtain ⟨_, hr, hW⟩ := eg60_137_t6_7_0 (a2 _ e1 W1) (Int.le_refl _)
    have q0 : er_bs t i (i + 3) = [110, 111, 116] := (er_bs_is (l := [110, 111, 116])).mpr hy
    rw [if_pos q0]
    exact ⟨hr, hW⟩
  | succ c ih =>
    intro n x w r hx h0 ht hy h
    obtain ⟨_, u, w1, a1, a2⟩ := eg60_137_t6_2_0 h
    obtain ⟨i1, W1, e1⟩ := ew_len6 a1
    rw [← i1] at a2 W1
    have l := eg60_137_t6_7_2 (a2 _ e1 W1)
    have tl : ec_tw 3 = 3 := rfl
    have es : (i : Int) + (x : Int) = ((i + x : Nat) : Int) := rfl
    rw [tl, h0, es, ec_twn (n := x) (by omega), ec_twn (n := i + x) (by omega), ec_twn (n := N) (by omega), ef_rd w 138 (i + x), ht (i + x) (by omega)] at l
    obtain ⟨_, u2, w2, a3, a4⟩ := l (by omega) (by omega)
    obtain ⟨i2, W2, e2⟩ := ew_chr6 (x := x) (by omega) a3
    rw [← i2] at a4 W2
    have a5 := a4 _ e2 W2
    have ti : ec_tw (t (i + x)) = t (i + x) := by
      rw [← ht (i + x) (by omega)]
      exact ef_tw _ _ _
    have tc : ∀ y : Nat, y < 3 → ec_tw (([110, 111, 116] : List Int).getD y 0) = ([110, 111, 116] : List Int).getD y 0 := by decide +kernel
    have b0 := eg60_137_t6_33_0 a5
    have b1 := eg60_137_t6_33_1 a5
    rw [ti, tc x (by omega)] at b0 b1
    by_cases q : t (i + x) = ([110, 111, 116] : List Int).getD x 0
    · exact ih n (x + 1) w r (by omega) h0 ht (fun y hy' => by
        by_cases e : y = x
        · rw [e]
          exact q
        · exact hy y (by omega)) (b0 q).2
    · obtain ⟨_, hr, hW⟩ := b1 q
      have q0 : ¬ er_bs t i (i + 3) = [110, 111, 116] := fun e => q ((er_bs_is (l := [110, 111, 116])).mp e x (by show x < 3; omega))
      rw [if_neg q0]
      exact ⟨hr, hW⟩
theorem ew_is6 {N i e n : Nat} {t : Nat → Int} {w w1 : px_W} {v : Option Value} (hN : N ≤ 200) (he : e ≤ N) (hie : e = i + 3) (h0 : ec_fd w 137 0 = (N : Int)) (ht : ∀ y, y < N → ef_a w 138 y = t y) (h : ec_E hb_X n 60 0 [(0, .inr (.inl 201)), (1, .inr (.inl 6)), (2, .inl (i : Int))] [] w (v, w1)) : w = w1 ∧ ec_W hb_A w1 ∧ v = ec_R (if er_bs t i e = [110, 111, 116] then 1 else 0) := by
  obtain ⟨hr, hW⟩ := ew_isl6 hN (by omega) 3 n 0 w _ (by omega) h0 ht (fun y hy => absurd hy (Nat.not_lt_zero _)) (eg60_137_t6_0_0 h).2
  injection hr with e1 e2
  rw [e2, hie]
  exact ⟨rfl, hW, e1⟩
theorem ew_len7 {n : Nat} {w w1 : px_W} {v : Option Value} (h : ec_E hb_X n 295 0 [(0, .inr (.inl 7))] [] w (v, w1)) : w = w1 ∧ ec_W hb_A w1 ∧ v = ec_R 3 := by
  obtain ⟨_, u, w2, a1, a2⟩ := eg295_t7_0_0 h
  obtain ⟨_, hr, hW⟩ := eg297_t7_0_0 a1 (by decide)
  injection hr with e1 e2
  rw [e2] at a2
  obtain ⟨_, hr2, hW2⟩ := eg295_t7_9_0 (a2 _ e1 hW)
  injection hr2 with e3 e4
  rw [e4]
  exact ⟨rfl, hW2, e3.trans (by decide +kernel)⟩
theorem ew_lt7 : ∀ x : Nat, x < 3 → ec_ch (ec_and (((hb_lt.getD 6 []).getD x 0).toInt) 255) = ([102, 97, 114] : List Int).getD x 0 := by decide +kernel
theorem ew_chr7 {n x : Nat} {w w1 : px_W} {v : Option Value} (hx : x < 3) (h : ec_E hb_X n 296 0 [(0, .inr (.inl 7)), (1, .inl (x : Int))] [] w (v, w1)) : w = w1 ∧ ec_W hb_A w1 ∧ v = ec_R (([102, 97, 114] : List Int).getD x 0) := by
  obtain ⟨_, u, w2, a1, a2⟩ := eg296_t7_0_0 h
  obtain ⟨_, hr, hW⟩ := eg298_t7_0_0 a1 (by decide) rfl
  injection hr with e1 e2
  rw [e2] at a2
  obtain ⟨_, u3, w3, a3, a4⟩ := eg296_t7_4_0 (a2 _ e1 hW) (by decide)
  obtain ⟨_, u4, w4, a5, a6⟩ := eg300_t7_0_0 a3
  obtain ⟨i5, W5, e5⟩ := ew_chk (x := x) (l := 3) hx (by decide) a5
  rw [← i5] at a6 W5
  obtain ⟨_, hr6, hW6⟩ := eg300_t7_6_0 (a6 e5 W5)
  rw [ec_twn (n := x) (by omega), Int.toNat_natCast, ew_lt7 x hx] at hr6
  injection hr6 with e7 e8
  rw [e8] at a4
  obtain ⟨_, hr9, hW9⟩ := eg296_t7_15_0 (a4 _ e7 hW6)
  injection hr9 with e9 e10
  rw [e10]
  exact ⟨rfl, hW9, e9⟩
theorem ew_isl7 {N i : Nat} {t : Nat → Int} (hN : N ≤ 200) (hi : i + 3 ≤ N) : ∀ (c n x : Nat) (w : px_W) (r : Option Value × px_W), x + c = 3 → ec_fd w 137 0 = (N : Int) → (∀ y, y < N → ef_a w 138 y = t y) → (∀ y, y < x → t (i + y) = ([102, 97, 114] : List Int).getD y 0) → ec_E hb_X n 60 2 [(0, .inr (.inl 201)), (1, .inr (.inl 7)), (2, .inl (i : Int)), (3, .inl (x : Int))] [] w r → r = (ec_R (if er_bs t i (i + 3) = [102, 97, 114] then 1 else 0), w) ∧ ec_W hb_A w := by
  intro c
  induction c with
  | zero =>
    intro n x w r hx h0 ht hy h
    have ex : x = 3 := by omega
    rw [ex] at h hy
    obtain ⟨_, u, w1, a1, a2⟩ := eg60_137_t7_2_0 h
    obtain ⟨i1, W1, e1⟩ := ew_len7 a1
    rw [← i1] at a2 W1
    obtain ⟨_, hr, hW⟩ := eg60_137_t7_7_0 (a2 _ e1 W1) (Int.le_refl _)
    have q0 : er_bs t i (i + 3) = [102, 97, 114] := (er_bs_is (l := [102, 97, 114])).mpr hy
    rw [if_pos q0]
    exact ⟨hr, hW⟩
  | succ c ih =>
    intro n x w r hx h0 ht hy h
    obtain ⟨_, u, w1, a1, a2⟩ := eg60_137_t7_2_0 h
    obtain ⟨i1, W1, e1⟩ := ew_len7 a1
    rw [← i1] at a2 W1
    have l := eg60_137_t7_7_2 (a2 _ e1 W1)
    have tl : ec_tw 3 = 3 := rfl
    have es : (i : Int) + (x : Int) = ((i + x : Nat) : Int) := rfl
    rw [tl, h0, es, ec_twn (n := x) (by omega), ec_twn (n := i + x) (by omega), ec_twn (n := N) (by omega), ef_rd w 138 (i + x), ht (i + x) (by omega)] at l
    obtain ⟨_, u2, w2, a3, a4⟩ := l (by omega) (by omega)
    obtain ⟨i2, W2, e2⟩ := ew_chr7 (x := x) (by omega) a3
    rw [← i2] at a4 W2
    have a5 := a4 _ e2 W2
    have ti : ec_tw (t (i + x)) = t (i + x) := by
      rw [← ht (i + x) (by omega)]
      exact ef_tw _ _ _
    have tc : ∀ y : Nat, y < 3 → ec_tw (([102, 97, 114] : List Int).getD y 0) = ([102, 97, 114] : List Int).getD y 0 := by decide +kernel
    have b0 := eg60_137_t7_33_0 a5
    have b1 := eg60_137_t7_33_1 a5
    rw [ti, tc x (by omega)] at b0 b1
    by_cases q : t (i + x) = ([102, 97, 114] : List Int).getD x 0
    · exact ih n (x + 1) w r (by omega) h0 ht (fun y hy' => by
        by_cases e : y = x
        · rw [e]
          exact q
        · exact hy y (by omega)) (b0 q).2
    · obtain ⟨_, hr, hW⟩ := b1 q
      have q0 : ¬ er_bs t i (i + 3) = [102, 97, 114] := fun e => q ((er_bs_is (l := [102, 97, 114])).mp e x (by show x < 3; omega))
      rw [if_neg q0]
      exact ⟨hr, hW⟩
theorem ew_is7 {N i e n : Nat} {t : Nat → Int} {w w1 : px_W} {v : Option Value} (hN : N ≤ 200) (he : e ≤ N) (hie : e = i + 3) (h0 : ec_fd w 137 0 = (N : Int)) (ht : ∀ y, y < N → ef_a w 138 y = t y) (h : ec_E hb_X n 60 0 [(0, .inr (.inl 201)), (1, .inr (.inl 7)), (2, .inl (i : Int))] [] w (v, w1)) : w = w1 ∧ ec_W hb_A w1 ∧ v = ec_R (if er_bs t i e = [102, 97, 114] then 1 else 0) := by
  obtain ⟨hr, hW⟩ := ew_isl7 hN (by omega) 3 n 0 w _ (by omega) h0 ht (fun y hy => absurd hy (Nat.not_lt_zero _)) (eg60_137_t7_0_0 h).2
  injection hr with e1 e2
  rw [e2, hie]
  exact ⟨rfl, hW, e1⟩
theorem ew_len8 {n : Nat} {w w1 : px_W} {v : Option Value} (h : ec_E hb_X n 295 0 [(0, .inr (.inl 8))] [] w (v, w1)) : w = w1 ∧ ec_W hb_A w1 ∧ v = ec_R 4 := by
  obtain ⟨_, u, w2, a1, a2⟩ := eg295_t8_0_0 h
  obtain ⟨_, hr, hW⟩ := eg297_t8_0_0 a1 (by decide)
  injection hr with e1 e2
  rw [e2] at a2
  obtain ⟨_, hr2, hW2⟩ := eg295_t8_9_0 (a2 _ e1 hW)
  injection hr2 with e3 e4
  rw [e4]
  exact ⟨rfl, hW2, e3.trans (by decide +kernel)⟩
theorem ew_lt8 : ∀ x : Nat, x < 4 → ec_ch (ec_and (((hb_lt.getD 7 []).getD x 0).toInt) 255) = ([99, 111, 109, 101] : List Int).getD x 0 := by decide +kernel
theorem ew_chr8 {n x : Nat} {w w1 : px_W} {v : Option Value} (hx : x < 4) (h : ec_E hb_X n 296 0 [(0, .inr (.inl 8)), (1, .inl (x : Int))] [] w (v, w1)) : w = w1 ∧ ec_W hb_A w1 ∧ v = ec_R (([99, 111, 109, 101] : List Int).getD x 0) := by
  obtain ⟨_, u, w2, a1, a2⟩ := eg296_t8_0_0 h
  obtain ⟨_, hr, hW⟩ := eg298_t8_0_0 a1 (by decide) rfl
  injection hr with e1 e2
  rw [e2] at a2
  obtain ⟨_, u3, w3, a3, a4⟩ := eg296_t8_4_0 (a2 _ e1 hW) (by decide)
  obtain ⟨_, u4, w4, a5, a6⟩ := eg300_t8_0_0 a3
  obtain ⟨i5, W5, e5⟩ := ew_chk (x := x) (l := 4) hx (by decide) a5
  rw [← i5] at a6 W5
  obtain ⟨_, hr6, hW6⟩ := eg300_t8_6_0 (a6 e5 W5)
  rw [ec_twn (n := x) (by omega), Int.toNat_natCast, ew_lt8 x hx] at hr6
  injection hr6 with e7 e8
  rw [e8] at a4
  obtain ⟨_, hr9, hW9⟩ := eg296_t8_15_0 (a4 _ e7 hW6)
  injection hr9 with e9 e10
  rw [e10]
  exact ⟨rfl, hW9, e9⟩
theorem ew_isl8 {N i : Nat} {t : Nat → Int} (hN : N ≤ 200) (hi : i + 4 ≤ N) : ∀ (c n x : Nat) (w : px_W) (r : Option Value × px_W), x + c = 4 → ec_fd w 137 0 = (N : Int) → (∀ y, y < N → ef_a w 138 y = t y) → (∀ y, y < x → t (i + y) = ([99, 111, 109, 101] : List Int).getD y 0) → ec_E hb_X n 60 2 [(0, .inr (.inl 201)), (1, .inr (.inl 8)), (2, .inl (i : Int)), (3, .inl (x : Int))] [] w r → r = (ec_R (if er_bs t i (i + 4) = [99, 111, 109, 101] then 1 else 0), w) ∧ ec_W hb_A w := by
  intro c
  induction c with
  | zero =>
    intro n x w r hx h0 ht hy h
    have ex : x = 4 := by omega
    rw [ex] at h hy
    obtain ⟨_, u, w1, a1, a2⟩ := eg60_137_t8_2_0 h
    obtain ⟨i1, W1, e1⟩ := ew_len8 a1
    rw [← i1] at a2 W1
    obtain ⟨_, hr, hW⟩ := eg60_137_t8_7_0 (a2 _ e1 W1) (Int.le_refl _)
    have q0 : er_bs t i (i + 4) = [99, 111, 109, 101] := (er_bs_is (l := [99, 111, 109, 101])).mpr hy
    rw [if_pos q0]
    exact ⟨hr, hW⟩
  | succ c ih =>
    intro n x w r hx h0 ht hy h
    obtain ⟨_, u, w1, a1, a2⟩ := eg60_137_t8_2_0 h
    obtain ⟨i1, W1, e1⟩ := ew_len8 a1
    rw [← i1] at a2 W1
    have l := eg60_137_t8_7_2 (a2 _ e1 W1)
    have tl : ec_tw 4 = 4 := rfl
    have es : (i : Int) + (x : Int) = ((i + x : Nat) : Int) := rfl
    rw [tl, h0, es, ec_twn (n := x) (by omega), ec_twn (n := i + x) (by omega), ec_twn (n := N) (by omega), ef_rd w 138 (i + x), ht (i + x) (by omega)] at l
    obtain ⟨_, u2, w2, a3, a4⟩ := l (by omega) (by omega)
    obtain ⟨i2, W2, e2⟩ := ew_chr8 (x := x) (by omega) a3
    rw [← i2] at a4 W2
    have a5 := a4 _ e2 W2
    have ti : ec_tw (t (i + x)) = t (i + x) := by
      rw [← ht (i + x) (by omega)]
      exact ef_tw _ _ _
    have tc : ∀ y : Nat, y < 4 → ec_tw (([99, 111, 109, 101] : List Int).getD y 0) = ([99, 111, 109, 101] : List Int).getD y 0 := by decide +kernel
    have b0 := eg60_137_t8_33_0 a5
    have b1 := eg60_137_t8_33_1 a5
    rw [ti, tc x (by omega)] at b0 b1
    by_cases q : t (i + x) = ([99, 111, 109, 101] : List Int).getD x 0
    · exact ih n (x + 1) w r (by omega) h0 ht (fun y hy' => by
        by_cases e : y = x
        · rw [e]
          exact q
        · exact hy y (by omega)) (b0 q).2
    · obtain ⟨_, hr, hW⟩ := b1 q
      have q0 : ¬ er_bs t i (i + 4) = [99, 111, 109, 101] := fun e => q ((er_bs_is (l := [99, 111, 109, 101])).mp e x (by show x < 4; omega))
      rw [if_neg q0]
      exact ⟨hr, hW⟩
theorem ew_is8 {N i e n : Nat} {t : Nat → Int} {w w1 : px_W} {v : Option Value} (hN : N ≤ 200) (he : e ≤ N) (hie : e = i + 4) (h0 : ec_fd w 137 0 = (N : Int)) (ht : ∀ y, y < N → ef_a w 138 y = t y) (h : ec_E hb_X n 60 0 [(0, .inr (.inl 201)), (1, .inr (.inl 8)), (2, .inl (i : Int))] [] w (v, w1)) : w = w1 ∧ ec_W hb_A w1 ∧ v = ec_R (if er_bs t i e = [99, 111, 109, 101] then 1 else 0) := by
  obtain ⟨hr, hW⟩ := ew_isl8 hN (by omega) 4 n 0 w _ (by omega) h0 ht (fun y hy => absurd hy (Nat.not_lt_zero _)) (eg60_137_t8_0_0 h).2
  injection hr with e1 e2
  rw [e2, hie]
  exact ⟨rfl, hW, e1⟩
theorem ew_len9 {n : Nat} {w w1 : px_W} {v : Option Value} (h : ec_E hb_X n 295 0 [(0, .inr (.inl 9))] [] w (v, w1)) : w = w1 ∧ ec_W hb_A w1 ∧ v = ec_R 4 := by
  obtain ⟨_, u, w2, a1, a2⟩ := eg295_t9_0_0 h
  obtain ⟨_, hr, hW⟩ := eg297_t9_0_0 a1 (by decide)
  injection hr with e1 e2
  rw [e2] at a2
  obtain ⟨_, hr2, hW2⟩ := eg295_t9_9_0 (a2 _ e1 hW)
  injection hr2 with e3 e4
  rw [e4]
  exact ⟨rfl, hW2, e3.trans (by decide +kernel)⟩
theorem ew_lt9 : ∀ x : Nat, x < 4 → ec_ch (ec_and (((hb_lt.getD 8 []).getD x 0).toInt) 255) = ([116, 104, 101, 110] : List Int).getD x 0 := by decide +kernel
theorem ew_chr9 {n x : Nat} {w w1 : px_W} {v : Option Value} (hx : x < 4) (h : ec_E hb_X n 296 0 [(0, .inr (.inl 9)), (1, .inl (x : Int))] [] w (v, w1)) : w = w1 ∧ ec_W hb_A w1 ∧ v = ec_R (([116, 104, 101, 110] : List Int).getD x 0) := by
  obtain ⟨_, u, w2, a1, a2⟩ := eg296_t9_0_0 h
  obtain ⟨_, hr, hW⟩ := eg298_t9_0_0 a1 (by decide) rfl
  injection hr with e1 e2
  rw [e2] at a2
  obtain ⟨_, u3, w3, a3, a4⟩ := eg296_t9_4_0 (a2 _ e1 hW) (by decide)
  obtain ⟨_, u4, w4, a5, a6⟩ := eg300_t9_0_0 a3
  obtain ⟨i5, W5, e5⟩ := ew_chk (x := x) (l := 4) hx (by decide) a5
  rw [← i5] at a6 W5
  obtain ⟨_, hr6, hW6⟩ := eg300_t9_6_0 (a6 e5 W5)
  rw [ec_twn (n := x) (by omega), Int.toNat_natCast, ew_lt9 x hx] at hr6
  injection hr6 with e7 e8
  rw [e8] at a4
  obtain ⟨_, hr9, hW9⟩ := eg296_t9_15_0 (a4 _ e7 hW6)
  injection hr9 with e9 e10
  rw [e10]
  exact ⟨rfl, hW9, e9⟩
theorem ew_isl9 {N i : Nat} {t : Nat → Int} (hN : N ≤ 200) (hi : i + 4 ≤ N) : ∀ (c n x : Nat) (w : px_W) (r : Option Value × px_W), x + c = 4 → ec_fd w 137 0 = (N : Int) → (∀ y, y < N → ef_a w 138 y = t y) → (∀ y, y < x → t (i + y) = ([116, 104, 101, 110] : List Int).getD y 0) → ec_E hb_X n 60 2 [(0, .inr (.inl 201)), (1, .inr (.inl 9)), (2, .inl (i : Int)), (3, .inl (x : Int))] [] w r → r = (ec_R (if er_bs t i (i + 4) = [116, 104, 101, 110] then 1 else 0), w) ∧ ec_W hb_A w := by
  intro c
  induction c with
  | zero =>
    intro n x w r hx h0 ht hy h
    have ex : x = 4 := by omega
    rw [ex] at h hy
    obtain ⟨_, u, w1, a1, a2⟩ := eg60_137_t9_2_0 h
    obtain ⟨i1, W1, e1⟩ := ew_len9 a1
    rw [← i1] at a2 W1
    obtain ⟨_, hr, hW⟩ := eg60_137_t9_7_0 (a2 _ e1 W1) (Int.le_refl _)
    have q0 : er_bs t i (i + 4) = [116, 104, 101, 110] := (er_bs_is (l := [116, 104, 101, 110])).mpr hy
    rw [if_pos q0]
    exact ⟨hr, hW⟩
  | succ c ih =>
    intro n x w r hx h0 ht hy h
    obtain ⟨_, u, w1, a1, a2⟩ := eg60_137_t9_2_0 h
    obtain ⟨i1, W1, e1⟩ := ew_len9 a1
    rw [← i1] at a2 W1
    have l := eg60_137_t9_7_2 (a2 _ e1 W1)
    have tl : ec_tw 4 = 4 := rfl
    have es : (i : Int) + (x : Int) = ((i + x : Nat) : Int) := rfl
    rw [tl, h0, es, ec_twn (n := x) (by omega), ec_twn (n := i + x) (by omega), ec_twn (n := N) (by omega), ef_rd w 138 (i + x), ht (i + x) (by omega)] at l
    obtain ⟨_, u2, w2, a3, a4⟩ := l (by omega) (by omega)
    obtain ⟨i2, W2, e2⟩ := ew_chr9 (x := x) (by omega) a3
    rw [← i2] at a4 W2
    have a5 := a4 _ e2 W2
    have ti : ec_tw (t (i + x)) = t (i + x) := by
      rw [← ht (i + x) (by omega)]
      exact ef_tw _ _ _
    have tc : ∀ y : Nat, y < 4 → ec_tw (([116, 104, 101, 110] : List Int).getD y 0) = ([116, 104, 101, 110] : List Int).getD y 0 := by decide +kernel
    have b0 := eg60_137_t9_33_0 a5
    have b1 := eg60_137_t9_33_1 a5
    rw [ti, tc x (by omega)] at b0 b1
    by_cases q : t (i + x) = ([116, 104, 101, 110] : List Int).getD x 0
    · exact ih n (x + 1) w r (by omega) h0 ht (fun y hy' => by
        by_cases e : y = x
        · rw [e]
          exact q
        · exact hy y (by omega)) (b0 q).2
    · obtain ⟨_, hr, hW⟩ := b1 q
      have q0 : ¬ er_bs t i (i + 4) = [116, 104, 101, 110] := fun e => q ((er_bs_is (l := [116, 104, 101, 110])).mp e x (by show x < 4; omega))
      rw [if_neg q0]
      exact ⟨hr, hW⟩
theorem ew_is9 {N i e n : Nat} {t : Nat → Int} {w w1 : px_W} {v : Option Value} (hN : N ≤ 200) (he : e ≤ N) (hie : e = i + 4) (h0 : ec_fd w 137 0 = (N : Int)) (ht : ∀ y, y < N → ef_a w 138 y = t y) (h : ec_E hb_X n 60 0 [(0, .inr (.inl 201)), (1, .inr (.inl 9)), (2, .inl (i : Int))] [] w (v, w1)) : w = w1 ∧ ec_W hb_A w1 ∧ v = ec_R (if er_bs t i e = [116, 104, 101, 110] then 1 else 0) := by
  obtain ⟨hr, hW⟩ := ew_isl9 hN (by omega) 4 n 0 w _ (by omega) h0 ht (fun y hy => absurd hy (Nat.not_lt_zero _)) (eg60_137_t9_0_0 h).2
  injection hr with e1 e2
  rw [e2, hie]
  exact ⟨rfl, hW, e1⟩
theorem ew_len10 {n : Nat} {w w1 : px_W} {v : Option Value} (h : ec_E hb_X n 295 0 [(0, .inr (.inl 10))] [] w (v, w1)) : w = w1 ∧ ec_W hb_A w1 ∧ v = ec_R 5 := by
  obtain ⟨_, u, w2, a1, a2⟩ := eg295_t10_0_0 h
  obtain ⟨_, hr, hW⟩ := eg297_t10_0_0 a1 (by decide)
  injection hr with e1 e2
  rw [e2] at a2
  obtain ⟨_, hr2, hW2⟩ := eg295_t10_9_0 (a2 _ e1 hW)
  injection hr2 with e3 e4
  rw [e4]
  exact ⟨rfl, hW2, e3.trans (by decide +kernel)⟩
theorem ew_lt10 : ∀ x : Nat, x < 5 → ec_ch (ec_and (((hb_lt.getD 9 []).getD x 0).toInt) 255) = ([115, 101, 97, 116, 115] : List Int).getD x 0 := by decide +kernel
theorem ew_chr10 {n x : Nat} {w w1 : px_W} {v : Option Value} (hx : x < 5) (h : ec_E hb_X n 296 0 [(0, .inr (.inl 10)), (1, .inl (x : Int))] [] w (v, w1)) : w = w1 ∧ ec_W hb_A w1 ∧ v = ec_R (([115, 101, 97, 116, 115] : List Int).getD x 0) := by
  obtain ⟨_, u, w2, a1, a2⟩ := eg296_t10_0_0 h
  obtain ⟨_, hr, hW⟩ := eg298_t10_0_0 a1 (by decide) rfl
  injection hr with e1 e2
  rw [e2] at a2
  obtain ⟨_, u3, w3, a3, a4⟩ := eg296_t10_4_0 (a2 _ e1 hW) (by decide)
  obtain ⟨_, u4, w4, a5, a6⟩ := eg300_t10_0_0 a3
  obtain ⟨i5, W5, e5⟩ := ew_chk (x := x) (l := 5) hx (by decide) a5
  rw [← i5] at a6 W5
  obtain ⟨_, hr6, hW6⟩ := eg300_t10_6_0 (a6 e5 W5)
  rw [ec_twn (n := x) (by omega), Int.toNat_natCast, ew_lt10 x hx] at hr6
  injection hr6 with e7 e8
  rw [e8] at a4
  obtain ⟨_, hr9, hW9⟩ := eg296_t10_15_0 (a4 _ e7 hW6)
  injection hr9 with e9 e10
  rw [e10]
  exact ⟨rfl, hW9, e9⟩
theorem ew_isl10 {N i : Nat} {t : Nat → Int} (hN : N ≤ 200) (hi : i + 5 ≤ N) : ∀ (c n x : Nat) (w : px_W) (r : Option Value × px_W), x + c = 5 → ec_fd w 137 0 = (N : Int) → (∀ y, y < N → ef_a w 138 y = t y) → (∀ y, y < x → t (i + y) = ([115, 101, 97, 116, 115] : List Int).getD y 0) → ec_E hb_X n 60 2 [(0, .inr (.inl 201)), (1, .inr (.inl 10)), (2, .inl (i : Int)), (3, .inl (x : Int))] [] w r → r = (ec_R (if er_bs t i (i + 5) = [115, 101, 97, 116, 115] then 1 else 0), w) ∧ ec_W hb_A w := by
  intro c
  induction c with
  | zero =>
    intro n x w r hx h0 ht hy h
    have ex : x = 5 := by omega
    rw [ex] at h hy
    obtain ⟨_, u, w1, a1, a2⟩ := eg60_137_t10_2_0 h
    obtain ⟨i1, W1, e1⟩ := ew_len10 a1
    rw [← i1] at a2 W1
    obtain ⟨_, hr, hW⟩ := eg60_137_t10_7_0 (a2 _ e1 W1) (Int.le_refl _)
    have q0 : er_bs t i (i + 5) = [115, 101, 97, 116, 115] := (er_bs_is (l := [115, 101, 97, 116, 115])).mpr hy
    rw [if_pos q0]
    exact ⟨hr, hW⟩
  | succ c ih =>
    intro n x w r hx h0 ht hy h
    obtain ⟨_, u, w1, a1, a2⟩ := eg60_137_t10_2_0 h
    obtain ⟨i1, W1, e1⟩ := ew_len10 a1
    rw [← i1] at a2 W1
    have l := eg60_137_t10_7_2 (a2 _ e1 W1)
    have tl : ec_tw 5 = 5 := rfl
    have es : (i : Int) + (x : Int) = ((i + x : Nat) : Int) := rfl
    rw [tl, h0, es, ec_twn (n := x) (by omega), ec_twn (n := i + x) (by omega), ec_twn (n := N) (by omega), ef_rd w 138 (i + x), ht (i + x) (by omega)] at l
    obtain ⟨_, u2, w2, a3, a4⟩ := l (by omega) (by omega)
    obtain ⟨i2, W2, e2⟩ := ew_chr10 (x := x) (by omega) a3
    rw [← i2] at a4 W2
    have a5 := a4 _ e2 W2
    have ti : ec_tw (t (i + x)) = t (i + x) := by
      rw [← ht (i + x) (by omega)]
      exact ef_tw _ _ _
    have tc : ∀ y : Nat, y < 5 → ec_tw (([115, 101, 97, 116, 115] : List Int).getD y 0) = ([115, 101, 97, 116, 115] : List Int).getD y 0 := by decide +kernel
    have b0 := eg60_137_t10_33_0 a5
    have b1 := eg60_137_t10_33_1 a5
    rw [ti, tc x (by omega)] at b0 b1
    by_cases q : t (i + x) = ([115, 101, 97, 116, 115] : List Int).getD x 0
    · exact ih n (x + 1) w r (by omega) h0 ht (fun y hy' => by
        by_cases e : y = x
        · rw [e]
          exact q
        · exact hy y (by omega)) (b0 q).2
    · obtain ⟨_, hr, hW⟩ := b1 q
      have q0 : ¬ er_bs t i (i + 5) = [115, 101, 97, 116, 115] := fun e => q ((er_bs_is (l := [115, 101, 97, 116, 115])).mp e x (by show x < 5; omega))
      rw [if_neg q0]
      exact ⟨hr, hW⟩
theorem ew_is10 {N i e n : Nat} {t : Nat → Int} {w w1 : px_W} {v : Option Value} (hN : N ≤ 200) (he : e ≤ N) (hie : e = i + 5) (h0 : ec_fd w 137 0 = (N : Int)) (ht : ∀ y, y < N → ef_a w 138 y = t y) (h : ec_E hb_X n 60 0 [(0, .inr (.inl 201)), (1, .inr (.inl 10)), (2, .inl (i : Int))] [] w (v, w1)) : w = w1 ∧ ec_W hb_A w1 ∧ v = ec_R (if er_bs t i e = [115, 101, 97, 116, 115] then 1 else 0) := by
  obtain ⟨hr, hW⟩ := ew_isl10 hN (by omega) 5 n 0 w _ (by omega) h0 ht (fun y hy => absurd hy (Nat.not_lt_zero _)) (eg60_137_t10_0_0 h).2
  injection hr with e1 e2
  rw [e2, hie]
  exact ⟨rfl, hW, e1⟩
theorem ew_len11 {n : Nat} {w w1 : px_W} {v : Option Value} (h : ec_E hb_X n 295 0 [(0, .inr (.inl 11))] [] w (v, w1)) : w = w1 ∧ ec_W hb_A w1 ∧ v = ec_R 5 := by
  obtain ⟨_, u, w2, a1, a2⟩ := eg295_t11_0_0 h
  obtain ⟨_, hr, hW⟩ := eg297_t11_0_0 a1 (by decide)
  injection hr with e1 e2
  rw [e2] at a2
  obtain ⟨_, hr2, hW2⟩ := eg295_t11_9_0 (a2 _ e1 hW)
  injection hr2 with e3 e4
  rw [e4]
  exact ⟨rfl, hW2, e3.trans (by decide +kernel)⟩
theorem ew_lt11 : ∀ x : Nat, x < 5 → ec_ch (ec_and (((hb_lt.getD 10 []).getD x 0).toInt) 255) = ([102, 105, 114, 115, 116] : List Int).getD x 0 := by decide +kernel
theorem ew_chr11 {n x : Nat} {w w1 : px_W} {v : Option Value} (hx : x < 5) (h : ec_E hb_X n 296 0 [(0, .inr (.inl 11)), (1, .inl (x : Int))] [] w (v, w1)) : w = w1 ∧ ec_W hb_A w1 ∧ v = ec_R (([102, 105, 114, 115, 116] : List Int).getD x 0) := by
  obtain ⟨_, u, w2, a1, a2⟩ := eg296_t11_0_0 h
  obtain ⟨_, hr, hW⟩ := eg298_t11_0_0 a1 (by decide) rfl
  injection hr with e1 e2
  rw [e2] at a2
  obtain ⟨_, u3, w3, a3, a4⟩ := eg296_t11_4_0 (a2 _ e1 hW) (by decide)
  obtain ⟨_, u4, w4, a5, a6⟩ := eg300_t11_0_0 a3
  obtain ⟨i5, W5, e5⟩ := ew_chk (x := x) (l := 5) hx (by decide) a5
  rw [← i5] at a6 W5
  obtain ⟨_, hr6, hW6⟩ := eg300_t11_6_0 (a6 e5 W5)
  rw [ec_twn (n := x) (by omega), Int.toNat_natCast, ew_lt11 x hx] at hr6
  injection hr6 with e7 e8
  rw [e8] at a4
  obtain ⟨_, hr9, hW9⟩ := eg296_t11_15_0 (a4 _ e7 hW6)
  injection hr9 with e9 e10
  rw [e10]
  exact ⟨rfl, hW9, e9⟩
theorem ew_isl11 {N i : Nat} {t : Nat → Int} (hN : N ≤ 200) (hi : i + 5 ≤ N) : ∀ (c n x : Nat) (w : px_W) (r : Option Value × px_W), x + c = 5 → ec_fd w 137 0 = (N : Int) → (∀ y, y < N → ef_a w 138 y = t y) → (∀ y, y < x → t (i + y) = ([102, 105, 114, 115, 116] : List Int).getD y 0) → ec_E hb_X n 60 2 [(0, .inr (.inl 201)), (1, .inr (.inl 11)), (2, .inl (i : Int)), (3, .inl (x : Int))] [] w r → r = (ec_R (if er_bs t i (i + 5) = [102, 105, 114, 115, 116] then 1 else 0), w) ∧ ec_W hb_A w := by
  intro c
  induction c with
  | zero =>
    intro n x w r hx h0 ht hy h
    have ex : x = 5 := by omega
    rw [ex] at h hy
    obtain ⟨_, u, w1, a1, a2⟩ := eg60_137_t11_2_0 h
    obtain ⟨i1, W1, e1⟩ := ew_len11 a1
    rw [← i1] at a2 W1
    obtain ⟨_, hr, hW⟩ := eg60_137_t11_7_0 (a2 _ e1 W1) (Int.le_refl _)
    have q0 : er_bs t i (i + 5) = [102, 105, 114, 115, 116] := (er_bs_is (l := [102, 105, 114, 115, 116])).mpr hy
    rw [if_pos q0]
    exact ⟨hr, hW⟩
  | succ c ih =>
    intro n x w r hx h0 ht hy h
    obtain ⟨_, u, w1, a1, a2⟩ := eg60_137_t11_2_0 h
    obtain ⟨i1, W1, e1⟩ := ew_len11 a1
    rw [← i1] at a2 W1
    have l := eg60_137_t11_7_2 (a2 _ e1 W1)
    have tl : ec_tw 5 = 5 := rfl
    have es : (i : Int) + (x : Int) = ((i + x : Nat) : Int) := rfl
    rw [tl, h0, es, ec_twn (n := x) (by omega), ec_twn (n := i + x) (by omega), ec_twn (n := N) (by omega), ef_rd w 138 (i + x), ht (i + x) (by omega)] at l
    obtain ⟨_, u2, w2, a3, a4⟩ := l (by omega) (by omega)
    obtain ⟨i2, W2, e2⟩ := ew_chr11 (x := x) (by omega) a3
    rw [← i2] at a4 W2
    have a5 := a4 _ e2 W2
    have ti : ec_tw (t (i + x)) = t (i + x) := by
      rw [← ht (i + x) (by omega)]
      exact ef_tw _ _ _
    have tc : ∀ y : Nat, y < 5 → ec_tw (([102, 105, 114, 115, 116] : List Int).getD y 0) = ([102, 105, 114, 115, 116] : List Int).getD y 0 := by decide +kernel
    have b0 := eg60_137_t11_33_0 a5
    have b1 := eg60_137_t11_33_1 a5
    rw [ti, tc x (by omega)] at b0 b1
    by_cases q : t (i + x) = ([102, 105, 114, 115, 116] : List Int).getD x 0
    · exact ih n (x + 1) w r (by omega) h0 ht (fun y hy' => by
        by_cases e : y = x
        · rw [e]
          exact q
        · exact hy y (by omega)) (b0 q).2
    · obtain ⟨_, hr, hW⟩ := b1 q
      have q0 : ¬ er_bs t i (i + 5) = [102, 105, 114, 115, 116] := fun e => q ((er_bs_is (l := [102, 105, 114, 115, 116])).mp e x (by show x < 5; omega))
      rw [if_neg q0]
      exact ⟨hr, hW⟩
theorem ew_is11 {N i e n : Nat} {t : Nat → Int} {w w1 : px_W} {v : Option Value} (hN : N ≤ 200) (he : e ≤ N) (hie : e = i + 5) (h0 : ec_fd w 137 0 = (N : Int)) (ht : ∀ y, y < N → ef_a w 138 y = t y) (h : ec_E hb_X n 60 0 [(0, .inr (.inl 201)), (1, .inr (.inl 11)), (2, .inl (i : Int))] [] w (v, w1)) : w = w1 ∧ ec_W hb_A w1 ∧ v = ec_R (if er_bs t i e = [102, 105, 114, 115, 116] then 1 else 0) := by
  obtain ⟨hr, hW⟩ := ew_isl11 hN (by omega) 5 n 0 w _ (by omega) h0 ht (fun y hy => absurd hy (Nat.not_lt_zero _)) (eg60_137_t11_0_0 h).2
  injection hr with e1 e2
  rw [e2, hie]
  exact ⟨rfl, hW, e1⟩
theorem ew_len12 {n : Nat} {w w1 : px_W} {v : Option Value} (h : ec_E hb_X n 295 0 [(0, .inr (.inl 12))] [] w (v, w1)) : w = w1 ∧ ec_W hb_A w1 ∧ v = ec_R 5 := by
  obtain ⟨_, u, w2, a1, a2⟩ := eg295_t12_0_0 h
  obtain ⟨_, hr, hW⟩ := eg297_t12_0_0 a1 (by decide)
  injection hr with e1 e2
  rw [e2] at a2
  obtain ⟨_, hr2, hW2⟩ := eg295_t12_9_0 (a2 _ e1 hW)
  injection hr2 with e3 e4
  rw [e4]
  exact ⟨rfl, hW2, e3.trans (by decide +kernel)⟩
theorem ew_lt12 : ∀ x : Nat, x < 5 → ec_ch (ec_and (((hb_lt.getD 11 []).getD x 0).toInt) 255) = ([119, 111, 109, 101, 110] : List Int).getD x 0 := by decide +kernel
theorem ew_chr12 {n x : Nat} {w w1 : px_W} {v : Option Value} (hx : x < 5) (h : ec_E hb_X n 296 0 [(0, .inr (.inl 12)), (1, .inl (x : Int))] [] w (v, w1)) : w = w1 ∧ ec_W hb_A w1 ∧ v = ec_R (([119, 111, 109, 101, 110] : List Int).getD x 0) := by
  obtain ⟨_, u, w2, a1, a2⟩ := eg296_t12_0_0 h
  obtain ⟨_, hr, hW⟩ := eg298_t12_0_0 a1 (by decide) rfl
  injection hr with e1 e2
  rw [e2] at a2
  obtain ⟨_, u3, w3, a3, a4⟩ := eg296_t12_4_0 (a2 _ e1 hW) (by decide)
  obtain ⟨_, u4, w4, a5, a6⟩ := eg300_t12_0_0 a3
  obtain ⟨i5, W5, e5⟩ := ew_chk (x := x) (l := 5) hx (by decide) a5
  rw [← i5] at a6 W5
  obtain ⟨_, hr6, hW6⟩ := eg300_t12_6_0 (a6 e5 W5)
  rw [ec_twn (n := x) (by omega), Int.toNat_natCast, ew_lt12 x hx] at hr6
  injection hr6 with e7 e8
  rw [e8] at a4
  obtain ⟨_, hr9, hW9⟩ := eg296_t12_15_0 (a4 _ e7 hW6)
  injection hr9 with e9 e10
  rw [e10]
  exact ⟨rfl, hW9, e9⟩
theorem ew_isl12 {N i : Nat} {t : Nat → Int} (hN : N ≤ 200) (hi : i + 5 ≤ N) : ∀ (c n x : Nat) (w : px_W) (r : Option Value × px_W), x + c = 5 → ec_fd w 137 0 = (N : Int) → (∀ y, y < N → ef_a w 138 y = t y) → (∀ y, y < x → t (i + y) = ([119, 111, 109, 101, 110] : List Int).getD y 0) → ec_E hb_X n 60 2 [(0, .inr (.inl 201)), (1, .inr (.inl 12)), (2, .inl (i : Int)), (3, .inl (x : Int))] [] w r → r = (ec_R (if er_bs t i (i + 5) = [119, 111, 109, 101, 110] then 1 else 0), w) ∧ ec_W hb_A w := by
  intro c
  induction c with
  | zero =>
    intro n x w r hx h0 ht hy h
    have ex : x = 5 := by omega
    rw [ex] at h hy
    obtain ⟨_, u, w1, a1, a2⟩ := eg60_137_t12_2_0 h
    obtain ⟨i1, W1, e1⟩ := ew_len12 a1
    rw [← i1] at a2 W1
    obtain ⟨_, hr, hW⟩ := eg60_137_t12_7_0 (a2 _ e1 W1) (Int.le_refl _)
    have q0 : er_bs t i (i + 5) = [119, 111, 109, 101, 110] := (er_bs_is (l := [119, 111, 109, 101, 110])).mpr hy
    rw [if_pos q0]
    exact ⟨hr, hW⟩
  | succ c ih =>
    intro n x w r hx h0 ht hy h
    obtain ⟨_, u, w1, a1, a2⟩ := eg60_137_t12_2_0 h
    obtain ⟨i1, W1, e1⟩ := ew_len12 a1
    rw [← i1] at a2 W1
    have l := eg60_137_t12_7_2 (a2 _ e1 W1)
    have tl : ec_tw 5 = 5 := rfl
    have es : (i : Int) + (x : Int) = ((i + x : Nat) : Int) := rfl
    rw [tl, h0, es, ec_twn (n := x) (by omega), ec_twn (n := i + x) (by omega), ec_twn (n := N) (by omega), ef_rd w 138 (i + x), ht (i + x) (by omega)] at l
    obtain ⟨_, u2, w2, a3, a4⟩ := l (by omega) (by omega)
    obtain ⟨i2, W2, e2⟩ := ew_chr12 (x := x) (by omega) a3
    rw [← i2] at a4 W2
    have a5 := a4 _ e2 W2
    have ti : ec_tw (t (i + x)) = t (i + x) := by
      rw [← ht (i + x) (by omega)]
      exact ef_tw _ _ _
    have tc : ∀ y : Nat, y < 5 → ec_tw (([119, 111, 109, 101, 110] : List Int).getD y 0) = ([119, 111, 109, 101, 110] : List Int).getD y 0 := by decide +kernel
    have b0 := eg60_137_t12_33_0 a5
    have b1 := eg60_137_t12_33_1 a5
    rw [ti, tc x (by omega)] at b0 b1
    by_cases q : t (i + x) = ([119, 111, 109, 101, 110] : List Int).getD x 0
    · exact ih n (x + 1) w r (by omega) h0 ht (fun y hy' => by
        by_cases e : y = x
        · rw [e]
          exact q
        · exact hy y (by omega)) (b0 q).2
    · obtain ⟨_, hr, hW⟩ := b1 q
      have q0 : ¬ er_bs t i (i + 5) = [119, 111, 109, 101, 110] := fun e => q ((er_bs_is (l := [119, 111, 109, 101, 110])).mp e x (by show x < 5; omega))
      rw [if_neg q0]
      exact ⟨hr, hW⟩
theorem ew_is12 {N i e n : Nat} {t : Nat → Int} {w w1 : px_W} {v : Option Value} (hN : N ≤ 200) (he : e ≤ N) (hie : e = i + 5) (h0 : ec_fd w 137 0 = (N : Int)) (ht : ∀ y, y < N → ef_a w 138 y = t y) (h : ec_E hb_X n 60 0 [(0, .inr (.inl 201)), (1, .inr (.inl 12)), (2, .inl (i : Int))] [] w (v, w1)) : w = w1 ∧ ec_W hb_A w1 ∧ v = ec_R (if er_bs t i e = [119, 111, 109, 101, 110] then 1 else 0) := by
  obtain ⟨hr, hW⟩ := ew_isl12 hN (by omega) 5 n 0 w _ (by omega) h0 ht (fun y hy => absurd hy (Nat.not_lt_zero _)) (eg60_137_t12_0_0 h).2
  injection hr with e1 e2
  rw [e2, hie]
  exact ⟨rfl, hW, e1⟩
theorem ew_len13 {n : Nat} {w w1 : px_W} {v : Option Value} (h : ec_E hb_X n 295 0 [(0, .inr (.inl 13))] [] w (v, w1)) : w = w1 ∧ ec_W hb_A w1 ∧ v = ec_R 5 := by
  obtain ⟨_, u, w2, a1, a2⟩ := eg295_t13_0_0 h
  obtain ⟨_, hr, hW⟩ := eg297_t13_0_0 a1 (by decide)
  injection hr with e1 e2
  rw [e2] at a2
  obtain ⟨_, hr2, hW2⟩ := eg295_t13_9_0 (a2 _ e1 hW)
  injection hr2 with e3 e4
  rw [e4]
  exact ⟨rfl, hW2, e3.trans (by decide +kernel)⟩
theorem ew_lt13 : ∀ x : Nat, x < 5 → ec_ch (ec_and (((hb_lt.getD 12 []).getD x 0).toInt) 255) = ([104, 101, 97, 114, 100] : List Int).getD x 0 := by decide +kernel
theorem ew_chr13 {n x : Nat} {w w1 : px_W} {v : Option Value} (hx : x < 5) (h : ec_E hb_X n 296 0 [(0, .inr (.inl 13)), (1, .inl (x : Int))] [] w (v, w1)) : w = w1 ∧ ec_W hb_A w1 ∧ v = ec_R (([104, 101, 97, 114, 100] : List Int).getD x 0) := by
  obtain ⟨_, u, w2, a1, a2⟩ := eg296_t13_0_0 h
  obtain ⟨_, hr, hW⟩ := eg298_t13_0_0 a1 (by decide) rfl
  injection hr with e1 e2
  rw [e2] at a2
  obtain ⟨_, u3, w3, a3, a4⟩ := eg296_t13_4_0 (a2 _ e1 hW) (by decide)
  obtain ⟨_, u4, w4, a5, a6⟩ := eg300_t13_0_0 a3
  obtain ⟨i5, W5, e5⟩ := ew_chk (x := x) (l := 5) hx (by decide) a5
  rw [← i5] at a6 W5
  obtain ⟨_, hr6, hW6⟩ := eg300_t13_6_0 (a6 e5 W5)
  rw [ec_twn (n := x) (by omega), Int.toNat_natCast, ew_lt13 x hx] at hr6
  injection hr6 with e7 e8
  rw [e8] at a4
  obtain ⟨_, hr9, hW9⟩ := eg296_t13_15_0 (a4 _ e7 hW6)
  injection hr9 with e9 e10
  rw [e10]
  exact ⟨rfl, hW9, e9⟩
theorem ew_isl13 {N i : Nat} {t : Nat → Int} (hN : N ≤ 200) (hi : i + 5 ≤ N) : ∀ (c n x : Nat) (w : px_W) (r : Option Value × px_W), x + c = 5 → ec_fd w 137 0 = (N : Int) → (∀ y, y < N → ef_a w 138 y = t y) → (∀ y, y < x → t (i + y) = ([104, 101, 97, 114, 100] : List Int).getD y 0) → ec_E hb_X n 60 2 [(0, .inr (.inl 201)), (1, .inr (.inl 13)), (2, .inl (i : Int)), (3, .inl (x : Int))] [] w r → r = (ec_R (if er_bs t i (i + 5) = [104, 101, 97, 114, 100] then 1 else 0), w) ∧ ec_W hb_A w := by
  intro c
  induction c with
  | zero =>
    intro n x w r hx h0 ht hy h
    have ex : x = 5 := by omega
    rw [ex] at h hy
    obtain ⟨_, u, w1, a1, a2⟩ := eg60_137_t13_2_0 h
    obtain ⟨i1, W1, e1⟩ := ew_len13 a1
    rw [← i1] at a2 W1
    obtain ⟨_, hr, hW⟩ := eg60_137_t13_7_0 (a2 _ e1 W1) (Int.le_refl _)
    have q0 : er_bs t i (i + 5) = [104, 101, 97, 114, 100] := (er_bs_is (l := [104, 101, 97, 114, 100])).mpr hy
    rw [if_pos q0]
    exact ⟨hr, hW⟩
  | succ c ih =>
    intro n x w r hx h0 ht hy h
    obtain ⟨_, u, w1, a1, a2⟩ := eg60_137_t13_2_0 h
    obtain ⟨i1, W1, e1⟩ := ew_len13 a1
    rw [← i1] at a2 W1
    have l := eg60_137_t13_7_2 (a2 _ e1 W1)
    have tl : ec_tw 5 = 5 := rfl
    have es : (i : Int) + (x : Int) = ((i + x : Nat) : Int) := rfl
    rw [tl, h0, es, ec_twn (n := x) (by omega), ec_twn (n := i + x) (by omega), ec_twn (n := N) (by omega), ef_rd w 138 (i + x), ht (i + x) (by omega)] at l
    obtain ⟨_, u2, w2, a3, a4⟩ := l (by omega) (by omega)
    obtain ⟨i2, W2, e2⟩ := ew_chr13 (x := x) (by omega) a3
    rw [← i2] at a4 W2
    have a5 := a4 _ e2 W2
    have ti : ec_tw (t (i + x)) = t (i + x) := by
      rw [← ht (i + x) (by omega)]
      exact ef_tw _ _ _
    have tc : ∀ y : Nat, y < 5 → ec_tw (([104, 101, 97, 114, 100] : List Int).getD y 0) = ([104, 101, 97, 114, 100] : List Int).getD y 0 := by decide +kernel
    have b0 := eg60_137_t13_33_0 a5
    have b1 := eg60_137_t13_33_1 a5
    rw [ti, tc x (by omega)] at b0 b1
    by_cases q : t (i + x) = ([104, 101, 97, 114, 100] : List Int).getD x 0
    · exact ih n (x + 1) w r (by omega) h0 ht (fun y hy' => by
        by_cases e : y = x
        · rw [e]
          exact q
        · exact hy y (by omega)) (b0 q).2
    · obtain ⟨_, hr, hW⟩ := b1 q
      have q0 : ¬ er_bs t i (i + 5) = [104, 101, 97, 114, 100] := fun e => q ((er_bs_is (l := [104, 101, 97, 114, 100])).mp e x (by show x < 5; omega))
      rw [if_neg q0]
      exact ⟨hr, hW⟩
theorem ew_is13 {N i e n : Nat} {t : Nat → Int} {w w1 : px_W} {v : Option Value} (hN : N ≤ 200) (he : e ≤ N) (hie : e = i + 5) (h0 : ec_fd w 137 0 = (N : Int)) (ht : ∀ y, y < N → ef_a w 138 y = t y) (h : ec_E hb_X n 60 0 [(0, .inr (.inl 201)), (1, .inr (.inl 13)), (2, .inl (i : Int))] [] w (v, w1)) : w = w1 ∧ ec_W hb_A w1 ∧ v = ec_R (if er_bs t i e = [104, 101, 97, 114, 100] then 1 else 0) := by
  obtain ⟨hr, hW⟩ := ew_isl13 hN (by omega) 5 n 0 w _ (by omega) h0 ht (fun y hy => absurd hy (Nat.not_lt_zero _)) (eg60_137_t13_0_0 h).2
  injection hr with e1 e2
  rw [e2, hie]
  exact ⟨rfl, hW, e1⟩
theorem ew_len14 {n : Nat} {w w1 : px_W} {v : Option Value} (h : ec_E hb_X n 295 0 [(0, .inr (.inl 14))] [] w (v, w1)) : w = w1 ∧ ec_W hb_A w1 ∧ v = ec_R 5 := by
  obtain ⟨_, u, w2, a1, a2⟩ := eg295_t14_0_0 h
  obtain ⟨_, hr, hW⟩ := eg297_t14_0_0 a1 (by decide)
  injection hr with e1 e2
  rw [e2] at a2
  obtain ⟨_, hr2, hW2⟩ := eg295_t14_9_0 (a2 _ e1 hW)
  injection hr2 with e3 e4
  rw [e4]
  exact ⟨rfl, hW2, e3.trans (by decide +kernel)⟩
theorem ew_lt14 : ∀ x : Nat, x < 5 → ec_ch (ec_and (((hb_lt.getD 13 []).getD x 0).toInt) 255) = ([115, 112, 101, 101, 100] : List Int).getD x 0 := by decide +kernel
theorem ew_chr14 {n x : Nat} {w w1 : px_W} {v : Option Value} (hx : x < 5) (h : ec_E hb_X n 296 0 [(0, .inr (.inl 14)), (1, .inl (x : Int))] [] w (v, w1)) : w = w1 ∧ ec_W hb_A w1 ∧ v = ec_R (([115, 112, 101, 101, 100] : List Int).getD x 0) := by
  obtain ⟨_, u, w2, a1, a2⟩ := eg296_t14_0_0 h
  obtain ⟨_, hr, hW⟩ := eg298_t14_0_0 a1 (by decide) rfl
  injection hr with e1 e2
  rw [e2] at a2
  obtain ⟨_, u3, w3, a3, a4⟩ := eg296_t14_4_0 (a2 _ e1 hW) (by decide)
  obtain ⟨_, u4, w4, a5, a6⟩ := eg300_t14_0_0 a3
  obtain ⟨i5, W5, e5⟩ := ew_chk (x := x) (l := 5) hx (by decide) a5
  rw [← i5] at a6 W5
  obtain ⟨_, hr6, hW6⟩ := eg300_t14_6_0 (a6 e5 W5)
  rw [ec_twn (n := x) (by omega), Int.toNat_natCast, ew_lt14 x hx] at hr6
  injection hr6 with e7 e8
  rw [e8] at a4
  obtain ⟨_, hr9, hW9⟩ := eg296_t14_15_0 (a4 _ e7 hW6)
  injection hr9 with e9 e10
  rw [e10]
  exact ⟨rfl, hW9, e9⟩
theorem ew_isl14 {N i : Nat} {t : Nat → Int} (hN : N ≤ 200) (hi : i + 5 ≤ N) : ∀ (c n x : Nat) (w : px_W) (r : Option Value × px_W), x + c = 5 → ec_fd w 137 0 = (N : Int) → (∀ y, y < N → ef_a w 138 y = t y) → (∀ y, y < x → t (i + y) = ([115, 112, 101, 101, 100] : List Int).getD y 0) → ec_E hb_X n 60 2 [(0, .inr (.inl 201)), (1, .inr (.inl 14)), (2, .inl (i : Int)), (3, .inl (x : Int))] [] w r → r = (ec_R (if er_bs t i (i + 5) = [115, 112, 101, 101, 100] then 1 else 0), w) ∧ ec_W hb_A w := by
  intro c
  induction c with
  | zero =>
    intro n x w r hx h0 ht hy h
    have ex : x = 5 := by omega
    rw [ex] at h hy
    obtain ⟨_, u, w1, a1, a2⟩ := eg60_137_t14_2_0 h
    obtain ⟨i1, W1, e1⟩ := ew_len14 a1
    rw [← i1] at a2 W1
    obtain ⟨_, hr, hW⟩ := eg60_137_t14_7_0 (a2 _ e1 W1) (Int.le_refl _)
    have q0 : er_bs t i (i + 5) = [115, 112, 101, 101, 100] := (er_bs_is (l := [115, 112, 101, 101, 100])).mpr hy
    rw [if_pos q0]
    exact ⟨hr, hW⟩
  | succ c ih =>
    intro n x w r hx h0 ht hy h
    obtain ⟨_, u, w1, a1, a2⟩ := eg60_137_t14_2_0 h
    obtain ⟨i1, W1, e1⟩ := ew_len14 a1
    rw [← i1] at a2 W1
    have l := eg60_137_t14_7_2 (a2 _ e1 W1)
    have tl : ec_tw 5 = 5 := rfl
    have es : (i : Int) + (x : Int) = ((i + x : Nat) : Int) := rfl
    rw [tl, h0, es, ec_twn (n := x) (by omega), ec_twn (n := i + x) (by omega), ec_twn (n := N) (by omega), ef_rd w 138 (i + x), ht (i + x) (by omega)] at l
    obtain ⟨_, u2, w2, a3, a4⟩ := l (by omega) (by omega)
    obtain ⟨i2, W2, e2⟩ := ew_chr14 (x := x) (by omega) a3
    rw [← i2] at a4 W2
    have a5 := a4 _ e2 W2
    have ti : ec_tw (t (i + x)) = t (i + x) := by
      rw [← ht (i + x) (by omega)]
      exact ef_tw _ _ _
    have tc : ∀ y : Nat, y < 5 → ec_tw (([115, 112, 101, 101, 100] : List Int).getD y 0) = ([115, 112, 101, 101, 100] : List Int).getD y 0 := by decide +kernel
    have b0 := eg60_137_t14_33_0 a5
    have b1 := eg60_137_t14_33_1 a5
    rw [ti, tc x (by omega)] at b0 b1
    by_cases q : t (i + x) = ([115, 112, 101, 101, 100] : List Int).getD x 0
    · exact ih n (x + 1) w r (by omega) h0 ht (fun y hy' => by
        by_cases e : y = x
        · rw [e]
          exact q
        · exact hy y (by omega)) (b0 q).2
    · obtain ⟨_, hr, hW⟩ := b1 q
      have q0 : ¬ er_bs t i (i + 5) = [115, 112, 101, 101, 100] := fun e => q ((er_bs_is (l := [115, 112, 101, 101, 100])).mp e x (by show x < 5; omega))
      rw [if_neg q0]
      exact ⟨hr, hW⟩
theorem ew_is14 {N i e n : Nat} {t : Nat → Int} {w w1 : px_W} {v : Option Value} (hN : N ≤ 200) (he : e ≤ N) (hie : e = i + 5) (h0 : ec_fd w 137 0 = (N : Int)) (ht : ∀ y, y < N → ef_a w 138 y = t y) (h : ec_E hb_X n 60 0 [(0, .inr (.inl 201)), (1, .inr (.inl 14)), (2, .inl (i : Int))] [] w (v, w1)) : w = w1 ∧ ec_W hb_A w1 ∧ v = ec_R (if er_bs t i e = [115, 112, 101, 101, 100] then 1 else 0) := by
  obtain ⟨hr, hW⟩ := ew_isl14 hN (by omega) 5 n 0 w _ (by omega) h0 ht (fun y hy => absurd hy (Nat.not_lt_zero _)) (eg60_137_t14_0_0 h).2
  injection hr with e1 e2
  rw [e2, hie]
  exact ⟨rfl, hW, e1⟩
theorem ew_len15 {n : Nat} {w w1 : px_W} {v : Option Value} (h : ec_E hb_X n 295 0 [(0, .inr (.inl 15))] [] w (v, w1)) : w = w1 ∧ ec_W hb_A w1 ∧ v = ec_R 6 := by
  obtain ⟨_, u, w2, a1, a2⟩ := eg295_t15_0_0 h
  obtain ⟨_, hr, hW⟩ := eg297_t15_0_0 a1 (by decide)
  injection hr with e1 e2
  rw [e2] at a2
  obtain ⟨_, hr2, hW2⟩ := eg295_t15_9_0 (a2 _ e1 hW)
  injection hr2 with e3 e4
  rw [e4]
  exact ⟨rfl, hW2, e3.trans (by decide +kernel)⟩
theorem ew_lt15 : ∀ x : Nat, x < 6 → ec_ch (ec_and (((hb_lt.getD 14 []).getD x 0).toInt) 255) = ([109, 105, 110, 117, 116, 101] : List Int).getD x 0 := by decide +kernel
theorem ew_chr15 {n x : Nat} {w w1 : px_W} {v : Option Value} (hx : x < 6) (h : ec_E hb_X n 296 0 [(0, .inr (.inl 15)), (1, .inl (x : Int))] [] w (v, w1)) : w = w1 ∧ ec_W hb_A w1 ∧ v = ec_R (([109, 105, 110, 117, 116, 101] : List Int).getD x 0) := by
  obtain ⟨_, u, w2, a1, a2⟩ := eg296_t15_0_0 h
  obtain ⟨_, hr, hW⟩ := eg298_t15_0_0 a1 (by decide) rfl
  injection hr with e1 e2
  rw [e2] at a2
  obtain ⟨_, u3, w3, a3, a4⟩ := eg296_t15_4_0 (a2 _ e1 hW) (by decide)
  obtain ⟨_, u4, w4, a5, a6⟩ := eg300_t15_0_0 a3
  obtain ⟨i5, W5, e5⟩ := ew_chk (x := x) (l := 6) hx (by decide) a5
  rw [← i5] at a6 W5
  obtain ⟨_, hr6, hW6⟩ := eg300_t15_6_0 (a6 e5 W5)
  rw [ec_twn (n := x) (by omega), Int.toNat_natCast, ew_lt15 x hx] at hr6
  injection hr6 with e7 e8
  rw [e8] at a4
  obtain ⟨_, hr9, hW9⟩ := eg296_t15_15_0 (a4 _ e7 hW6)
  injection hr9 with e9 e10
  rw [e10]
  exact ⟨rfl, hW9, e9⟩
theorem ew_isl15 {N i : Nat} {t : Nat → Int} (hN : N ≤ 200) (hi : i + 6 ≤ N) : ∀ (c n x : Nat) (w : px_W) (r : Option Value × px_W), x + c = 6 → ec_fd w 137 0 = (N : Int) → (∀ y, y < N → ef_a w 138 y = t y) → (∀ y, y < x → t (i + y) = ([109, 105, 110, 117, 116, 101] : List Int).getD y 0) → ec_E hb_X n 60 2 [(0, .inr (.inl 201)), (1, .inr (.inl 15)), (2, .inl (i : Int)), (3, .inl (x : Int))] [] w r → r = (ec_R (if er_bs t i (i + 6) = [109, 105, 110, 117, 116, 101] then 1 else 0), w) ∧ ec_W hb_A w := by
  intro c
  induction c with
  | zero =>
    intro n x w r hx h0 ht hy h
    have ex : x = 6 := by omega
    rw [ex] at h hy
    obtain ⟨_, u, w1, a1, a2⟩ := eg60_137_t15_2_0 h
    obtain ⟨i1, W1, e1⟩ := ew_len15 a1
    rw [← i1] at a2 W1
    obtain ⟨_, hr, hW⟩ := eg60_137_t15_7_0 (a2 _ e1 W1) (Int.le_refl _)
    have q0 : er_bs t i (i + 6) = [109, 105, 110, 117, 116, 101] := (er_bs_is (l := [109, 105, 110, 117, 116, 101])).mpr hy
    rw [if_pos q0]
    exact ⟨hr, hW⟩
  | succ c ih =>
    intro n x w r hx h0 ht hy h
    obtain ⟨_, u, w1, a1, a2⟩ := eg60_137_t15_2_0 h
    obtain ⟨i1, W1, e1⟩ := ew_len15 a1
    rw [← i1] at a2 W1
    have l := eg60_137_t15_7_2 (a2 _ e1 W1)
    have tl : ec_tw 6 = 6 := rfl
    have es : (i : Int) + (x : Int) = ((i + x : Nat) : Int) := rfl
    rw [tl, h0, es, ec_twn (n := x) (by omega), ec_twn (n := i + x) (by omega), ec_twn (n := N) (by omega), ef_rd w 138 (i + x), ht (i + x) (by omega)] at l
    obtain ⟨_, u2, w2, a3, a4⟩ := l (by omega) (by omega)
    obtain ⟨i2, W2, e2⟩ := ew_chr15 (x := x) (by omega) a3
    rw [← i2] at a4 W2
    have a5 := a4 _ e2 W2
    have ti : ec_tw (t (i + x)) = t (i + x) := by
      rw [← ht (i + x) (by omega)]
      exact ef_tw _ _ _
    have tc : ∀ y : Nat, y < 6 → ec_tw (([109, 105, 110, 117, 116, 101] : List Int).getD y 0) = ([109, 105, 110, 117, 116, 101] : List Int).getD y 0 := by decide +kernel
    have b0 := eg60_137_t15_33_0 a5
    have b1 := eg60_137_t15_33_1 a5
    rw [ti, tc x (by omega)] at b0 b1
    by_cases q : t (i + x) = ([109, 105, 110, 117, 116, 101] : List Int).getD x 0
    · exact ih n (x + 1) w r (by omega) h0 ht (fun y hy' => by
        by_cases e : y = x
        · rw [e]
          exact q
        · exact hy y (by omega)) (b0 q).2
    · obtain ⟨_, hr, hW⟩ := b1 q
      have q0 : ¬ er_bs t i (i + 6) = [109, 105, 110, 117, 116, 101] := fun e => q ((er_bs_is (l := [109, 105, 110, 117, 116, 101])).mp e x (by show x < 6; omega))
      rw [if_neg q0]
      exact ⟨hr, hW⟩
theorem ew_is15 {N i e n : Nat} {t : Nat → Int} {w w1 : px_W} {v : Option Value} (hN : N ≤ 200) (he : e ≤ N) (hie : e = i + 6) (h0 : ec_fd w 137 0 = (N : Int)) (ht : ∀ y, y < N → ef_a w 138 y = t y) (h : ec_E hb_X n 60 0 [(0, .inr (.inl 201)), (1, .inr (.inl 15)), (2, .inl (i : Int))] [] w (v, w1)) : w = w1 ∧ ec_W hb_A w1 ∧ v = ec_R (if er_bs t i e = [109, 105, 110, 117, 116, 101] then 1 else 0) := by
  obtain ⟨hr, hW⟩ := ew_isl15 hN (by omega) 6 n 0 w _ (by omega) h0 ht (fun y hy => absurd hy (Nat.not_lt_zero _)) (eg60_137_t15_0_0 h).2
  injection hr with e1 e2
  rw [e2, hie]
  exact ⟨rfl, hW, e1⟩
theorem ew_len16 {n : Nat} {w w1 : px_W} {v : Option Value} (h : ec_E hb_X n 295 0 [(0, .inr (.inl 16))] [] w (v, w1)) : w = w1 ∧ ec_W hb_A w1 ∧ v = ec_R 8 := by
  obtain ⟨_, u, w2, a1, a2⟩ := eg295_t16_0_0 h
  obtain ⟨_, hr, hW⟩ := eg297_t16_0_0 a1 (by decide)
  injection hr with e1 e2
  rw [e2] at a2
  obtain ⟨_, hr2, hW2⟩ := eg295_t16_9_0 (a2 _ e1 hW)
  injection hr2 with e3 e4
  rw [e4]
  exact ⟨rfl, hW2, e3.trans (by decide +kernel)⟩
theorem ew_lt16 : ∀ x : Nat, x < 8 → ec_ch (ec_and (((hb_lt.getD 15 []).getD x 0).toInt) 255) = ([99, 104, 105, 108, 100, 114, 101, 110] : List Int).getD x 0 := by decide +kernel
theorem ew_chr16 {n x : Nat} {w w1 : px_W} {v : Option Value} (hx : x < 8) (h : ec_E hb_X n 296 0 [(0, .inr (.inl 16)), (1, .inl (x : Int))] [] w (v, w1)) : w = w1 ∧ ec_W hb_A w1 ∧ v = ec_R (([99, 104, 105, 108, 100, 114, 101, 110] : List Int).getD x 0) := by
  obtain ⟨_, u, w2, a1, a2⟩ := eg296_t16_0_0 h
  obtain ⟨_, hr, hW⟩ := eg298_t16_0_0 a1 (by decide) rfl
  injection hr with e1 e2
  rw [e2] at a2
  obtain ⟨_, u3, w3, a3, a4⟩ := eg296_t16_4_0 (a2 _ e1 hW) (by decide)
  obtain ⟨_, u4, w4, a5, a6⟩ := eg300_t16_0_0 a3
  obtain ⟨i5, W5, e5⟩ := ew_chk (x := x) (l := 8) hx (by decide) a5
  rw [← i5] at a6 W5
  obtain ⟨_, hr6, hW6⟩ := eg300_t16_6_0 (a6 e5 W5)
  rw [ec_twn (n := x) (by omega), Int.toNat_natCast, ew_lt16 x hx] at hr6
  injection hr6 with e7 e8
  rw [e8] at a4
  obtain ⟨_, hr9, hW9⟩ := eg296_t16_15_0 (a4 _ e7 hW6)
  injection hr9 with e9 e10
  rw [e10]
  exact ⟨rfl, hW9, e9⟩
theorem ew_isl16 {N i : Nat} {t : Nat → Int} (hN : N ≤ 200) (hi : i + 8 ≤ N) : ∀ (c n x : Nat) (w : px_W) (r : Option Value × px_W), x + c = 8 → ec_fd w 137 0 = (N : Int) → (∀ y, y < N → ef_a w 138 y = t y) → (∀ y, y < x → t (i + y) = ([99, 104, 105, 108, 100, 114, 101, 110] : List Int).getD y 0) → ec_E hb_X n 60 2 [(0, .inr (.inl 201)), (1, .inr (.inl 16)), (2, .inl (i : Int)), (3, .inl (x : Int))] [] w r → r = (ec_R (if er_bs t i (i + 8) = [99, 104, 105, 108, 100, 114, 101, 110] then 1 else 0), w) ∧ ec_W hb_A w := by
  intro c
  induction c with
  | zero =>
    intro n x w r hx h0 ht hy h
    have ex : x = 8 := by omega
    rw [ex] at h hy
    obtain ⟨_, u, w1, a1, a2⟩ := eg60_137_t16_2_0 h
    obtain ⟨i1, W1, e1⟩ := ew_len16 a1
    rw [← i1] at a2 W1
    obtain ⟨_, hr, hW⟩ := eg60_137_t16_7_0 (a2 _ e1 W1) (Int.le_refl _)
    have q0 : er_bs t i (i + 8) = [99, 104, 105, 108, 100, 114, 101, 110] := (er_bs_is (l := [99, 104, 105, 108, 100, 114, 101, 110])).mpr hy
    rw [if_pos q0]
    exact ⟨hr, hW⟩
  | succ c ih =>
    intro n x w r hx h0 ht hy h
    obtain ⟨_, u, w1, a1, a2⟩ := eg60_137_t16_2_0 h
    obtain ⟨i1, W1, e1⟩ := ew_len16 a1
    rw [← i1] at a2 W1
    have l := eg60_137_t16_7_2 (a2 _ e1 W1)
    have tl : ec_tw 8 = 8 := rfl
    have es : (i : Int) + (x : Int) = ((i + x : Nat) : Int) := rfl
    rw [tl, h0, es, ec_twn (n := x) (by omega), ec_twn (n := i + x) (by omega), ec_twn (n := N) (by omega), ef_rd w 138 (i + x), ht (i + x) (by omega)] at l
    obtain ⟨_, u2, w2, a3, a4⟩ := l (by omega) (by omega)
    obtain ⟨i2, W2, e2⟩ := ew_chr16 (x := x) (by omega) a3
    rw [← i2] at a4 W2
    have a5 := a4 _ e2 W2
    have ti : ec_tw (t (i + x)) = t (i + x) := by
      rw [← ht (i + x) (by omega)]
      exact ef_tw _ _ _
    have tc : ∀ y : Nat, y < 8 → ec_tw (([99, 104, 105, 108, 100, 114, 101, 110] : List Int).getD y 0) = ([99, 104, 105, 108, 100, 114, 101, 110] : List Int).getD y 0 := by decide +kernel
    have b0 := eg60_137_t16_33_0 a5
    have b1 := eg60_137_t16_33_1 a5
    rw [ti, tc x (by omega)] at b0 b1
    by_cases q : t (i + x) = ([99, 104, 105, 108, 100, 114, 101, 110] : List Int).getD x 0
    · exact ih n (x + 1) w r (by omega) h0 ht (fun y hy' => by
        by_cases e : y = x
        · rw [e]
          exact q
        · exact hy y (by omega)) (b0 q).2
    · obtain ⟨_, hr, hW⟩ := b1 q
      have q0 : ¬ er_bs t i (i + 8) = [99, 104, 105, 108, 100, 114, 101, 110] := fun e => q ((er_bs_is (l := [99, 104, 105, 108, 100, 114, 101, 110])).mp e x (by show x < 8; omega))
      rw [if_neg q0]
      exact ⟨hr, hW⟩
theorem ew_is16 {N i e n : Nat} {t : Nat → Int} {w w1 : px_W} {v : Option Value} (hN : N ≤ 200) (he : e ≤ N) (hie : e = i + 8) (h0 : ec_fd w 137 0 = (N : Int)) (ht : ∀ y, y < N → ef_a w 138 y = t y) (h : ec_E hb_X n 60 0 [(0, .inr (.inl 201)), (1, .inr (.inl 16)), (2, .inl (i : Int))] [] w (v, w1)) : w = w1 ∧ ec_W hb_A w1 ∧ v = ec_R (if er_bs t i e = [99, 104, 105, 108, 100, 114, 101, 110] then 1 else 0) := by
  obtain ⟨hr, hW⟩ := ew_isl16 hN (by omega) 8 n 0 w _ (by omega) h0 ht (fun y hy => absurd hy (Nat.not_lt_zero _)) (eg60_137_t16_0_0 h).2
  injection hr with e1 e2
  rw [e2, hie]
  exact ⟨rfl, hW, e1⟩
theorem er_ix_no : ∀ (l : List (List Int)) (b : List Int) (k : Nat), (∀ a ∈ l, b ≠ a) → er_ix l b k = k + l.length
  | [], _, _, _ => rfl
  | a :: r, b, k, h => by
    show (if b = a then k else er_ix r b (k + 1)) = k + (r.length + 1)
    rw [if_neg (h a List.mem_cons_self), er_ix_no r b (k + 1) (fun c hc => h c (List.mem_cons_of_mem _ hc))]
    omega
theorem er_wk_no {b : List Int} (h : ∀ a ∈ er_ws, b ≠ a) : er_cc (er_wk b) = 302 := by
  have e : er_wk b = 16 := er_ix_no er_ws b 0 h
  rw [e]
  rfl
theorem ew_wa {N i e n : Nat} {t : Nat → Int} {w w1 : px_W} {v : Option Value} (hN : N ≤ 200) (hie : i < e) (he : e ≤ N) (h0 : ec_fd w 137 0 = (N : Int)) (ht : ∀ y, y < N → ef_a w 138 y = t y) (h : ec_E hb_X n 59 0 [(0, .inr (.inl 201)), (1, .inl (i : Int)), (2, .inl (e : Int))] [] w (v, w1)) : w = w1 ∧ ec_W hb_A w1 ∧ v = ec_R (er_cc (er_wk (er_bs t i e))) := by
  have es : (e : Int) - (i : Int) = ((e - i : Nat) : Int) := by omega
  have bl : (er_bs t i e).length = e - i := er_bs_len
  have tz : ec_tw 0 = 0 := rfl
  have t1 : ec_tw 1 = 1 := rfl
  by_cases c2 : e = i + 2
  · have l := eg59_137_0_0 h
    rw [es, ec_twn (n := e - i) (by omega)] at l
    obtain ⟨_, u, w2, a1, a2⟩ := l (by omega)
    obtain ⟨i1, W1, e1⟩ := ew_is1 hN he c2 h0 ht a1
    rw [← i1] at a2 W1
    have b1 := a2 _ e1 W1
    by_cases q1 : er_bs t i e = [105, 102]
    · rw [if_pos q1] at b1
      obtain ⟨_, hr, hW⟩ := eg59_137_51_1 b1 (by decide)
      injection hr with e3 e4
      rw [e4, q1]
      exact ⟨rfl, hW, e3.trans (congrArg ec_R (by decide +kernel : (315 : Int) = er_cc (er_wk [105, 102])))⟩
    rw [if_neg q1] at b1
    clear a1 a2
    obtain ⟨_, u, w2, a1, a2⟩ := eg59_137_51_0 b1 rfl
    obtain ⟨i2, W2, e2⟩ := ew_is2 hN he c2 h0 ht a1
    rw [← i2] at a2 W2
    have b2 := a2 _ e2 W2
    by_cases q2 : er_bs t i e = [111, 114]
    · rw [if_pos q2] at b2
      obtain ⟨_, hr, hW⟩ := eg59_137_67_1 b2 (by decide)
      injection hr with e3 e4
      rw [e4, q2]
      exact ⟨rfl, hW, e3.trans (congrArg ec_R (by decide +kernel : (320 : Int) = er_cc (er_wk [111, 114])))⟩
    rw [if_neg q2] at b2
    obtain ⟨_, hr, hW⟩ := eg59_137_67_0 b2 rfl
    injection hr with e3 e4
    rw [e4]
    have no : ∀ a ∈ er_ws, er_bs t i e ≠ a := by
      intro a ha e5
      have hl : a.length = 2 := by
        rw [← e5, bl]
        omega
      have h6 := (by decide +kernel : ∀ a ∈ er_ws, a.length = 2 → a = [105, 102] ∨ a = [111, 114]) a ha hl
      rw [← e5] at h6
      rcases h6 with h6 | h6
      · exact q1 h6
      · exact q2 h6
    exact ⟨rfl, hW, e3.trans (congrArg ec_R (er_wk_no no).symm)⟩
  by_cases c3 : e = i + 3
  · have l := eg59_137_0_1 h
    rw [es, ec_twn (n := e - i) (by omega)] at l
    obtain ⟨_, u, w2, a1, a2⟩ := l (by omega)
    obtain ⟨i3, W3, e3⟩ := ew_is3 hN he c3 h0 ht a1
    rw [← i3] at a2 W3
    have b3 := a2 _ e3 W3
    by_cases q3 : er_bs t i e = [102, 111, 114]
    · rw [if_pos q3] at b3
      obtain ⟨_, hr, hW⟩ := eg59_137_87_1 b3 (by decide)
      injection hr with e3 e4
      rw [e4, q3]
      exact ⟨rfl, hW, e3.trans (congrArg ec_R (by decide +kernel : (311 : Int) = er_cc (er_wk [102, 111, 114])))⟩
    rw [if_neg q3] at b3
    clear a1 a2
    obtain ⟨_, u, w2, a1, a2⟩ := eg59_137_87_0 b3 rfl
    obtain ⟨i4, W4, e4⟩ := ew_is4 hN he c3 h0 ht a1
    rw [← i4] at a2 W4
    have b4 := a2 _ e4 W4
    by_cases q4 : er_bs t i e = [109, 101, 110]
    · rw [if_pos q4] at b4
      obtain ⟨_, hr, hW⟩ := eg59_137_101_1 b4 (by decide)
      injection hr with e3 e4
      rw [e4, q4]
      exact ⟨rfl, hW, e3.trans (congrArg ec_R (by decide +kernel : (332 : Int) = er_cc (er_wk [109, 101, 110])))⟩
    rw [if_neg q4] at b4
    clear a1 a2
    obtain ⟨_, u, w2, a1, a2⟩ := eg59_137_101_0 b4 rfl
    obtain ⟨i5, W5, e5⟩ := ew_is5 hN he c3 h0 ht a1
    rw [← i5] at a2 W5
    have b5 := a2 _ e5 W5
    by_cases q5 : er_bs t i e = [97, 110, 100]
    · rw [if_pos q5] at b5
      obtain ⟨_, hr, hW⟩ := eg59_137_115_1 b5 (by decide)
      injection hr with e3 e4
      rw [e4, q5]
      exact ⟨rfl, hW, e3.trans (congrArg ec_R (by decide +kernel : (321 : Int) = er_cc (er_wk [97, 110, 100])))⟩
    rw [if_neg q5] at b5
    clear a1 a2
    obtain ⟨_, u, w2, a1, a2⟩ := eg59_137_115_0 b5 rfl
    obtain ⟨i6, W6, e6⟩ := ew_is6 hN he c3 h0 ht a1
    rw [← i6] at a2 W6
    have b6 := a2 _ e6 W6
    by_cases q6 : er_bs t i e = [110, 111, 116]
    · rw [if_pos q6] at b6
      obtain ⟨_, hr, hW⟩ := eg59_137_131_1 b6 (by decide)
      injection hr with e3 e4
      rw [e4, q6]
      exact ⟨rfl, hW, e3.trans (congrArg ec_R (by decide +kernel : (322 : Int) = er_cc (er_wk [110, 111, 116])))⟩
    rw [if_neg q6] at b6
    clear a1 a2
    obtain ⟨_, u, w2, a1, a2⟩ := eg59_137_131_0 b6 rfl
    obtain ⟨i7, W7, e7⟩ := ew_is7 hN he c3 h0 ht a1
    rw [← i7] at a2 W7
    have b7 := a2 _ e7 W7
    by_cases q7 : er_bs t i e = [102, 97, 114]
    · rw [if_pos q7] at b7
      obtain ⟨_, hr, hW⟩ := eg59_137_147_1 b7 (by decide)
      injection hr with e3 e4
      rw [e4, q7]
      exact ⟨rfl, hW, e3.trans (congrArg ec_R (by decide +kernel : (324 : Int) = er_cc (er_wk [102, 97, 114])))⟩
    rw [if_neg q7] at b7
    obtain ⟨_, hr, hW⟩ := eg59_137_147_0 b7 rfl
    injection hr with e3 e4
    rw [e4]
    have no : ∀ a ∈ er_ws, er_bs t i e ≠ a := by
      intro a ha e5
      have hl : a.length = 3 := by
        rw [← e5, bl]
        omega
      have h6 := (by decide +kernel : ∀ a ∈ er_ws, a.length = 3 → a = [102, 111, 114] ∨ a = [109, 101, 110] ∨ a = [97, 110, 100] ∨ a = [110, 111, 116] ∨ a = [102, 97, 114]) a ha hl
      rw [← e5] at h6
      rcases h6 with h6 | h6 | h6 | h6 | h6
      · exact q3 h6
      · exact q4 h6
      · exact q5 h6
      · exact q6 h6
      · exact q7 h6
    exact ⟨rfl, hW, e3.trans (congrArg ec_R (er_wk_no no).symm)⟩
  by_cases c4 : e = i + 4
  · have l := eg59_137_0_2 h
    rw [es, ec_twn (n := e - i) (by omega)] at l
    obtain ⟨_, u, w2, a1, a2⟩ := l (by omega)
    obtain ⟨i8, W8, e8⟩ := ew_is8 hN he c4 h0 ht a1
    rw [← i8] at a2 W8
    have b8 := a2 _ e8 W8
    by_cases q8 : er_bs t i e = [99, 111, 109, 101]
    · rw [if_pos q8] at b8
      obtain ⟨_, hr, hW⟩ := eg59_137_167_1 b8 (by decide)
      injection hr with e3 e4
      rw [e4, q8]
      exact ⟨rfl, hW, e3.trans (congrArg ec_R (by decide +kernel : (314 : Int) = er_cc (er_wk [99, 111, 109, 101])))⟩
    rw [if_neg q8] at b8
    clear a1 a2
    obtain ⟨_, u, w2, a1, a2⟩ := eg59_137_167_0 b8 rfl
    obtain ⟨i9, W9, e9⟩ := ew_is9 hN he c4 h0 ht a1
    rw [← i9] at a2 W9
    have b9 := a2 _ e9 W9
    by_cases q9 : er_bs t i e = [116, 104, 101, 110]
    · rw [if_pos q9] at b9
      obtain ⟨_, hr, hW⟩ := eg59_137_183_1 b9 (by decide)
      injection hr with e3 e4
      rw [e4, q9]
      exact ⟨rfl, hW, e3.trans (congrArg ec_R (by decide +kernel : (313 : Int) = er_cc (er_wk [116, 104, 101, 110])))⟩
    rw [if_neg q9] at b9
    obtain ⟨_, hr, hW⟩ := eg59_137_183_0 b9 rfl
    injection hr with e3 e4
    rw [e4]
    have no : ∀ a ∈ er_ws, er_bs t i e ≠ a := by
      intro a ha e5
      have hl : a.length = 4 := by
        rw [← e5, bl]
        omega
      have h6 := (by decide +kernel : ∀ a ∈ er_ws, a.length = 4 → a = [99, 111, 109, 101] ∨ a = [116, 104, 101, 110]) a ha hl
      rw [← e5] at h6
      rcases h6 with h6 | h6
      · exact q8 h6
      · exact q9 h6
    exact ⟨rfl, hW, e3.trans (congrArg ec_R (er_wk_no no).symm)⟩
  by_cases c5 : e = i + 5
  · have l := eg59_137_0_3 h
    rw [es, ec_twn (n := e - i) (by omega)] at l
    obtain ⟨_, u, w2, a1, a2⟩ := l (by omega)
    obtain ⟨i10, W10, e10⟩ := ew_is10 hN he c5 h0 ht a1
    rw [← i10] at a2 W10
    have b10 := a2 _ e10 W10
    by_cases q10 : er_bs t i e = [115, 101, 97, 116, 115]
    · rw [if_pos q10] at b10
      obtain ⟨_, hr, hW⟩ := eg59_137_203_1 b10 (by decide)
      injection hr with e3 e4
      rw [e4, q10]
      exact ⟨rfl, hW, e3.trans (congrArg ec_R (by decide +kernel : (310 : Int) = er_cc (er_wk [115, 101, 97, 116, 115])))⟩
    rw [if_neg q10] at b10
    clear a1 a2
    obtain ⟨_, u, w2, a1, a2⟩ := eg59_137_203_0 b10 rfl
    obtain ⟨i11, W11, e11⟩ := ew_is11 hN he c5 h0 ht a1
    rw [← i11] at a2 W11
    have b11 := a2 _ e11 W11
    by_cases q11 : er_bs t i e = [102, 105, 114, 115, 116]
    · rw [if_pos q11] at b11
      obtain ⟨_, hr, hW⟩ := eg59_137_217_1 b11 (by decide)
      injection hr with e3 e4
      rw [e4, q11]
      exact ⟨rfl, hW, e3.trans (congrArg ec_R (by decide +kernel : (312 : Int) = er_cc (er_wk [102, 105, 114, 115, 116])))⟩
    rw [if_neg q11] at b11
    clear a1 a2
    obtain ⟨_, u, w2, a1, a2⟩ := eg59_137_217_0 b11 rfl
    obtain ⟨i12, W12, e12⟩ := ew_is12 hN he c5 h0 ht a1
    rw [← i12] at a2 W12
    have b12 := a2 _ e12 W12
    by_cases q12 : er_bs t i e = [119, 111, 109, 101, 110]
    · rw [if_pos q12] at b12
      obtain ⟨_, hr, hW⟩ := eg59_137_231_1 b12 (by decide)
      injection hr with e3 e4
      rw [e4, q12]
      exact ⟨rfl, hW, e3.trans (congrArg ec_R (by decide +kernel : (331 : Int) = er_cc (er_wk [119, 111, 109, 101, 110])))⟩
    rw [if_neg q12] at b12
    clear a1 a2
    obtain ⟨_, u, w2, a1, a2⟩ := eg59_137_231_0 b12 rfl
    obtain ⟨i13, W13, e13⟩ := ew_is13 hN he c5 h0 ht a1
    rw [← i13] at a2 W13
    have b13 := a2 _ e13 W13
    by_cases q13 : er_bs t i e = [104, 101, 97, 114, 100]
    · rw [if_pos q13] at b13
      obtain ⟨_, hr, hW⟩ := eg59_137_245_1 b13 (by decide)
      injection hr with e3 e4
      rw [e4, q13]
      exact ⟨rfl, hW, e3.trans (congrArg ec_R (by decide +kernel : (323 : Int) = er_cc (er_wk [104, 101, 97, 114, 100])))⟩
    rw [if_neg q13] at b13
    clear a1 a2
    obtain ⟨_, u, w2, a1, a2⟩ := eg59_137_245_0 b13 rfl
    obtain ⟨i14, W14, e14⟩ := ew_is14 hN he c5 h0 ht a1
    rw [← i14] at a2 W14
    have b14 := a2 _ e14 W14
    by_cases q14 : er_bs t i e = [115, 112, 101, 101, 100]
    · rw [if_pos q14] at b14
      obtain ⟨_, hr, hW⟩ := eg59_137_261_1 b14 (by decide)
      injection hr with e3 e4
      rw [e4, q14]
      exact ⟨rfl, hW, e3.trans (congrArg ec_R (by decide +kernel : (325 : Int) = er_cc (er_wk [115, 112, 101, 101, 100])))⟩
    rw [if_neg q14] at b14
    obtain ⟨_, hr, hW⟩ := eg59_137_261_0 b14 rfl
    injection hr with e3 e4
    rw [e4]
    have no : ∀ a ∈ er_ws, er_bs t i e ≠ a := by
      intro a ha e5
      have hl : a.length = 5 := by
        rw [← e5, bl]
        omega
      have h6 := (by decide +kernel : ∀ a ∈ er_ws, a.length = 5 → a = [115, 101, 97, 116, 115] ∨ a = [102, 105, 114, 115, 116] ∨ a = [119, 111, 109, 101, 110] ∨ a = [104, 101, 97, 114, 100] ∨ a = [115, 112, 101, 101, 100]) a ha hl
      rw [← e5] at h6
      rcases h6 with h6 | h6 | h6 | h6 | h6
      · exact q10 h6
      · exact q11 h6
      · exact q12 h6
      · exact q13 h6
      · exact q14 h6
    exact ⟨rfl, hW, e3.trans (congrArg ec_R (er_wk_no no).symm)⟩
  by_cases c6 : e = i + 6
  · have l := eg59_137_0_4 h
    rw [es, ec_twn (n := e - i) (by omega)] at l
    obtain ⟨_, u, w2, a1, a2⟩ := l (by omega)
    obtain ⟨i15, W15, e15⟩ := ew_is15 hN he c6 h0 ht a1
    rw [← i15] at a2 W15
    have b15 := a2 _ e15 W15
    by_cases q15 : er_bs t i e = [109, 105, 110, 117, 116, 101]
    · rw [if_pos q15] at b15
      obtain ⟨_, hr, hW⟩ := eg59_137_281_1 b15 (by decide)
      injection hr with e3 e4
      rw [e4, q15]
      exact ⟨rfl, hW, e3.trans (congrArg ec_R (by decide +kernel : (326 : Int) = er_cc (er_wk [109, 105, 110, 117, 116, 101])))⟩
    rw [if_neg q15] at b15
    obtain ⟨_, hr, hW⟩ := eg59_137_281_0 b15 rfl
    injection hr with e3 e4
    rw [e4]
    have no : ∀ a ∈ er_ws, er_bs t i e ≠ a := by
      intro a ha e5
      have hl : a.length = 6 := by
        rw [← e5, bl]
        omega
      have h6 := (by decide +kernel : ∀ a ∈ er_ws, a.length = 6 → a = [109, 105, 110, 117, 116, 101]) a ha hl
      rw [← e5] at h6
      exact q15 h6
    exact ⟨rfl, hW, e3.trans (congrArg ec_R (er_wk_no no).symm)⟩
  by_cases c8 : e = i + 8
  · have l := eg59_137_0_6 h
    rw [es, ec_twn (n := e - i) (by omega)] at l
    obtain ⟨_, u, w2, a1, a2⟩ := l (by omega)
    obtain ⟨i16, W16, e16⟩ := ew_is16 hN he c8 h0 ht a1
    rw [← i16] at a2 W16
    have b16 := a2 _ e16 W16
    by_cases q16 : er_bs t i e = [99, 104, 105, 108, 100, 114, 101, 110]
    · rw [if_pos q16] at b16
      obtain ⟨_, hr, hW⟩ := eg59_137_301_1 b16 (by decide)
      injection hr with e3 e4
      rw [e4, q16]
      exact ⟨rfl, hW, e3.trans (congrArg ec_R (by decide +kernel : (330 : Int) = er_cc (er_wk [99, 104, 105, 108, 100, 114, 101, 110])))⟩
    rw [if_neg q16] at b16
    obtain ⟨_, hr, hW⟩ := eg59_137_301_0 b16 rfl
    injection hr with e3 e4
    rw [e4]
    have no : ∀ a ∈ er_ws, er_bs t i e ≠ a := by
      intro a ha e5
      have hl : a.length = 8 := by
        rw [← e5, bl]
        omega
      have h6 := (by decide +kernel : ∀ a ∈ er_ws, a.length = 8 → a = [99, 104, 105, 108, 100, 114, 101, 110]) a ha hl
      rw [← e5] at h6
      exact q16 h6
    exact ⟨rfl, hW, e3.trans (congrArg ec_R (er_wk_no no).symm)⟩
  have no : ∀ a ∈ er_ws, er_bs t i e ≠ a := by
    intro a ha e5
    have h6 := (by decide +kernel : ∀ a ∈ er_ws, a.length = 2 ∨ a.length = 3 ∨ a.length = 4 ∨ a.length = 5 ∨ a.length = 6 ∨ a.length = 8) a ha
    rw [← e5, bl] at h6
    omega
  have fin : (v, w1) = (ec_R 302, w) → ec_W hb_A w → w = w1 ∧ ec_W hb_A w1 ∧ v = ec_R (er_cc (er_wk (er_bs t i e))) := by
    intro hr hW
    injection hr with e3 e4
    rw [e4]
    exact ⟨rfl, hW, e3.trans (congrArg ec_R (er_wk_no no).symm)⟩
  by_cases c7 : e = i + 7
  · have l := eg59_137_0_5 h
    rw [es, ec_twn (n := e - i) (by omega)] at l
    obtain ⟨_, hr, hW⟩ := l (by omega)
    exact fin hr hW
  · have l := eg59_137_0_7 h
    rw [es, ec_twn (n := e - i) (by omega)] at l
    obtain ⟨_, hr, hW⟩ := l (by omega)
    exact fin hr hW

end

noncomputable section
/-! WHAT THINGS DO: every body, for every kind (1 CELL, 2, 3 BOAT, 4 CALL, 5 ORDER, 6 WORD) -/
section EA2
variable {n : Nat} {w w1 : px_W} {v : Option Value} {N A x x0 : Int} {t : List Int}
theorem eaA5_1 (S : ea_sA w 1 N A 0 t) (ht : t.length ≤ 28) (h : ec_E hb_X n 5 0 [(0, .inr (.inl 213)), (1, .inl x)] [] w (v, w1)) : v = ec_R ((x + A) - 40) ∧ ec_W hb_A w1 ∧ ea_fA w w1 ∧ ea_sA w1 1 N A 0 (t ++ [20, 10]) := by
  obtain ⟨_, u1, y1, a1, b1⟩ := eg5_149_0_2 h ((congrArg ec_tw S.1).trans rfl)
  obtain ⟨e1, W1, f1, S1⟩ := ea_begA S (by omega) rfl a1
  have h1 := b1 e1 W1
  have h2 := (eg5_149_14_0 h1).2
  obtain ⟨_, u3, y3, a3, b3⟩ := eg5_149_31_0 h2
  obtain ⟨e3, W3, f3, S3⟩ := ea_begA S1 (by rw [List.length_append]; show t.length + 1 ≤ 29; omega) rfl a3
  rw [List.append_assoc] at S3
  have S3 : ea_sA y3 1 N A 0 (t ++ [20, 10]) := S3
  have h3 := b3 e3 W3
  obtain ⟨_, hr, hW⟩ := eg5_149_37_2 h3 ((congrArg ec_tw S3.1).trans rfl)
  injection hr with g1 g2
  rw [S3.2.2.1] at g1
  rw [g2]
  exact ⟨g1, hW, (ea_fA_t f1 f3), S3⟩
theorem eaA5_2 (S : ea_sA w 2 N A 0 t) (ht : t.length ≤ 29) (h : ec_E hb_X n 5 0 [(0, .inr (.inl 213)), (1, .inl x)] [] w (v, w1)) : v = ec_R (x + A) ∧ ec_W hb_A w1 ∧ ea_fA w w1 ∧ ea_sA w1 2 N A 0 (t ++ [10]) := by
  have h1 := (eg5_149_0_0 h (by rw [S.1]; decide) (by rw [S.1]; decide)).2
  obtain ⟨_, u2, y2, a2, b2⟩ := eg5_149_31_0 h1
  obtain ⟨e2, W2, f2, S2⟩ := ea_begA S (by omega) rfl a2
  have h2 := b2 e2 W2
  obtain ⟨_, hr, hW⟩ := eg5_149_37_0 h2 (by rw [S2.1]; decide) (by rw [S2.1]; decide)
  injection hr with g1 g2
  rw [S2.2.2.1] at g1
  rw [g2]
  exact ⟨g1, hW, f2, S2⟩
theorem eaA5_3 (S : ea_sA w 3 N A 0 t) (ht : t.length ≤ 28) (h : ec_E hb_X n 5 0 [(0, .inr (.inl 213)), (1, .inl x)] [] w (v, w1)) : v = ec_R ((x + A) * 3) ∧ ec_W hb_A w1 ∧ ea_fA w w1 ∧ ea_sA w1 3 N A 0 (t ++ [40, 10]) := by
  obtain ⟨_, u1, y1, a1, b1⟩ := eg5_149_0_1 h (by rw [S.1]; decide) ((congrArg ec_tw S.1).trans rfl)
  obtain ⟨e1, W1, f1, S1⟩ := ea_begA S (by omega) rfl a1
  have h1 := b1 e1 W1
  obtain ⟨_, u2, y2, a2, b2⟩ := eg5_149_31_0 h1
  obtain ⟨e2, W2, f2, S2⟩ := ea_begA S1 (by rw [List.length_append]; show t.length + 1 ≤ 29; omega) rfl a2
  rw [List.append_assoc] at S2
  have S2 : ea_sA y2 3 N A 0 (t ++ [40, 10]) := S2
  have h2 := b2 e2 W2
  obtain ⟨_, hr, hW⟩ := eg5_149_37_1 h2 (by rw [S2.1]; decide) ((congrArg ec_tw S2.1).trans rfl)
  injection hr with g1 g2
  rw [S2.2.2.1] at g1
  rw [g2]
  exact ⟨g1, hW, (ea_fA_t f1 f2), S2⟩
theorem eaA5_4 (S : ea_sA w 4 N A 0 t) (ht : t.length ≤ 29) (h : ec_E hb_X n 5 0 [(0, .inr (.inl 213)), (1, .inl x)] [] w (v, w1)) : v = ec_R (x + A) ∧ ec_W hb_A w1 ∧ ea_fA w w1 ∧ ea_sA w1 4 N A 0 (t ++ [10]) := by
  have h1 := (eg5_149_0_0 h (by rw [S.1]; decide) (by rw [S.1]; decide)).2
  obtain ⟨_, u2, y2, a2, b2⟩ := eg5_149_31_0 h1
  obtain ⟨e2, W2, f2, S2⟩ := ea_begA S (by omega) rfl a2
  have h2 := b2 e2 W2
  obtain ⟨_, hr, hW⟩ := eg5_149_37_0 h2 (by rw [S2.1]; decide) (by rw [S2.1]; decide)
  injection hr with g1 g2
  rw [S2.2.2.1] at g1
  rw [g2]
  exact ⟨g1, hW, f2, S2⟩
theorem eaA5_5 (S : ea_sA w 5 N A 0 t) (ht : t.length ≤ 29) (h : ec_E hb_X n 5 0 [(0, .inr (.inl 213)), (1, .inl x)] [] w (v, w1)) : v = ec_R (x + A) ∧ ec_W hb_A w1 ∧ ea_fA w w1 ∧ ea_sA w1 5 N A 0 (t ++ [10]) := by
  have h1 := (eg5_149_0_0 h (by rw [S.1]; decide) (by rw [S.1]; decide)).2
  obtain ⟨_, u2, y2, a2, b2⟩ := eg5_149_31_0 h1
  obtain ⟨e2, W2, f2, S2⟩ := ea_begA S (by omega) rfl a2
  have h2 := b2 e2 W2
  obtain ⟨_, hr, hW⟩ := eg5_149_37_0 h2 (by rw [S2.1]; decide) (by rw [S2.1]; decide)
  injection hr with g1 g2
  rw [S2.2.2.1] at g1
  rw [g2]
  exact ⟨g1, hW, f2, S2⟩
theorem eaA5_6 (S : ea_sA w 6 N A 0 t) (ht : t.length ≤ 29) (h : ec_E hb_X n 5 0 [(0, .inr (.inl 213)), (1, .inl x)] [] w (v, w1)) : v = ec_R (x + A) ∧ ec_W hb_A w1 ∧ ea_fA w w1 ∧ ea_sA w1 6 N A 0 (t ++ [10]) := by
  have h1 := (eg5_149_0_0 h (by rw [S.1]; decide) (by rw [S.1]; decide)).2
  obtain ⟨_, u2, y2, a2, b2⟩ := eg5_149_31_0 h1
  obtain ⟨e2, W2, f2, S2⟩ := ea_begA S (by omega) rfl a2
  have h2 := b2 e2 W2
  obtain ⟨_, hr, hW⟩ := eg5_149_37_0 h2 (by rw [S2.1]; decide) (by rw [S2.1]; decide)
  injection hr with g1 g2
  rw [S2.2.2.1] at g1
  rw [g2]
  exact ⟨g1, hW, f2, S2⟩
theorem eaA9_1 (S : ea_sA w 1 N A 0 t) (ht : t.length ≤ 27) (h : ec_E hb_X n 9 0 [(0, .inr (.inl 213)), (1, .inl x)] [] w (v, w1)) : v = ec_R ((((x + A) - 40) * 2) - N) ∧ ec_W hb_A w1 ∧ ea_fA w w1 ∧ ea_sA w1 1 N A 0 (t ++ [11, 20, 10]) := by
  obtain ⟨_, u1, y1, a1, b1⟩ := eg9_149_0_0 h
  obtain ⟨e1, W1, f1, S1⟩ := ea_begA S (by omega) rfl a1
  have h1 := b1 e1 W1
  obtain ⟨_, u2, y2, a2, b2⟩ := eg9_149_6_0 h1
  obtain ⟨e2, W2, f2, S2⟩ := eaA5_1 S1 (by rw [List.length_append]; show t.length + 1 ≤ 28; omega) a2
  rw [List.append_assoc] at S2
  have S2 : ea_sA y2 1 N A 0 (t ++ [11, 20, 10]) := S2
  have h2 := b2 _ e2 W2
  obtain ⟨_, hr, hW⟩ := eg9_149_11_0 h2
  injection hr with g1 g2
  rw [S2.2.1] at g1
  rw [g2]
  exact ⟨g1, hW, (ea_fA_t f1 f2), S2⟩
theorem eaA9_2 (S : ea_sA w 2 N A 0 t) (ht : t.length ≤ 28) (h : ec_E hb_X n 9 0 [(0, .inr (.inl 213)), (1, .inl x)] [] w (v, w1)) : v = ec_R (((x + A) * 2) - N) ∧ ec_W hb_A w1 ∧ ea_fA w w1 ∧ ea_sA w1 2 N A 0 (t ++ [11, 10]) := by
  obtain ⟨_, u1, y1, a1, b1⟩ := eg9_149_0_0 h
  obtain ⟨e1, W1, f1, S1⟩ := ea_begA S (by omega) rfl a1
  have h1 := b1 e1 W1
  obtain ⟨_, u2, y2, a2, b2⟩ := eg9_149_6_0 h1
  obtain ⟨e2, W2, f2, S2⟩ := eaA5_2 S1 (by rw [List.length_append]; show t.length + 1 ≤ 29; omega) a2
  rw [List.append_assoc] at S2
  have S2 : ea_sA y2 2 N A 0 (t ++ [11, 10]) := S2
  have h2 := b2 _ e2 W2
  obtain ⟨_, hr, hW⟩ := eg9_149_11_0 h2
  injection hr with g1 g2
  rw [S2.2.1] at g1
  rw [g2]
  exact ⟨g1, hW, (ea_fA_t f1 f2), S2⟩
theorem eaA9_3 (S : ea_sA w 3 N A 0 t) (ht : t.length ≤ 27) (h : ec_E hb_X n 9 0 [(0, .inr (.inl 213)), (1, .inl x)] [] w (v, w1)) : v = ec_R ((((x + A) * 3) * 2) - N) ∧ ec_W hb_A w1 ∧ ea_fA w w1 ∧ ea_sA w1 3 N A 0 (t ++ [11, 40, 10]) := by
  obtain ⟨_, u1, y1, a1, b1⟩ := eg9_149_0_0 h
  obtain ⟨e1, W1, f1, S1⟩ := ea_begA S (by omega) rfl a1
  have h1 := b1 e1 W1
  obtain ⟨_, u2, y2, a2, b2⟩ := eg9_149_6_0 h1
  obtain ⟨e2, W2, f2, S2⟩ := eaA5_3 S1 (by rw [List.length_append]; show t.length + 1 ≤ 28; omega) a2
  rw [List.append_assoc] at S2
  have S2 : ea_sA y2 3 N A 0 (t ++ [11, 40, 10]) := S2
  have h2 := b2 _ e2 W2
  obtain ⟨_, hr, hW⟩ := eg9_149_11_0 h2
  injection hr with g1 g2
  rw [S2.2.1] at g1
  rw [g2]
  exact ⟨g1, hW, (ea_fA_t f1 f2), S2⟩
theorem eaA9_4 (S : ea_sA w 4 N A 0 t) (ht : t.length ≤ 28) (h : ec_E hb_X n 9 0 [(0, .inr (.inl 213)), (1, .inl x)] [] w (v, w1)) : v = ec_R (((x + A) * 2) - N) ∧ ec_W hb_A w1 ∧ ea_fA w w1 ∧ ea_sA w1 4 N A 0 (t ++ [11, 10]) := by
  obtain ⟨_, u1, y1, a1, b1⟩ := eg9_149_0_0 h
  obtain ⟨e1, W1, f1, S1⟩ := ea_begA S (by omega) rfl a1
  have h1 := b1 e1 W1
  obtain ⟨_, u2, y2, a2, b2⟩ := eg9_149_6_0 h1
  obtain ⟨e2, W2, f2, S2⟩ := eaA5_4 S1 (by rw [List.length_append]; show t.length + 1 ≤ 29; omega) a2
  rw [List.append_assoc] at S2
  have S2 : ea_sA y2 4 N A 0 (t ++ [11, 10]) := S2
  have h2 := b2 _ e2 W2
  obtain ⟨_, hr, hW⟩ := eg9_149_11_0 h2
  injection hr with g1 g2
  rw [S2.2.1] at g1
  rw [g2]
  exact ⟨g1, hW, (ea_fA_t f1 f2), S2⟩
theorem eaA9_5 (S : ea_sA w 5 N A 0 t) (ht : t.length ≤ 28) (h : ec_E hb_X n 9 0 [(0, .inr (.inl 213)), (1, .inl x)] [] w (v, w1)) : v = ec_R (((x + A) * 2) - N) ∧ ec_W hb_A w1 ∧ ea_fA w w1 ∧ ea_sA w1 5 N A 0 (t ++ [11, 10]) := by
  obtain ⟨_, u1, y1, a1, b1⟩ := eg9_149_0_0 h
  obtain ⟨e1, W1, f1, S1⟩ := ea_begA S (by omega) rfl a1
  have h1 := b1 e1 W1
  obtain ⟨_, u2, y2, a2, b2⟩ := eg9_149_6_0 h1
  obtain ⟨e2, W2, f2, S2⟩ := eaA5_5 S1 (by rw [List.length_append]; show t.length + 1 ≤ 29; omega) a2
  rw [List.append_assoc] at S2
  have S2 : ea_sA y2 5 N A 0 (t ++ [11, 10]) := S2
  have h2 := b2 _ e2 W2
  obtain ⟨_, hr, hW⟩ := eg9_149_11_0 h2
  injection hr with g1 g2
  rw [S2.2.1] at g1
  rw [g2]
  exact ⟨g1, hW, (ea_fA_t f1 f2), S2⟩
theorem eaA9_6 (S : ea_sA w 6 N A 0 t) (ht : t.length ≤ 28) (h : ec_E hb_X n 9 0 [(0, .inr (.inl 213)), (1, .inl x)] [] w (v, w1)) : v = ec_R (((x + A) * 2) - N) ∧ ec_W hb_A w1 ∧ ea_fA w w1 ∧ ea_sA w1 6 N A 0 (t ++ [11, 10]) := by
  obtain ⟨_, u1, y1, a1, b1⟩ := eg9_149_0_0 h
  obtain ⟨e1, W1, f1, S1⟩ := ea_begA S (by omega) rfl a1
  have h1 := b1 e1 W1
  obtain ⟨_, u2, y2, a2, b2⟩ := eg9_149_6_0 h1
  obtain ⟨e2, W2, f2, S2⟩ := eaA5_6 S1 (by rw [List.length_append]; show t.length + 1 ≤ 29; omega) a2
  rw [List.append_assoc] at S2
  have S2 : ea_sA y2 6 N A 0 (t ++ [11, 10]) := S2
  have h2 := b2 _ e2 W2
  obtain ⟨_, hr, hW⟩ := eg9_149_11_0 h2
  injection hr with g1 g2
  rw [S2.2.1] at g1
  rw [g2]
  exact ⟨g1, hW, (ea_fA_t f1 f2), S2⟩
theorem eaA6_1 (S : ea_sA w 1 N A 0 t) (ht : t.length ≤ 27) (h : ec_E hb_X n 6 0 [(0, .inr (.inl 213)), (1, .inl x)] [] w (v, w1)) : v = ec_R ((((x + A) - 40) * 2) - N) ∧ ec_W hb_A w1 ∧ ea_fA w w1 ∧ ea_sA w1 1 N A 0 (t ++ [11, 20, 10]) := by
  obtain ⟨_, u1, y1, a1, b1⟩ := eg6_149_0_1 h (by rw [S.1]; decide) (by rw [S.1]; decide) (by rw [S.1]; decide) (by rw [S.1]; decide)
  obtain ⟨e1, W1, f1, S1⟩ := eaA9_1 S (by omega) a1
  have h1 := b1 _ e1 W1
  obtain ⟨_, hr, hW⟩ := eg6_149_89_0 h1
  injection hr with g1 g2
  rw [g2]
  exact ⟨g1, hW, f1, S1⟩
theorem eaA6_2 (S : ea_sA w 2 N A 0 t) (ht : t.length ≤ 27) (h : ec_E hb_X n 6 0 [(0, .inr (.inl 213)), (1, .inl x)] [] w (v, w1)) : v = ec_R ((((x + A) * 2) - N) + A) ∧ ec_W hb_A w1 ∧ ea_fA w w1 ∧ ea_sA w1 2 N A 0 (t ++ [30, 11, 10]) := by
  obtain ⟨_, u1, y1, a1, b1⟩ := eg6_149_0_0 h ((congrArg ec_tw S.1).trans rfl)
  obtain ⟨e1, W1, f1, S1⟩ := ea_begA S (by omega) rfl a1
  have h1 := b1 e1 W1
  obtain ⟨_, u2, y2, a2, b2⟩ := eg6_149_22_0 h1
  obtain ⟨e2, W2, f2, S2⟩ := eaA9_2 S1 (by rw [List.length_append]; show t.length + 1 ≤ 28; omega) a2
  rw [List.append_assoc] at S2
  have S2 : ea_sA y2 2 N A 0 (t ++ [30, 11, 10]) := S2
  have h2 := b2 _ e2 W2
  obtain ⟨_, hr, hW⟩ := eg6_149_27_0 h2
  injection hr with g1 g2
  rw [S2.2.2.1] at g1
  rw [g2]
  exact ⟨g1, hW, (ea_fA_t f1 f2), S2⟩
theorem eaA6_3 (S : ea_sA w 3 N A 0 t) (ht : t.length ≤ 26) (h : ec_E hb_X n 6 0 [(0, .inr (.inl 213)), (1, .inl x)] [] w (v, w1)) : v = ec_R (((((x + A) * 3) * 2) - N) + A) ∧ ec_W hb_A w1 ∧ ea_fA w w1 ∧ ea_sA w1 3 N A 0 (t ++ [30, 11, 40, 10]) := by
  obtain ⟨_, u1, y1, a1, b1⟩ := eg6_149_0_4 h (by rw [S.1]; decide) ((congrArg ec_tw S.1).trans rfl)
  obtain ⟨e1, W1, f1, S1⟩ := ea_begA S (by omega) rfl a1
  have h1 := b1 e1 W1
  obtain ⟨_, u2, y2, a2, b2⟩ := eg6_149_22_0 h1
  obtain ⟨e2, W2, f2, S2⟩ := eaA9_3 S1 (by rw [List.length_append]; show t.length + 1 ≤ 27; omega) a2
  rw [List.append_assoc] at S2
  have S2 : ea_sA y2 3 N A 0 (t ++ [30, 11, 40, 10]) := S2
  have h2 := b2 _ e2 W2
  obtain ⟨_, hr, hW⟩ := eg6_149_27_0 h2
  injection hr with g1 g2
  rw [S2.2.2.1] at g1
  rw [g2]
  exact ⟨g1, hW, (ea_fA_t f1 f2), S2⟩
theorem eaA6_4 (S : ea_sA w 4 N A 0 t) (ht : t.length ≤ 28) (h : ec_E hb_X n 6 0 [(0, .inr (.inl 213)), (1, .inl x)] [] w (v, w1)) : v = ec_R (((x + A) * 2) - N) ∧ ec_W hb_A w1 ∧ ea_fA w w1 ∧ ea_sA w1 4 N A 0 (t ++ [11, 10]) := by
  obtain ⟨_, u1, y1, a1, b1⟩ := eg6_149_0_1 h (by rw [S.1]; decide) (by rw [S.1]; decide) (by rw [S.1]; decide) (by rw [S.1]; decide)
  obtain ⟨e1, W1, f1, S1⟩ := eaA9_4 S (by omega) a1
  have h1 := b1 _ e1 W1
  obtain ⟨_, hr, hW⟩ := eg6_149_89_0 h1
  injection hr with g1 g2
  rw [g2]
  exact ⟨g1, hW, f1, S1⟩
theorem eaA6_5 (S : ea_sA w 5 N A 0 t) (ht : t.length ≤ 27) (h : ec_E hb_X n 6 0 [(0, .inr (.inl 213)), (1, .inl x)] [] w (v, w1)) : v = ec_R (0 - (((x + A) * 2) - N)) ∧ ec_W hb_A w1 ∧ ea_fA w w1 ∧ ea_sA w1 5 N A 0 (t ++ [60, 11, 10]) := by
  obtain ⟨_, u1, y1, a1, b1⟩ := eg6_149_0_3 h (by rw [S.1]; decide) (by rw [S.1]; decide) ((congrArg ec_tw S.1).trans rfl)
  obtain ⟨e1, W1, f1, S1⟩ := ea_begA S (by omega) rfl a1
  have h1 := b1 e1 W1
  obtain ⟨_, u2, y2, a2, b2⟩ := eg6_149_47_0 h1
  obtain ⟨e2, W2, f2, S2⟩ := eaA9_5 S1 (by rw [List.length_append]; show t.length + 1 ≤ 28; omega) a2
  rw [List.append_assoc] at S2
  have S2 : ea_sA y2 5 N A 0 (t ++ [60, 11, 10]) := S2
  have h2 := b2 _ e2 W2
  obtain ⟨_, hr, hW⟩ := eg6_149_53_0 h2
  injection hr with g1 g2
  rw [g2]
  exact ⟨g1, hW, (ea_fA_t f1 f2), S2⟩
theorem eaA6_6 (S : ea_sA w 6 N A 0 t) (ht : t.length ≤ 26) (h : ec_E hb_X n 6 0 [(0, .inr (.inl 213)), (1, .inl x)] [] w (v, w1)) : v = ec_R ((((x + A) * 2) - N) + (0 + A)) ∧ ec_W hb_A w1 ∧ ea_fA w w1 ∧ ea_sA w1 6 N A 0 (t ++ [71, 11, 10, 10]) := by
  obtain ⟨_, u1, y1, a1, b1⟩ := eg6_149_0_2 h (by rw [S.1]; decide) (by rw [S.1]; decide) (by rw [S.1]; decide) ((congrArg ec_tw S.1).trans rfl)
  obtain ⟨e1, W1, f1, S1⟩ := ea_begA S (by omega) rfl a1
  have h1 := b1 e1 W1
  obtain ⟨_, u2, y2, a2, b2⟩ := eg6_149_70_0 h1
  obtain ⟨e2, W2, f2, S2⟩ := eaA9_6 S1 (by rw [List.length_append]; show t.length + 1 ≤ 28; omega) a2
  rw [List.append_assoc] at S2
  have S2 : ea_sA y2 6 N A 0 (t ++ [71, 11, 10]) := S2
  have h2 := b2 _ e2 W2
  obtain ⟨_, u3, y3, a3, b3⟩ := eg6_149_75_0 h2
  obtain ⟨e3, W3, f3, S3⟩ := eaA5_6 S2 (by rw [List.length_append]; show t.length + 3 ≤ 29; omega) a3
  rw [List.append_assoc] at S3
  have S3 : ea_sA y3 6 N A 0 (t ++ [71, 11, 10, 10]) := S3
  have h3 := b3 _ e3 W3
  obtain ⟨_, hr, hW⟩ := eg6_149_82_0 h3
  injection hr with g1 g2
  rw [g2]
  exact ⟨g1, hW, (ea_fA_t (ea_fA_t f1 f2) f3), S3⟩
theorem eaA7_1_0 (S : ea_sA w 1 N A 0 t) (ht : t.length ≤ 26) (rA : ec_tw A = A) (rN : ec_tw N = N) (hq : A ≠ N) (h : ec_E hb_X n 7 0 [(0, .inr (.inl 213)), (1, .inl x)] [] w (v, w1)) : v = ec_R ((ec_dv x (A - N)) + ((1 + A) - 40)) ∧ ec_W hb_A w1 ∧ ea_fA w w1 ∧ ea_sA w1 1 N A 0 (t ++ [21, 12, 20, 10]) := by
  obtain ⟨_, u1, y1, a1, b1⟩ := eg7_149_0_2 h ((congrArg ec_tw S.1).trans rfl)
  obtain ⟨e1, W1, f1, S1⟩ := ea_begA S (by omega) rfl a1
  have h1 := b1 e1 W1
  obtain ⟨_, u2, y2, a2, b2⟩ := eg7_149_14_0 h1
  obtain ⟨e2, W2, f2, S2⟩ := eaA10_0 S1 (by rw [List.length_append]; show t.length + 1 ≤ 29; omega) rA rN hq a2
  rw [List.append_assoc] at S2
  have S2 : ea_sA y2 1 N A 0 (t ++ [21, 12]) := S2
  have h2 := b2 _ e2 W2
  obtain ⟨_, u3, y3, a3, b3⟩ := eg7_149_19_0 h2 ((congrArg ec_tw S2.2.2.2.1).trans rfl)
  obtain ⟨e3, W3, f3, S3⟩ := eaA5_1 S2 (by rw [List.length_append]; show t.length + 2 ≤ 28; omega) a3
  rw [List.append_assoc] at S3
  have S3 : ea_sA y3 1 N A 0 (t ++ [21, 12, 20, 10]) := S3
  have h3 := b3 _ e3 W3
  obtain ⟨_, hr, hW⟩ := eg7_149_37_0 h3
  injection hr with g1 g2
  rw [g2]
  exact ⟨g1, hW, (ea_fA_t (ea_fA_t f1 f2) f3), S3⟩
theorem eaA7_1_1 (S : ea_sA w 1 N A 0 t) (ht : t.length ≤ 28) (rA : ec_tw A = A) (rN : ec_tw N = N) (hq : A = N) (h : ec_E hb_X n 7 0 [(0, .inr (.inl 213)), (1, .inl x)] [] w (v, w1)) : v = ec_R (0) ∧ ec_W hb_A w1 ∧ ea_fA w w1 ∧ ea_sA w1 1 N A 1 (t ++ [21, 12]) := by
  obtain ⟨_, u1, y1, a1, b1⟩ := eg7_149_0_2 h ((congrArg ec_tw S.1).trans rfl)
  obtain ⟨e1, W1, f1, S1⟩ := ea_begA S (by omega) rfl a1
  have h1 := b1 e1 W1
  obtain ⟨_, u2, y2, a2, b2⟩ := eg7_149_14_0 h1
  obtain ⟨e2, W2, f2, S2⟩ := eaA10_1 S1 (by rw [List.length_append]; show t.length + 1 ≤ 29; omega) rA rN hq a2
  rw [List.append_assoc] at S2
  have S2 : ea_sA y2 1 N A 1 (t ++ [21, 12]) := S2
  have h2 := b2 _ e2 W2
  obtain ⟨_, hr, hW⟩ := eg7_149_19_1 h2 (by rw [S2.2.2.2.1]; decide)
  injection hr with g1 g2
  rw [g2]
  exact ⟨g1, hW, (ea_fA_t f1 f2), S2⟩
theorem eaA7_2_0 (S : ea_sA w 2 N A 0 t) (ht : t.length ≤ 29) (rA : ec_tw A = A) (rN : ec_tw N = N) (hq : A ≠ N) (h : ec_E hb_X n 7 0 [(0, .inr (.inl 213)), (1, .inl x)] [] w (v, w1)) : v = ec_R (ec_dv x (A - N)) ∧ ec_W hb_A w1 ∧ ea_fA w w1 ∧ ea_sA w1 2 N A 0 (t ++ [12]) := by
  obtain ⟨_, u1, y1, a1, b1⟩ := eg7_149_0_0 h (by rw [S.1]; decide) (by rw [S.1]; decide)
  obtain ⟨e1, W1, f1, S1⟩ := eaA10_0 S (by omega) rA rN hq a1
  have h1 := b1 _ e1 W1
  obtain ⟨_, hr, hW⟩ := eg7_149_67_0 h1
  injection hr with g1 g2
  rw [g2]
  exact ⟨g1, hW, f1, S1⟩
theorem eaA7_2_1 (S : ea_sA w 2 N A 0 t) (ht : t.length ≤ 29) (rA : ec_tw A = A) (rN : ec_tw N = N) (hq : A = N) (h : ec_E hb_X n 7 0 [(0, .inr (.inl 213)), (1, .inl x)] [] w (v, w1)) : v = ec_R (0) ∧ ec_W hb_A w1 ∧ ea_fA w w1 ∧ ea_sA w1 2 N A 1 (t ++ [12]) := by
  obtain ⟨_, u1, y1, a1, b1⟩ := eg7_149_0_0 h (by rw [S.1]; decide) (by rw [S.1]; decide)
  obtain ⟨e1, W1, f1, S1⟩ := eaA10_1 S (by omega) rA rN hq a1
  have h1 := b1 _ e1 W1
  obtain ⟨_, hr, hW⟩ := eg7_149_67_0 h1
  injection hr with g1 g2
  rw [g2]
  exact ⟨g1, hW, f1, S1⟩
theorem eaA7_3_0 (S : ea_sA w 3 N A 0 t) (ht : t.length ≤ 29) (rA : ec_tw A = A) (rN : ec_tw N = N) (hq : A ≠ N) (h : ec_E hb_X n 7 0 [(0, .inr (.inl 213)), (1, .inl x)] [] w (v, w1)) : v = ec_R (ec_dv x (A - N)) ∧ ec_W hb_A w1 ∧ ea_fA w w1 ∧ ea_sA w1 3 N A 0 (t ++ [12]) := by
  obtain ⟨_, u1, y1, a1, b1⟩ := eg7_149_0_0 h (by rw [S.1]; decide) (by rw [S.1]; decide)
  obtain ⟨e1, W1, f1, S1⟩ := eaA10_0 S (by omega) rA rN hq a1
  have h1 := b1 _ e1 W1
  obtain ⟨_, hr, hW⟩ := eg7_149_67_0 h1
  injection hr with g1 g2
  rw [g2]
  exact ⟨g1, hW, f1, S1⟩
theorem eaA7_3_1 (S : ea_sA w 3 N A 0 t) (ht : t.length ≤ 29) (rA : ec_tw A = A) (rN : ec_tw N = N) (hq : A = N) (h : ec_E hb_X n 7 0 [(0, .inr (.inl 213)), (1, .inl x)] [] w (v, w1)) : v = ec_R (0) ∧ ec_W hb_A w1 ∧ ea_fA w w1 ∧ ea_sA w1 3 N A 1 (t ++ [12]) := by
  obtain ⟨_, u1, y1, a1, b1⟩ := eg7_149_0_0 h (by rw [S.1]; decide) (by rw [S.1]; decide)
  obtain ⟨e1, W1, f1, S1⟩ := eaA10_1 S (by omega) rA rN hq a1
  have h1 := b1 _ e1 W1
  obtain ⟨_, hr, hW⟩ := eg7_149_67_0 h1
  injection hr with g1 g2
  rw [g2]
  exact ⟨g1, hW, f1, S1⟩
theorem eaA7_4_0 (S : ea_sA w 4 N A 0 t) (ht : t.length ≤ 29) (rA : ec_tw A = A) (rN : ec_tw N = N) (hq : A ≠ N) (h : ec_E hb_X n 7 0 [(0, .inr (.inl 213)), (1, .inl x)] [] w (v, w1)) : v = ec_R (ec_dv x (A - N)) ∧ ec_W hb_A w1 ∧ ea_fA w w1 ∧ ea_sA w1 4 N A 0 (t ++ [12]) := by
  obtain ⟨_, u1, y1, a1, b1⟩ := eg7_149_0_0 h (by rw [S.1]; decide) (by rw [S.1]; decide)
  obtain ⟨e1, W1, f1, S1⟩ := eaA10_0 S (by omega) rA rN hq a1
  have h1 := b1 _ e1 W1
  obtain ⟨_, hr, hW⟩ := eg7_149_67_0 h1
  injection hr with g1 g2
  rw [g2]
  exact ⟨g1, hW, f1, S1⟩
theorem eaA7_4_1 (S : ea_sA w 4 N A 0 t) (ht : t.length ≤ 29) (rA : ec_tw A = A) (rN : ec_tw N = N) (hq : A = N) (h : ec_E hb_X n 7 0 [(0, .inr (.inl 213)), (1, .inl x)] [] w (v, w1)) : v = ec_R (0) ∧ ec_W hb_A w1 ∧ ea_fA w w1 ∧ ea_sA w1 4 N A 1 (t ++ [12]) := by
  obtain ⟨_, u1, y1, a1, b1⟩ := eg7_149_0_0 h (by rw [S.1]; decide) (by rw [S.1]; decide)
  obtain ⟨e1, W1, f1, S1⟩ := eaA10_1 S (by omega) rA rN hq a1
  have h1 := b1 _ e1 W1
  obtain ⟨_, hr, hW⟩ := eg7_149_67_0 h1
  injection hr with g1 g2
  rw [g2]
  exact ⟨g1, hW, f1, S1⟩
theorem eaA7_5_0 (S : ea_sA w 5 N A 0 t) (ht : t.length ≤ 29) (rA : ec_tw A = A) (rN : ec_tw N = N) (hq : A ≠ N) (h : ec_E hb_X n 7 0 [(0, .inr (.inl 213)), (1, .inl x)] [] w (v, w1)) : v = ec_R (ec_dv x (A - N)) ∧ ec_W hb_A w1 ∧ ea_fA w w1 ∧ ea_sA w1 5 N A 0 (t ++ [12]) := by
  obtain ⟨_, u1, y1, a1, b1⟩ := eg7_149_0_0 h (by rw [S.1]; decide) (by rw [S.1]; decide)
  obtain ⟨e1, W1, f1, S1⟩ := eaA10_0 S (by omega) rA rN hq a1
  have h1 := b1 _ e1 W1
  obtain ⟨_, hr, hW⟩ := eg7_149_67_0 h1
  injection hr with g1 g2
  rw [g2]
  exact ⟨g1, hW, f1, S1⟩
theorem eaA7_5_1 (S : ea_sA w 5 N A 0 t) (ht : t.length ≤ 29) (rA : ec_tw A = A) (rN : ec_tw N = N) (hq : A = N) (h : ec_E hb_X n 7 0 [(0, .inr (.inl 213)), (1, .inl x)] [] w (v, w1)) : v = ec_R (0) ∧ ec_W hb_A w1 ∧ ea_fA w w1 ∧ ea_sA w1 5 N A 1 (t ++ [12]) := by
  obtain ⟨_, u1, y1, a1, b1⟩ := eg7_149_0_0 h (by rw [S.1]; decide) (by rw [S.1]; decide)
  obtain ⟨e1, W1, f1, S1⟩ := eaA10_1 S (by omega) rA rN hq a1
  have h1 := b1 _ e1 W1
  obtain ⟨_, hr, hW⟩ := eg7_149_67_0 h1
  injection hr with g1 g2
  rw [g2]
  exact ⟨g1, hW, f1, S1⟩
theorem eaA7_6_0 (S : ea_sA w 6 N A 0 t) (ht : t.length ≤ 28) (rA : ec_tw A = A) (rN : ec_tw N = N) (hq : A ≠ N) (h : ec_E hb_X n 7 0 [(0, .inr (.inl 213)), (1, .inl x)] [] w (v, w1)) : v = ec_R (ec_dv (x * 2) (A - N)) ∧ ec_W hb_A w1 ∧ ea_fA w w1 ∧ ea_sA w1 6 N A 0 (t ++ [70, 12]) := by
  obtain ⟨_, u1, y1, a1, b1⟩ := eg7_149_0_1 h (by rw [S.1]; decide) ((congrArg ec_tw S.1).trans rfl)
  obtain ⟨e1, W1, f1, S1⟩ := ea_begA S (by omega) rfl a1
  have h1 := b1 e1 W1
  obtain ⟨_, u2, y2, a2, b2⟩ := eg7_149_54_0 h1
  obtain ⟨e2, W2, f2, S2⟩ := eaA10_0 S1 (by rw [List.length_append]; show t.length + 1 ≤ 29; omega) rA rN hq a2
  rw [List.append_assoc] at S2
  have S2 : ea_sA y2 6 N A 0 (t ++ [70, 12]) := S2
  have h2 := b2 _ e2 W2
  obtain ⟨_, hr, hW⟩ := eg7_149_61_0 h2
  injection hr with g1 g2
  rw [g2]
  exact ⟨g1, hW, (ea_fA_t f1 f2), S2⟩
theorem eaA7_6_1 (S : ea_sA w 6 N A 0 t) (ht : t.length ≤ 28) (rA : ec_tw A = A) (rN : ec_tw N = N) (hq : A = N) (h : ec_E hb_X n 7 0 [(0, .inr (.inl 213)), (1, .inl x)] [] w (v, w1)) : v = ec_R (0) ∧ ec_W hb_A w1 ∧ ea_fA w w1 ∧ ea_sA w1 6 N A 1 (t ++ [70, 12]) := by
  obtain ⟨_, u1, y1, a1, b1⟩ := eg7_149_0_1 h (by rw [S.1]; decide) ((congrArg ec_tw S.1).trans rfl)
  obtain ⟨e1, W1, f1, S1⟩ := ea_begA S (by omega) rfl a1
  have h1 := b1 e1 W1
  obtain ⟨_, u2, y2, a2, b2⟩ := eg7_149_54_0 h1
  obtain ⟨e2, W2, f2, S2⟩ := eaA10_1 S1 (by rw [List.length_append]; show t.length + 1 ≤ 29; omega) rA rN hq a2
  rw [List.append_assoc] at S2
  have S2 : ea_sA y2 6 N A 1 (t ++ [70, 12]) := S2
  have h2 := b2 _ e2 W2
  obtain ⟨_, hr, hW⟩ := eg7_149_61_0 h2
  injection hr with g1 g2
  rw [g2]
  exact ⟨g1, hW, (ea_fA_t f1 f2), S2⟩
theorem eaA11_1 (S : ea_sA w 1 N A 0 t) (ht : t.length ≤ 26) (h : ec_E hb_X n 11 0 [(0, .inr (.inl 213)), (1, .inl x)] [] w (v, w1)) : v = ec_R (ec_xor ((((x + A) - 40) * 2) - N) A) ∧ ec_W hb_A w1 ∧ ea_fA w w1 ∧ ea_sA w1 1 N A 0 (t ++ [13, 11, 20, 10]) := by
  obtain ⟨_, u1, y1, a1, b1⟩ := eg11_149_0_0 h
  obtain ⟨e1, W1, f1, S1⟩ := ea_begA S (by omega) rfl a1
  have h1 := b1 e1 W1
  obtain ⟨_, u2, y2, a2, b2⟩ := eg11_149_6_0 h1
  obtain ⟨e2, W2, f2, S2⟩ := eaA6_1 S1 (by rw [List.length_append]; show t.length + 1 ≤ 27; omega) a2
  rw [List.append_assoc] at S2
  have S2 : ea_sA y2 1 N A 0 (t ++ [13, 11, 20, 10]) := S2
  have h2 := b2 _ e2 W2
  obtain ⟨_, hr, hW⟩ := eg11_149_11_0 h2
  injection hr with g1 g2
  rw [S2.2.2.1] at g1
  rw [g2]
  exact ⟨g1, hW, (ea_fA_t f1 f2), S2⟩
theorem eaA11_2 (S : ea_sA w 2 N A 0 t) (ht : t.length ≤ 26) (h : ec_E hb_X n 11 0 [(0, .inr (.inl 213)), (1, .inl x)] [] w (v, w1)) : v = ec_R (ec_xor ((((x + A) * 2) - N) + A) A) ∧ ec_W hb_A w1 ∧ ea_fA w w1 ∧ ea_sA w1 2 N A 0 (t ++ [13, 30, 11, 10]) := by
  obtain ⟨_, u1, y1, a1, b1⟩ := eg11_149_0_0 h
  obtain ⟨e1, W1, f1, S1⟩ := ea_begA S (by omega) rfl a1
  have h1 := b1 e1 W1
  obtain ⟨_, u2, y2, a2, b2⟩ := eg11_149_6_0 h1
  obtain ⟨e2, W2, f2, S2⟩ := eaA6_2 S1 (by rw [List.length_append]; show t.length + 1 ≤ 27; omega) a2
  rw [List.append_assoc] at S2
  have S2 : ea_sA y2 2 N A 0 (t ++ [13, 30, 11, 10]) := S2
  have h2 := b2 _ e2 W2
  obtain ⟨_, hr, hW⟩ := eg11_149_11_0 h2
  injection hr with g1 g2
  rw [S2.2.2.1] at g1
  rw [g2]
  exact ⟨g1, hW, (ea_fA_t f1 f2), S2⟩
theorem eaA11_3 (S : ea_sA w 3 N A 0 t) (ht : t.length ≤ 25) (h : ec_E hb_X n 11 0 [(0, .inr (.inl 213)), (1, .inl x)] [] w (v, w1)) : v = ec_R (ec_xor (((((x + A) * 3) * 2) - N) + A) A) ∧ ec_W hb_A w1 ∧ ea_fA w w1 ∧ ea_sA w1 3 N A 0 (t ++ [13, 30, 11, 40, 10]) := by
  obtain ⟨_, u1, y1, a1, b1⟩ := eg11_149_0_0 h
  obtain ⟨e1, W1, f1, S1⟩ := ea_begA S (by omega) rfl a1
  have h1 := b1 e1 W1
  obtain ⟨_, u2, y2, a2, b2⟩ := eg11_149_6_0 h1
  obtain ⟨e2, W2, f2, S2⟩ := eaA6_3 S1 (by rw [List.length_append]; show t.length + 1 ≤ 26; omega) a2
  rw [List.append_assoc] at S2
  have S2 : ea_sA y2 3 N A 0 (t ++ [13, 30, 11, 40, 10]) := S2
  have h2 := b2 _ e2 W2
  obtain ⟨_, hr, hW⟩ := eg11_149_11_0 h2
  injection hr with g1 g2
  rw [S2.2.2.1] at g1
  rw [g2]
  exact ⟨g1, hW, (ea_fA_t f1 f2), S2⟩
theorem eaA11_4 (S : ea_sA w 4 N A 0 t) (ht : t.length ≤ 27) (h : ec_E hb_X n 11 0 [(0, .inr (.inl 213)), (1, .inl x)] [] w (v, w1)) : v = ec_R (ec_xor (((x + A) * 2) - N) A) ∧ ec_W hb_A w1 ∧ ea_fA w w1 ∧ ea_sA w1 4 N A 0 (t ++ [13, 11, 10]) := by
  obtain ⟨_, u1, y1, a1, b1⟩ := eg11_149_0_0 h
  obtain ⟨e1, W1, f1, S1⟩ := ea_begA S (by omega) rfl a1
  have h1 := b1 e1 W1
  obtain ⟨_, u2, y2, a2, b2⟩ := eg11_149_6_0 h1
  obtain ⟨e2, W2, f2, S2⟩ := eaA6_4 S1 (by rw [List.length_append]; show t.length + 1 ≤ 28; omega) a2
  rw [List.append_assoc] at S2
  have S2 : ea_sA y2 4 N A 0 (t ++ [13, 11, 10]) := S2
  have h2 := b2 _ e2 W2
  obtain ⟨_, hr, hW⟩ := eg11_149_11_0 h2
  injection hr with g1 g2
  rw [S2.2.2.1] at g1
  rw [g2]
  exact ⟨g1, hW, (ea_fA_t f1 f2), S2⟩
theorem eaA11_5 (S : ea_sA w 5 N A 0 t) (ht : t.length ≤ 26) (h : ec_E hb_X n 11 0 [(0, .inr (.inl 213)), (1, .inl x)] [] w (v, w1)) : v = ec_R (ec_xor (0 - (((x + A) * 2) - N)) A) ∧ ec_W hb_A w1 ∧ ea_fA w w1 ∧ ea_sA w1 5 N A 0 (t ++ [13, 60, 11, 10]) := by
  obtain ⟨_, u1, y1, a1, b1⟩ := eg11_149_0_0 h
  obtain ⟨e1, W1, f1, S1⟩ := ea_begA S (by omega) rfl a1
  have h1 := b1 e1 W1
  obtain ⟨_, u2, y2, a2, b2⟩ := eg11_149_6_0 h1
  obtain ⟨e2, W2, f2, S2⟩ := eaA6_5 S1 (by rw [List.length_append]; show t.length + 1 ≤ 27; omega) a2
  rw [List.append_assoc] at S2
  have S2 : ea_sA y2 5 N A 0 (t ++ [13, 60, 11, 10]) := S2
  have h2 := b2 _ e2 W2
  obtain ⟨_, hr, hW⟩ := eg11_149_11_0 h2
  injection hr with g1 g2
  rw [S2.2.2.1] at g1
  rw [g2]
  exact ⟨g1, hW, (ea_fA_t f1 f2), S2⟩
theorem eaA11_6 (S : ea_sA w 6 N A 0 t) (ht : t.length ≤ 25) (h : ec_E hb_X n 11 0 [(0, .inr (.inl 213)), (1, .inl x)] [] w (v, w1)) : v = ec_R (ec_xor ((((x + A) * 2) - N) + (0 + A)) A) ∧ ec_W hb_A w1 ∧ ea_fA w w1 ∧ ea_sA w1 6 N A 0 (t ++ [13, 71, 11, 10, 10]) := by
  obtain ⟨_, u1, y1, a1, b1⟩ := eg11_149_0_0 h
  obtain ⟨e1, W1, f1, S1⟩ := ea_begA S (by omega) rfl a1
  have h1 := b1 e1 W1
  obtain ⟨_, u2, y2, a2, b2⟩ := eg11_149_6_0 h1
  obtain ⟨e2, W2, f2, S2⟩ := eaA6_6 S1 (by rw [List.length_append]; show t.length + 1 ≤ 26; omega) a2
  rw [List.append_assoc] at S2
  have S2 : ea_sA y2 6 N A 0 (t ++ [13, 71, 11, 10, 10]) := S2
  have h2 := b2 _ e2 W2
  obtain ⟨_, hr, hW⟩ := eg11_149_11_0 h2
  injection hr with g1 g2
  rw [S2.2.2.1] at g1
  rw [g2]
  exact ⟨g1, hW, (ea_fA_t f1 f2), S2⟩
theorem eaA8_1 (S : ea_sA w 1 N A 0 t) (ht : t.length ≤ 26) (h : ec_E hb_X n 8 0 [(0, .inr (.inl 213)), (1, .inl x)] [] w (v, w1)) : v = ec_R (ec_xor ((((x + A) - 40) * 2) - N) A) ∧ ec_W hb_A w1 ∧ ea_fA w w1 ∧ ea_sA w1 1 N A 0 (t ++ [13, 11, 20, 10]) := by
  obtain ⟨_, u1, y1, a1, b1⟩ := eg8_149_0_1 h (by rw [S.1]; decide) (by rw [S.1]; decide) (by rw [S.1]; decide)
  obtain ⟨e1, W1, f1, S1⟩ := eaA11_1 S (by omega) a1
  have h1 := b1 _ e1 W1
  obtain ⟨_, hr, hW⟩ := eg8_149_63_0 h1
  injection hr with g1 g2
  rw [g2]
  exact ⟨g1, hW, f1, S1⟩
theorem eaA8_2 (S : ea_sA w 2 N A 0 t) (ht : t.length ≤ 26) (h : ec_E hb_X n 8 0 [(0, .inr (.inl 213)), (1, .inl x)] [] w (v, w1)) : v = ec_R (ec_xor ((((x + A) * 2) - N) + A) A) ∧ ec_W hb_A w1 ∧ ea_fA w w1 ∧ ea_sA w1 2 N A 0 (t ++ [13, 30, 11, 10]) := by
  obtain ⟨_, u1, y1, a1, b1⟩ := eg8_149_0_1 h (by rw [S.1]; decide) (by rw [S.1]; decide) (by rw [S.1]; decide)
  obtain ⟨e1, W1, f1, S1⟩ := eaA11_2 S (by omega) a1
  have h1 := b1 _ e1 W1
  obtain ⟨_, hr, hW⟩ := eg8_149_63_0 h1
  injection hr with g1 g2
  rw [g2]
  exact ⟨g1, hW, f1, S1⟩
theorem eaA8_3 (S : ea_sA w 3 N A 0 t) (ht : t.length ≤ 24) (h : ec_E hb_X n 8 0 [(0, .inr (.inl 213)), (1, .inl x)] [] w (v, w1)) : v = ec_R ((ec_xor (((((x + A) * 3) * 2) - N) + A) A) - 1) ∧ ec_W hb_A w1 ∧ ea_fA w w1 ∧ ea_sA w1 3 N A 0 (t ++ [41, 13, 30, 11, 40, 10]) := by
  obtain ⟨_, u1, y1, a1, b1⟩ := eg8_149_0_3 h ((congrArg ec_tw S.1).trans rfl)
  obtain ⟨e1, W1, f1, S1⟩ := ea_begA S (by omega) rfl a1
  have h1 := b1 e1 W1
  obtain ⟨_, u2, y2, a2, b2⟩ := eg8_149_14_0 h1
  obtain ⟨e2, W2, f2, S2⟩ := eaA11_3 S1 (by rw [List.length_append]; show t.length + 1 ≤ 25; omega) a2
  rw [List.append_assoc] at S2
  have S2 : ea_sA y2 3 N A 0 (t ++ [41, 13, 30, 11, 40, 10]) := S2
  have h2 := b2 _ e2 W2
  obtain ⟨_, hr, hW⟩ := eg8_149_19_0 h2
  injection hr with g1 g2
  rw [g2]
  exact ⟨g1, hW, (ea_fA_t f1 f2), S2⟩
theorem eaA8_4 (S : ea_sA w 4 N A 0 t) (ht : t.length ≤ 25) (h : ec_E hb_X n 8 0 [(0, .inr (.inl 213)), (1, .inl x)] [] w (v, w1)) : v = ec_R (ec_xor (ec_xor (((x + A) * 2) - N) A) (x + A)) ∧ ec_W hb_A w1 ∧ ea_fA w w1 ∧ ea_sA w1 4 N A 0 (t ++ [50, 13, 11, 10, 10]) := by
  obtain ⟨_, u1, y1, a1, b1⟩ := eg8_149_0_0 h (by rw [S.1]; decide) ((congrArg ec_tw S.1).trans rfl)
  obtain ⟨e1, W1, f1, S1⟩ := ea_begA S (by omega) rfl a1
  have h1 := b1 e1 W1
  obtain ⟨_, u2, y2, a2, b2⟩ := eg8_149_44_0 h1
  obtain ⟨e2, W2, f2, S2⟩ := eaA11_4 S1 (by rw [List.length_append]; show t.length + 1 ≤ 27; omega) a2
  rw [List.append_assoc] at S2
  have S2 : ea_sA y2 4 N A 0 (t ++ [50, 13, 11, 10]) := S2
  have h2 := b2 _ e2 W2
  obtain ⟨_, u3, y3, a3, b3⟩ := eg8_149_49_0 h2
  obtain ⟨e3, W3, f3, S3⟩ := eaA5_4 S2 (by rw [List.length_append]; show t.length + 4 ≤ 29; omega) a3
  rw [List.append_assoc] at S3
  have S3 : ea_sA y3 4 N A 0 (t ++ [50, 13, 11, 10, 10]) := S3
  have h3 := b3 _ e3 W3
  obtain ⟨_, hr, hW⟩ := eg8_149_56_0 h3
  injection hr with g1 g2
  rw [g2]
  exact ⟨g1, hW, (ea_fA_t (ea_fA_t f1 f2) f3), S3⟩
theorem eaA8_5 (S : ea_sA w 5 N A 0 t) (ht : t.length ≤ 24) (h : ec_E hb_X n 8 0 [(0, .inr (.inl 213)), (1, .inl x)] [] w (v, w1)) : v = ec_R (ec_xor (ec_xor (0 - (((x + A) * 2) - N)) A) (x + A)) ∧ ec_W hb_A w1 ∧ ea_fA w w1 ∧ ea_sA w1 5 N A 0 (t ++ [50, 13, 60, 11, 10, 10]) := by
  obtain ⟨_, u1, y1, a1, b1⟩ := eg8_149_0_2 h (by rw [S.1]; decide) (by rw [S.1]; decide) ((congrArg ec_tw S.1).trans rfl)
  obtain ⟨e1, W1, f1, S1⟩ := ea_begA S (by omega) rfl a1
  have h1 := b1 e1 W1
  obtain ⟨_, u2, y2, a2, b2⟩ := eg8_149_44_0 h1
  obtain ⟨e2, W2, f2, S2⟩ := eaA11_5 S1 (by rw [List.length_append]; show t.length + 1 ≤ 26; omega) a2
  rw [List.append_assoc] at S2
  have S2 : ea_sA y2 5 N A 0 (t ++ [50, 13, 60, 11, 10]) := S2
  have h2 := b2 _ e2 W2
  obtain ⟨_, u3, y3, a3, b3⟩ := eg8_149_49_0 h2
  obtain ⟨e3, W3, f3, S3⟩ := eaA5_5 S2 (by rw [List.length_append]; show t.length + 5 ≤ 29; omega) a3
  rw [List.append_assoc] at S3
  have S3 : ea_sA y3 5 N A 0 (t ++ [50, 13, 60, 11, 10, 10]) := S3
  have h3 := b3 _ e3 W3
  obtain ⟨_, hr, hW⟩ := eg8_149_56_0 h3
  injection hr with g1 g2
  rw [g2]
  exact ⟨g1, hW, (ea_fA_t (ea_fA_t f1 f2) f3), S3⟩
theorem eaA8_6 (S : ea_sA w 6 N A 0 t) (ht : t.length ≤ 25) (h : ec_E hb_X n 8 0 [(0, .inr (.inl 213)), (1, .inl x)] [] w (v, w1)) : v = ec_R (ec_xor ((((x + A) * 2) - N) + (0 + A)) A) ∧ ec_W hb_A w1 ∧ ea_fA w w1 ∧ ea_sA w1 6 N A 0 (t ++ [13, 71, 11, 10, 10]) := by
  obtain ⟨_, u1, y1, a1, b1⟩ := eg8_149_0_1 h (by rw [S.1]; decide) (by rw [S.1]; decide) (by rw [S.1]; decide)
  obtain ⟨e1, W1, f1, S1⟩ := eaA11_6 S (by omega) a1
  have h1 := b1 _ e1 W1
  obtain ⟨_, hr, hW⟩ := eg8_149_63_0 h1
  injection hr with g1 g2
  rw [g2]
  exact ⟨g1, hW, f1, S1⟩
theorem eaB281_1 (S : ea_sB w 1 N A 0 t) (ht : t.length ≤ 29) (h : ec_E hb_X n 281 0 [(0, .inr (.inl 215)), (1, .inl x)] [] w (v, w1)) : v = ec_R (x + A) ∧ ec_W hb_A w1 ∧ ea_fB w w1 ∧ ea_sB w1 1 N A 0 (t ++ [10]) := by
  obtain ⟨_, u1, y1, a1, b1⟩ := eg281_151_0_0 h
  obtain ⟨e1, W1, f1, S1⟩ := ea_begB S (by omega) rfl a1
  have h1 := b1 e1 W1
  obtain ⟨_, hr, hW⟩ := eg281_151_6_0 h1
  injection hr with g1 g2
  rw [S1.2.2.1] at g1
  rw [g2]
  exact ⟨g1, hW, f1, S1⟩
theorem eaB281_2 (S : ea_sB w 2 N A 0 t) (ht : t.length ≤ 29) (h : ec_E hb_X n 281 0 [(0, .inr (.inl 215)), (1, .inl x)] [] w (v, w1)) : v = ec_R (x + A) ∧ ec_W hb_A w1 ∧ ea_fB w w1 ∧ ea_sB w1 2 N A 0 (t ++ [10]) := by
  obtain ⟨_, u1, y1, a1, b1⟩ := eg281_151_0_0 h
  obtain ⟨e1, W1, f1, S1⟩ := ea_begB S (by omega) rfl a1
  have h1 := b1 e1 W1
  obtain ⟨_, hr, hW⟩ := eg281_151_6_0 h1
  injection hr with g1 g2
  rw [S1.2.2.1] at g1
  rw [g2]
  exact ⟨g1, hW, f1, S1⟩
theorem eaB281_3 (S : ea_sB w 3 N A 0 t) (ht : t.length ≤ 29) (h : ec_E hb_X n 281 0 [(0, .inr (.inl 215)), (1, .inl x)] [] w (v, w1)) : v = ec_R (x + A) ∧ ec_W hb_A w1 ∧ ea_fB w w1 ∧ ea_sB w1 3 N A 0 (t ++ [10]) := by
  obtain ⟨_, u1, y1, a1, b1⟩ := eg281_151_0_0 h
  obtain ⟨e1, W1, f1, S1⟩ := ea_begB S (by omega) rfl a1
  have h1 := b1 e1 W1
  obtain ⟨_, hr, hW⟩ := eg281_151_6_0 h1
  injection hr with g1 g2
  rw [S1.2.2.1] at g1
  rw [g2]
  exact ⟨g1, hW, f1, S1⟩
theorem eaB281_4 (S : ea_sB w 4 N A 0 t) (ht : t.length ≤ 29) (h : ec_E hb_X n 281 0 [(0, .inr (.inl 215)), (1, .inl x)] [] w (v, w1)) : v = ec_R (x + A) ∧ ec_W hb_A w1 ∧ ea_fB w w1 ∧ ea_sB w1 4 N A 0 (t ++ [10]) := by
  obtain ⟨_, u1, y1, a1, b1⟩ := eg281_151_0_0 h
  obtain ⟨e1, W1, f1, S1⟩ := ea_begB S (by omega) rfl a1
  have h1 := b1 e1 W1
  obtain ⟨_, hr, hW⟩ := eg281_151_6_0 h1
  injection hr with g1 g2
  rw [S1.2.2.1] at g1
  rw [g2]
  exact ⟨g1, hW, f1, S1⟩
theorem eaB281_5 (S : ea_sB w 5 N A 0 t) (ht : t.length ≤ 29) (h : ec_E hb_X n 281 0 [(0, .inr (.inl 215)), (1, .inl x)] [] w (v, w1)) : v = ec_R (x + A) ∧ ec_W hb_A w1 ∧ ea_fB w w1 ∧ ea_sB w1 5 N A 0 (t ++ [10]) := by
  obtain ⟨_, u1, y1, a1, b1⟩ := eg281_151_0_0 h
  obtain ⟨e1, W1, f1, S1⟩ := ea_begB S (by omega) rfl a1
  have h1 := b1 e1 W1
  obtain ⟨_, hr, hW⟩ := eg281_151_6_0 h1
  injection hr with g1 g2
  rw [S1.2.2.1] at g1
  rw [g2]
  exact ⟨g1, hW, f1, S1⟩
theorem eaB281_6 (S : ea_sB w 6 N A 0 t) (ht : t.length ≤ 29) (h : ec_E hb_X n 281 0 [(0, .inr (.inl 215)), (1, .inl x)] [] w (v, w1)) : v = ec_R (x + A) ∧ ec_W hb_A w1 ∧ ea_fB w w1 ∧ ea_sB w1 6 N A 0 (t ++ [10]) := by
  obtain ⟨_, u1, y1, a1, b1⟩ := eg281_151_0_0 h
  obtain ⟨e1, W1, f1, S1⟩ := ea_begB S (by omega) rfl a1
  have h1 := b1 e1 W1
  obtain ⟨_, hr, hW⟩ := eg281_151_6_0 h1
  injection hr with g1 g2
  rw [S1.2.2.1] at g1
  rw [g2]
  exact ⟨g1, hW, f1, S1⟩
theorem eaB282_1 (S : ea_sB w 1 N A 0 t) (ht : t.length ≤ 28) (h : ec_E hb_X n 282 0 [(0, .inr (.inl 215)), (1, .inl x)] [] w (v, w1)) : v = ec_R ((x + A) - 40) ∧ ec_W hb_A w1 ∧ ea_fB w w1 ∧ ea_sB w1 1 N A 0 (t ++ [20, 10]) := by
  obtain ⟨_, u1, y1, a1, b1⟩ := eg282_151_0_2 h ((congrArg ec_tw S.1).trans rfl)
  obtain ⟨e1, W1, f1, S1⟩ := ea_begB S (by omega) rfl a1
  have h1 := b1 e1 W1
  obtain ⟨_, u2, y2, a2, b2⟩ := eg282_151_14_0 h1
  obtain ⟨e2, W2, f2, S2⟩ := eaB281_1 S1 (by rw [List.length_append]; show t.length + 1 ≤ 29; omega) a2
  rw [List.append_assoc] at S2
  have S2 : ea_sB y2 1 N A 0 (t ++ [20, 10]) := S2
  have h2 := b2 _ e2 W2
  obtain ⟨_, hr, hW⟩ := eg282_151_19_0 h2
  injection hr with g1 g2
  rw [g2]
  exact ⟨g1, hW, (ea_fB_t f1 f2), S2⟩
theorem eaB282_2 (S : ea_sB w 2 N A 0 t) (ht : t.length ≤ 29) (h : ec_E hb_X n 282 0 [(0, .inr (.inl 215)), (1, .inl x)] [] w (v, w1)) : v = ec_R (x + A) ∧ ec_W hb_A w1 ∧ ea_fB w w1 ∧ ea_sB w1 2 N A 0 (t ++ [10]) := by
  obtain ⟨_, u1, y1, a1, b1⟩ := eg282_151_0_0 h (by rw [S.1]; decide) (by rw [S.1]; decide)
  obtain ⟨e1, W1, f1, S1⟩ := eaB281_2 S (by omega) a1
  have h1 := b1 _ e1 W1
  obtain ⟨_, hr, hW⟩ := eg282_151_50_0 h1
  injection hr with g1 g2
  rw [g2]
  exact ⟨g1, hW, f1, S1⟩
theorem eaB282_3 (S : ea_sB w 3 N A 0 t) (ht : t.length ≤ 28) (h : ec_E hb_X n 282 0 [(0, .inr (.inl 215)), (1, .inl x)] [] w (v, w1)) : v = ec_R ((x + A) * 3) ∧ ec_W hb_A w1 ∧ ea_fB w w1 ∧ ea_sB w1 3 N A 0 (t ++ [40, 10]) := by
  obtain ⟨_, u1, y1, a1, b1⟩ := eg282_151_0_1 h (by rw [S.1]; decide) ((congrArg ec_tw S.1).trans rfl)
  obtain ⟨e1, W1, f1, S1⟩ := ea_begB S (by omega) rfl a1
  have h1 := b1 e1 W1
  obtain ⟨_, u2, y2, a2, b2⟩ := eg282_151_37_0 h1
  obtain ⟨e2, W2, f2, S2⟩ := eaB281_3 S1 (by rw [List.length_append]; show t.length + 1 ≤ 29; omega) a2
  rw [List.append_assoc] at S2
  have S2 : ea_sB y2 3 N A 0 (t ++ [40, 10]) := S2
  have h2 := b2 _ e2 W2
  obtain ⟨_, hr, hW⟩ := eg282_151_42_0 h2
  injection hr with g1 g2
  rw [g2]
  exact ⟨g1, hW, (ea_fB_t f1 f2), S2⟩
theorem eaB282_4 (S : ea_sB w 4 N A 0 t) (ht : t.length ≤ 29) (h : ec_E hb_X n 282 0 [(0, .inr (.inl 215)), (1, .inl x)] [] w (v, w1)) : v = ec_R (x + A) ∧ ec_W hb_A w1 ∧ ea_fB w w1 ∧ ea_sB w1 4 N A 0 (t ++ [10]) := by
  obtain ⟨_, u1, y1, a1, b1⟩ := eg282_151_0_0 h (by rw [S.1]; decide) (by rw [S.1]; decide)
  obtain ⟨e1, W1, f1, S1⟩ := eaB281_4 S (by omega) a1
  have h1 := b1 _ e1 W1
  obtain ⟨_, hr, hW⟩ := eg282_151_50_0 h1
  injection hr with g1 g2
  rw [g2]
  exact ⟨g1, hW, f1, S1⟩
theorem eaB282_5 (S : ea_sB w 5 N A 0 t) (ht : t.length ≤ 29) (h : ec_E hb_X n 282 0 [(0, .inr (.inl 215)), (1, .inl x)] [] w (v, w1)) : v = ec_R (x + A) ∧ ec_W hb_A w1 ∧ ea_fB w w1 ∧ ea_sB w1 5 N A 0 (t ++ [10]) := by
  obtain ⟨_, u1, y1, a1, b1⟩ := eg282_151_0_0 h (by rw [S.1]; decide) (by rw [S.1]; decide)
  obtain ⟨e1, W1, f1, S1⟩ := eaB281_5 S (by omega) a1
  have h1 := b1 _ e1 W1
  obtain ⟨_, hr, hW⟩ := eg282_151_50_0 h1
  injection hr with g1 g2
  rw [g2]
  exact ⟨g1, hW, f1, S1⟩
theorem eaB282_6 (S : ea_sB w 6 N A 0 t) (ht : t.length ≤ 29) (h : ec_E hb_X n 282 0 [(0, .inr (.inl 215)), (1, .inl x)] [] w (v, w1)) : v = ec_R (x + A) ∧ ec_W hb_A w1 ∧ ea_fB w w1 ∧ ea_sB w1 6 N A 0 (t ++ [10]) := by
  obtain ⟨_, u1, y1, a1, b1⟩ := eg282_151_0_0 h (by rw [S.1]; decide) (by rw [S.1]; decide)
  obtain ⟨e1, W1, f1, S1⟩ := eaB281_6 S (by omega) a1
  have h1 := b1 _ e1 W1
  obtain ⟨_, hr, hW⟩ := eg282_151_50_0 h1
  injection hr with g1 g2
  rw [g2]
  exact ⟨g1, hW, f1, S1⟩
theorem eaB283_1 (S : ea_sB w 1 N A 0 t) (ht : t.length ≤ 27) (h : ec_E hb_X n 283 0 [(0, .inr (.inl 215)), (1, .inl x)] [] w (v, w1)) : v = ec_R ((((x + A) - 40) * 2) - N) ∧ ec_W hb_A w1 ∧ ea_fB w w1 ∧ ea_sB w1 1 N A 0 (t ++ [11, 20, 10]) := by
  obtain ⟨_, u1, y1, a1, b1⟩ := eg283_151_0_0 h
  obtain ⟨e1, W1, f1, S1⟩ := ea_begB S (by omega) rfl a1
  have h1 := b1 e1 W1
  obtain ⟨_, u2, y2, a2, b2⟩ := eg283_151_6_0 h1
  obtain ⟨e2, W2, f2, S2⟩ := eaB282_1 S1 (by rw [List.length_append]; show t.length + 1 ≤ 28; omega) a2
  rw [List.append_assoc] at S2
  have S2 : ea_sB y2 1 N A 0 (t ++ [11, 20, 10]) := S2
  have h2 := b2 _ e2 W2
  obtain ⟨_, hr, hW⟩ := eg283_151_11_0 h2
  injection hr with g1 g2
  rw [S2.2.1] at g1
  rw [g2]
  exact ⟨g1, hW, (ea_fB_t f1 f2), S2⟩
theorem eaB283_2 (S : ea_sB w 2 N A 0 t) (ht : t.length ≤ 28) (h : ec_E hb_X n 283 0 [(0, .inr (.inl 215)), (1, .inl x)] [] w (v, w1)) : v = ec_R (((x + A) * 2) - N) ∧ ec_W hb_A w1 ∧ ea_fB w w1 ∧ ea_sB w1 2 N A 0 (t ++ [11, 10]) := by
  obtain ⟨_, u1, y1, a1, b1⟩ := eg283_151_0_0 h
  obtain ⟨e1, W1, f1, S1⟩ := ea_begB S (by omega) rfl a1
  have h1 := b1 e1 W1
  obtain ⟨_, u2, y2, a2, b2⟩ := eg283_151_6_0 h1
  obtain ⟨e2, W2, f2, S2⟩ := eaB282_2 S1 (by rw [List.length_append]; show t.length + 1 ≤ 29; omega) a2
  rw [List.append_assoc] at S2
  have S2 : ea_sB y2 2 N A 0 (t ++ [11, 10]) := S2
  have h2 := b2 _ e2 W2
  obtain ⟨_, hr, hW⟩ := eg283_151_11_0 h2
  injection hr with g1 g2
  rw [S2.2.1] at g1
  rw [g2]
  exact ⟨g1, hW, (ea_fB_t f1 f2), S2⟩
theorem eaB283_3 (S : ea_sB w 3 N A 0 t) (ht : t.length ≤ 27) (h : ec_E hb_X n 283 0 [(0, .inr (.inl 215)), (1, .inl x)] [] w (v, w1)) : v = ec_R ((((x + A) * 3) * 2) - N) ∧ ec_W hb_A w1 ∧ ea_fB w w1 ∧ ea_sB w1 3 N A 0 (t ++ [11, 40, 10]) := by
  obtain ⟨_, u1, y1, a1, b1⟩ := eg283_151_0_0 h
  obtain ⟨e1, W1, f1, S1⟩ := ea_begB S (by omega) rfl a1
  have h1 := b1 e1 W1
  obtain ⟨_, u2, y2, a2, b2⟩ := eg283_151_6_0 h1
  obtain ⟨e2, W2, f2, S2⟩ := eaB282_3 S1 (by rw [List.length_append]; show t.length + 1 ≤ 28; omega) a2
  rw [List.append_assoc] at S2
  have S2 : ea_sB y2 3 N A 0 (t ++ [11, 40, 10]) := S2
  have h2 := b2 _ e2 W2
  obtain ⟨_, hr, hW⟩ := eg283_151_11_0 h2
  injection hr with g1 g2
  rw [S2.2.1] at g1
  rw [g2]
  exact ⟨g1, hW, (ea_fB_t f1 f2), S2⟩
theorem eaB283_4 (S : ea_sB w 4 N A 0 t) (ht : t.length ≤ 28) (h : ec_E hb_X n 283 0 [(0, .inr (.inl 215)), (1, .inl x)] [] w (v, w1)) : v = ec_R (((x + A) * 2) - N) ∧ ec_W hb_A w1 ∧ ea_fB w w1 ∧ ea_sB w1 4 N A 0 (t ++ [11, 10]) := by
  obtain ⟨_, u1, y1, a1, b1⟩ := eg283_151_0_0 h
  obtain ⟨e1, W1, f1, S1⟩ := ea_begB S (by omega) rfl a1
  have h1 := b1 e1 W1
  obtain ⟨_, u2, y2, a2, b2⟩ := eg283_151_6_0 h1
  obtain ⟨e2, W2, f2, S2⟩ := eaB282_4 S1 (by rw [List.length_append]; show t.length + 1 ≤ 29; omega) a2
  rw [List.append_assoc] at S2
  have S2 : ea_sB y2 4 N A 0 (t ++ [11, 10]) := S2
  have h2 := b2 _ e2 W2
  obtain ⟨_, hr, hW⟩ := eg283_151_11_0 h2
  injection hr with g1 g2
  rw [S2.2.1] at g1
  rw [g2]
  exact ⟨g1, hW, (ea_fB_t f1 f2), S2⟩
theorem eaB283_5 (S : ea_sB w 5 N A 0 t) (ht : t.length ≤ 28) (h : ec_E hb_X n 283 0 [(0, .inr (.inl 215)), (1, .inl x)] [] w (v, w1)) : v = ec_R (((x + A) * 2) - N) ∧ ec_W hb_A w1 ∧ ea_fB w w1 ∧ ea_sB w1 5 N A 0 (t ++ [11, 10]) := by
  obtain ⟨_, u1, y1, a1, b1⟩ := eg283_151_0_0 h
  obtain ⟨e1, W1, f1, S1⟩ := ea_begB S (by omega) rfl a1
  have h1 := b1 e1 W1
  obtain ⟨_, u2, y2, a2, b2⟩ := eg283_151_6_0 h1
  obtain ⟨e2, W2, f2, S2⟩ := eaB282_5 S1 (by rw [List.length_append]; show t.length + 1 ≤ 29; omega) a2
  rw [List.append_assoc] at S2
  have S2 : ea_sB y2 5 N A 0 (t ++ [11, 10]) := S2
  have h2 := b2 _ e2 W2
  obtain ⟨_, hr, hW⟩ := eg283_151_11_0 h2
  injection hr with g1 g2
  rw [S2.2.1] at g1
  rw [g2]
  exact ⟨g1, hW, (ea_fB_t f1 f2), S2⟩
theorem eaB283_6 (S : ea_sB w 6 N A 0 t) (ht : t.length ≤ 28) (h : ec_E hb_X n 283 0 [(0, .inr (.inl 215)), (1, .inl x)] [] w (v, w1)) : v = ec_R (((x + A) * 2) - N) ∧ ec_W hb_A w1 ∧ ea_fB w w1 ∧ ea_sB w1 6 N A 0 (t ++ [11, 10]) := by
  obtain ⟨_, u1, y1, a1, b1⟩ := eg283_151_0_0 h
  obtain ⟨e1, W1, f1, S1⟩ := ea_begB S (by omega) rfl a1
  have h1 := b1 e1 W1
  obtain ⟨_, u2, y2, a2, b2⟩ := eg283_151_6_0 h1
  obtain ⟨e2, W2, f2, S2⟩ := eaB282_6 S1 (by rw [List.length_append]; show t.length + 1 ≤ 29; omega) a2
  rw [List.append_assoc] at S2
  have S2 : ea_sB y2 6 N A 0 (t ++ [11, 10]) := S2
  have h2 := b2 _ e2 W2
  obtain ⟨_, hr, hW⟩ := eg283_151_11_0 h2
  injection hr with g1 g2
  rw [S2.2.1] at g1
  rw [g2]
  exact ⟨g1, hW, (ea_fB_t f1 f2), S2⟩
theorem eaB284_1 (S : ea_sB w 1 N A 0 t) (ht : t.length ≤ 27) (h : ec_E hb_X n 284 0 [(0, .inr (.inl 215)), (1, .inl x)] [] w (v, w1)) : v = ec_R ((((x + A) - 40) * 2) - N) ∧ ec_W hb_A w1 ∧ ea_fB w w1 ∧ ea_sB w1 1 N A 0 (t ++ [11, 20, 10]) := by
  obtain ⟨_, u1, y1, a1, b1⟩ := eg284_151_0_5 h (by rw [S.1]; decide)
  obtain ⟨e1, W1, f1, S1⟩ := eaB283_1 S (by omega) a1
  have h1 := b1 _ e1 W1
  obtain ⟨_, hr, hW⟩ := eg284_151_96_0 h1
  injection hr with g1 g2
  rw [g2]
  exact ⟨g1, hW, f1, S1⟩
theorem eaB284_2 (S : ea_sB w 2 N A 0 t) (ht : t.length ≤ 27) (h : ec_E hb_X n 284 0 [(0, .inr (.inl 215)), (1, .inl x)] [] w (v, w1)) : v = ec_R ((((x + A) * 2) - N) + A) ∧ ec_W hb_A w1 ∧ ea_fB w w1 ∧ ea_sB w1 2 N A 0 (t ++ [30, 11, 10]) := by
  obtain ⟨_, u1, y1, a1, b1⟩ := eg284_151_0_0 h ((congrArg ec_tw S.1).trans rfl)
  obtain ⟨e1, W1, f1, S1⟩ := ea_begB S (by omega) rfl a1
  have h1 := b1 e1 W1
  obtain ⟨_, u2, y2, a2, b2⟩ := eg284_151_46_0 h1
  obtain ⟨e2, W2, f2, S2⟩ := eaB283_2 S1 (by rw [List.length_append]; show t.length + 1 ≤ 28; omega) a2
  rw [List.append_assoc] at S2
  have S2 : ea_sB y2 2 N A 0 (t ++ [30, 11, 10]) := S2
  have h2 := b2 _ e2 W2
  obtain ⟨_, hr, hW⟩ := eg284_151_51_0 h2
  injection hr with g1 g2
  rw [S2.2.2.1] at g1
  rw [g2]
  exact ⟨g1, hW, (ea_fB_t f1 f2), S2⟩
theorem eaB284_3 (S : ea_sB w 3 N A 0 t) (ht : t.length ≤ 26) (h : ec_E hb_X n 284 0 [(0, .inr (.inl 215)), (1, .inl x)] [] w (v, w1)) : v = ec_R (((((x + A) * 3) * 2) - N) + A) ∧ ec_W hb_A w1 ∧ ea_fB w w1 ∧ ea_sB w1 3 N A 0 (t ++ [30, 11, 40, 10]) := by
  obtain ⟨_, u1, y1, a1, b1⟩ := eg284_151_0_1 h ((congrArg ec_tw S.1).trans rfl)
  obtain ⟨e1, W1, f1, S1⟩ := ea_begB S (by omega) rfl a1
  have h1 := b1 e1 W1
  obtain ⟨_, u2, y2, a2, b2⟩ := eg284_151_46_0 h1
  obtain ⟨e2, W2, f2, S2⟩ := eaB283_3 S1 (by rw [List.length_append]; show t.length + 1 ≤ 27; omega) a2
  rw [List.append_assoc] at S2
  have S2 : ea_sB y2 3 N A 0 (t ++ [30, 11, 40, 10]) := S2
  have h2 := b2 _ e2 W2
  obtain ⟨_, hr, hW⟩ := eg284_151_51_0 h2
  injection hr with g1 g2
  rw [S2.2.2.1] at g1
  rw [g2]
  exact ⟨g1, hW, (ea_fB_t f1 f2), S2⟩
theorem eaB284_4 (S : ea_sB w 4 N A 0 t) (ht : t.length ≤ 28) (h : ec_E hb_X n 284 0 [(0, .inr (.inl 215)), (1, .inl x)] [] w (v, w1)) : v = ec_R (((x + A) * 2) - N) ∧ ec_W hb_A w1 ∧ ea_fB w w1 ∧ ea_sB w1 4 N A 0 (t ++ [11, 10]) := by
  obtain ⟨_, u1, y1, a1, b1⟩ := eg284_151_0_2 h ((congrArg ec_tw S.1).trans rfl)
  obtain ⟨e1, W1, f1, S1⟩ := eaB283_4 S (by omega) a1
  have h1 := b1 _ e1 W1
  obtain ⟨_, hr, hW⟩ := eg284_151_96_0 h1
  injection hr with g1 g2
  rw [g2]
  exact ⟨g1, hW, f1, S1⟩
theorem eaB284_5 (S : ea_sB w 5 N A 0 t) (ht : t.length ≤ 27) (h : ec_E hb_X n 284 0 [(0, .inr (.inl 215)), (1, .inl x)] [] w (v, w1)) : v = ec_R (0 - (((x + A) * 2) - N)) ∧ ec_W hb_A w1 ∧ ea_fB w w1 ∧ ea_sB w1 5 N A 0 (t ++ [60, 11, 10]) := by
  obtain ⟨_, u1, y1, a1, b1⟩ := eg284_151_0_3 h ((congrArg ec_tw S.1).trans rfl)
  obtain ⟨e1, W1, f1, S1⟩ := ea_begB S (by omega) rfl a1
  have h1 := b1 e1 W1
  obtain ⟨_, u2, y2, a2, b2⟩ := eg284_151_63_0 h1
  obtain ⟨e2, W2, f2, S2⟩ := eaB283_5 S1 (by rw [List.length_append]; show t.length + 1 ≤ 28; omega) a2
  rw [List.append_assoc] at S2
  have S2 : ea_sB y2 5 N A 0 (t ++ [60, 11, 10]) := S2
  have h2 := b2 _ e2 W2
  obtain ⟨_, hr, hW⟩ := eg284_151_69_0 h2
  injection hr with g1 g2
  rw [g2]
  exact ⟨g1, hW, (ea_fB_t f1 f2), S2⟩
theorem eaB284_6 (S : ea_sB w 6 N A 0 t) (ht : t.length ≤ 26) (h : ec_E hb_X n 284 0 [(0, .inr (.inl 215)), (1, .inl x)] [] w (v, w1)) : v = ec_R ((((x + A) * 2) - N) + (0 + A)) ∧ ec_W hb_A w1 ∧ ea_fB w w1 ∧ ea_sB w1 6 N A 0 (t ++ [71, 11, 10, 10]) := by
  obtain ⟨_, u1, y1, a1, b1⟩ := eg284_151_0_4 h ((congrArg ec_tw S.1).trans rfl)
  obtain ⟨e1, W1, f1, S1⟩ := ea_begB S (by omega) rfl a1
  have h1 := b1 e1 W1
  obtain ⟨_, u2, y2, a2, b2⟩ := eg284_151_77_0 h1
  obtain ⟨e2, W2, f2, S2⟩ := eaB283_6 S1 (by rw [List.length_append]; show t.length + 1 ≤ 28; omega) a2
  rw [List.append_assoc] at S2
  have S2 : ea_sB y2 6 N A 0 (t ++ [71, 11, 10]) := S2
  have h2 := b2 _ e2 W2
  obtain ⟨_, u3, y3, a3, b3⟩ := eg284_151_82_0 h2
  obtain ⟨e3, W3, f3, S3⟩ := eaB282_6 S2 (by rw [List.length_append]; show t.length + 3 ≤ 29; omega) a3
  rw [List.append_assoc] at S3
  have S3 : ea_sB y3 6 N A 0 (t ++ [71, 11, 10, 10]) := S3
  have h3 := b3 _ e3 W3
  obtain ⟨_, hr, hW⟩ := eg284_151_89_0 h3
  injection hr with g1 g2
  rw [g2]
  exact ⟨g1, hW, (ea_fB_t (ea_fB_t f1 f2) f3), S3⟩
theorem eaB286_1_0 (S : ea_sB w 1 N A 0 t) (ht : t.length ≤ 26) (rA : ec_tw A = A) (rN : ec_tw N = N) (hq : A ≠ N) (h : ec_E hb_X n 286 0 [(0, .inr (.inl 215)), (1, .inl x)] [] w (v, w1)) : v = ec_R ((ec_dv x (A - N)) + ((1 + A) - 40)) ∧ ec_W hb_A w1 ∧ ea_fB w w1 ∧ ea_sB w1 1 N A 0 (t ++ [21, 12, 20, 10]) := by
  obtain ⟨_, u1, y1, a1, b1⟩ := eg286_151_0_2 h ((congrArg ec_tw S.1).trans rfl)
  obtain ⟨e1, W1, f1, S1⟩ := ea_begB S (by omega) rfl a1
  have h1 := b1 e1 W1
  obtain ⟨_, u2, y2, a2, b2⟩ := eg286_151_14_0 h1
  obtain ⟨e2, W2, f2, S2⟩ := eaB285_0 S1 (by rw [List.length_append]; show t.length + 1 ≤ 29; omega) rA rN hq a2
  rw [List.append_assoc] at S2
  have S2 : ea_sB y2 1 N A 0 (t ++ [21, 12]) := S2
  have h2 := b2 _ e2 W2
  obtain ⟨_, u3, y3, a3, b3⟩ := eg286_151_19_0 h2 ((congrArg ec_tw S2.2.2.2.1).trans rfl)
  obtain ⟨e3, W3, f3, S3⟩ := eaB282_1 S2 (by rw [List.length_append]; show t.length + 2 ≤ 28; omega) a3
  rw [List.append_assoc] at S3
  have S3 : ea_sB y3 1 N A 0 (t ++ [21, 12, 20, 10]) := S3
  have h3 := b3 _ e3 W3
  obtain ⟨_, hr, hW⟩ := eg286_151_37_0 h3
  injection hr with g1 g2
  rw [g2]
  exact ⟨g1, hW, (ea_fB_t (ea_fB_t f1 f2) f3), S3⟩
theorem eaB286_1_1 (S : ea_sB w 1 N A 0 t) (ht : t.length ≤ 28) (rA : ec_tw A = A) (rN : ec_tw N = N) (hq : A = N) (h : ec_E hb_X n 286 0 [(0, .inr (.inl 215)), (1, .inl x)] [] w (v, w1)) : v = ec_R (0) ∧ ec_W hb_A w1 ∧ ea_fB w w1 ∧ ea_sB w1 1 N A 1 (t ++ [21, 12]) := by
  obtain ⟨_, u1, y1, a1, b1⟩ := eg286_151_0_2 h ((congrArg ec_tw S.1).trans rfl)
  obtain ⟨e1, W1, f1, S1⟩ := ea_begB S (by omega) rfl a1
  have h1 := b1 e1 W1
  obtain ⟨_, u2, y2, a2, b2⟩ := eg286_151_14_0 h1
  obtain ⟨e2, W2, f2, S2⟩ := eaB285_1 S1 (by rw [List.length_append]; show t.length + 1 ≤ 29; omega) rA rN hq a2
  rw [List.append_assoc] at S2
  have S2 : ea_sB y2 1 N A 1 (t ++ [21, 12]) := S2
  have h2 := b2 _ e2 W2
  obtain ⟨_, hr, hW⟩ := eg286_151_19_1 h2 (by rw [S2.2.2.2.1]; decide)
  injection hr with g1 g2
  rw [g2]
  exact ⟨g1, hW, (ea_fB_t f1 f2), S2⟩
theorem eaB286_2_0 (S : ea_sB w 2 N A 0 t) (ht : t.length ≤ 29) (rA : ec_tw A = A) (rN : ec_tw N = N) (hq : A ≠ N) (h : ec_E hb_X n 286 0 [(0, .inr (.inl 215)), (1, .inl x)] [] w (v, w1)) : v = ec_R (ec_dv x (A - N)) ∧ ec_W hb_A w1 ∧ ea_fB w w1 ∧ ea_sB w1 2 N A 0 (t ++ [12]) := by
  obtain ⟨_, u1, y1, a1, b1⟩ := eg286_151_0_0 h (by rw [S.1]; decide) (by rw [S.1]; decide)
  obtain ⟨e1, W1, f1, S1⟩ := eaB285_0 S (by omega) rA rN hq a1
  have h1 := b1 _ e1 W1
  obtain ⟨_, hr, hW⟩ := eg286_151_67_0 h1
  injection hr with g1 g2
  rw [g2]
  exact ⟨g1, hW, f1, S1⟩
theorem eaB286_2_1 (S : ea_sB w 2 N A 0 t) (ht : t.length ≤ 29) (rA : ec_tw A = A) (rN : ec_tw N = N) (hq : A = N) (h : ec_E hb_X n 286 0 [(0, .inr (.inl 215)), (1, .inl x)] [] w (v, w1)) : v = ec_R (0) ∧ ec_W hb_A w1 ∧ ea_fB w w1 ∧ ea_sB w1 2 N A 1 (t ++ [12]) := by
  obtain ⟨_, u1, y1, a1, b1⟩ := eg286_151_0_0 h (by rw [S.1]; decide) (by rw [S.1]; decide)
  obtain ⟨e1, W1, f1, S1⟩ := eaB285_1 S (by omega) rA rN hq a1
  have h1 := b1 _ e1 W1
  obtain ⟨_, hr, hW⟩ := eg286_151_67_0 h1
  injection hr with g1 g2
  rw [g2]
  exact ⟨g1, hW, f1, S1⟩
theorem eaB286_3_0 (S : ea_sB w 3 N A 0 t) (ht : t.length ≤ 29) (rA : ec_tw A = A) (rN : ec_tw N = N) (hq : A ≠ N) (h : ec_E hb_X n 286 0 [(0, .inr (.inl 215)), (1, .inl x)] [] w (v, w1)) : v = ec_R (ec_dv x (A - N)) ∧ ec_W hb_A w1 ∧ ea_fB w w1 ∧ ea_sB w1 3 N A 0 (t ++ [12]) := by
  obtain ⟨_, u1, y1, a1, b1⟩ := eg286_151_0_0 h (by rw [S.1]; decide) (by rw [S.1]; decide)
  obtain ⟨e1, W1, f1, S1⟩ := eaB285_0 S (by omega) rA rN hq a1
  have h1 := b1 _ e1 W1
  obtain ⟨_, hr, hW⟩ := eg286_151_67_0 h1
  injection hr with g1 g2
  rw [g2]
  exact ⟨g1, hW, f1, S1⟩
theorem eaB286_3_1 (S : ea_sB w 3 N A 0 t) (ht : t.length ≤ 29) (rA : ec_tw A = A) (rN : ec_tw N = N) (hq : A = N) (h : ec_E hb_X n 286 0 [(0, .inr (.inl 215)), (1, .inl x)] [] w (v, w1)) : v = ec_R (0) ∧ ec_W hb_A w1 ∧ ea_fB w w1 ∧ ea_sB w1 3 N A 1 (t ++ [12]) := by
  obtain ⟨_, u1, y1, a1, b1⟩ := eg286_151_0_0 h (by rw [S.1]; decide) (by rw [S.1]; decide)
  obtain ⟨e1, W1, f1, S1⟩ := eaB285_1 S (by omega) rA rN hq a1
  have h1 := b1 _ e1 W1
  obtain ⟨_, hr, hW⟩ := eg286_151_67_0 h1
  injection hr with g1 g2
  rw [g2]
  exact ⟨g1, hW, f1, S1⟩
theorem eaB286_4_0 (S : ea_sB w 4 N A 0 t) (ht : t.length ≤ 29) (rA : ec_tw A = A) (rN : ec_tw N = N) (hq : A ≠ N) (h : ec_E hb_X n 286 0 [(0, .inr (.inl 215)), (1, .inl x)] [] w (v, w1)) : v = ec_R (ec_dv x (A - N)) ∧ ec_W hb_A w1 ∧ ea_fB w w1 ∧ ea_sB w1 4 N A 0 (t ++ [12]) := by
  obtain ⟨_, u1, y1, a1, b1⟩ := eg286_151_0_0 h (by rw [S.1]; decide) (by rw [S.1]; decide)
  obtain ⟨e1, W1, f1, S1⟩ := eaB285_0 S (by omega) rA rN hq a1
  have h1 := b1 _ e1 W1
  obtain ⟨_, hr, hW⟩ := eg286_151_67_0 h1
  injection hr with g1 g2
  rw [g2]
  exact ⟨g1, hW, f1, S1⟩
theorem eaB286_4_1 (S : ea_sB w 4 N A 0 t) (ht : t.length ≤ 29) (rA : ec_tw A = A) (rN : ec_tw N = N) (hq : A = N) (h : ec_E hb_X n 286 0 [(0, .inr (.inl 215)), (1, .inl x)] [] w (v, w1)) : v = ec_R (0) ∧ ec_W hb_A w1 ∧ ea_fB w w1 ∧ ea_sB w1 4 N A 1 (t ++ [12]) := by
  obtain ⟨_, u1, y1, a1, b1⟩ := eg286_151_0_0 h (by rw [S.1]; decide) (by rw [S.1]; decide)
  obtain ⟨e1, W1, f1, S1⟩ := eaB285_1 S (by omega) rA rN hq a1
  have h1 := b1 _ e1 W1
  obtain ⟨_, hr, hW⟩ := eg286_151_67_0 h1
  injection hr with g1 g2
  rw [g2]
  exact ⟨g1, hW, f1, S1⟩
theorem eaB286_5_0 (S : ea_sB w 5 N A 0 t) (ht : t.length ≤ 29) (rA : ec_tw A = A) (rN : ec_tw N = N) (hq : A ≠ N) (h : ec_E hb_X n 286 0 [(0, .inr (.inl 215)), (1, .inl x)] [] w (v, w1)) : v = ec_R (ec_dv x (A - N)) ∧ ec_W hb_A w1 ∧ ea_fB w w1 ∧ ea_sB w1 5 N A 0 (t ++ [12]) := by
  obtain ⟨_, u1, y1, a1, b1⟩ := eg286_151_0_0 h (by rw [S.1]; decide) (by rw [S.1]; decide)
  obtain ⟨e1, W1, f1, S1⟩ := eaB285_0 S (by omega) rA rN hq a1
  have h1 := b1 _ e1 W1
  obtain ⟨_, hr, hW⟩ := eg286_151_67_0 h1
  injection hr with g1 g2
  rw [g2]
  exact ⟨g1, hW, f1, S1⟩
theorem eaB286_5_1 (S : ea_sB w 5 N A 0 t) (ht : t.length ≤ 29) (rA : ec_tw A = A) (rN : ec_tw N = N) (hq : A = N) (h : ec_E hb_X n 286 0 [(0, .inr (.inl 215)), (1, .inl x)] [] w (v, w1)) : v = ec_R (0) ∧ ec_W hb_A w1 ∧ ea_fB w w1 ∧ ea_sB w1 5 N A 1 (t ++ [12]) := by
  obtain ⟨_, u1, y1, a1, b1⟩ := eg286_151_0_0 h (by rw [S.1]; decide) (by rw [S.1]; decide)
  obtain ⟨e1, W1, f1, S1⟩ := eaB285_1 S (by omega) rA rN hq a1
  have h1 := b1 _ e1 W1
  obtain ⟨_, hr, hW⟩ := eg286_151_67_0 h1
  injection hr with g1 g2
  rw [g2]
  exact ⟨g1, hW, f1, S1⟩
theorem eaB286_6_0 (S : ea_sB w 6 N A 0 t) (ht : t.length ≤ 28) (rA : ec_tw A = A) (rN : ec_tw N = N) (hq : A ≠ N) (h : ec_E hb_X n 286 0 [(0, .inr (.inl 215)), (1, .inl x)] [] w (v, w1)) : v = ec_R (ec_dv (x * 2) (A - N)) ∧ ec_W hb_A w1 ∧ ea_fB w w1 ∧ ea_sB w1 6 N A 0 (t ++ [70, 12]) := by
  obtain ⟨_, u1, y1, a1, b1⟩ := eg286_151_0_1 h (by rw [S.1]; decide) ((congrArg ec_tw S.1).trans rfl)
  obtain ⟨e1, W1, f1, S1⟩ := ea_begB S (by omega) rfl a1
  have h1 := b1 e1 W1
  obtain ⟨_, u2, y2, a2, b2⟩ := eg286_151_54_0 h1
  obtain ⟨e2, W2, f2, S2⟩ := eaB285_0 S1 (by rw [List.length_append]; show t.length + 1 ≤ 29; omega) rA rN hq a2
  rw [List.append_assoc] at S2
  have S2 : ea_sB y2 6 N A 0 (t ++ [70, 12]) := S2
  have h2 := b2 _ e2 W2
  obtain ⟨_, hr, hW⟩ := eg286_151_61_0 h2
  injection hr with g1 g2
  rw [g2]
  exact ⟨g1, hW, (ea_fB_t f1 f2), S2⟩
theorem eaB286_6_1 (S : ea_sB w 6 N A 0 t) (ht : t.length ≤ 28) (rA : ec_tw A = A) (rN : ec_tw N = N) (hq : A = N) (h : ec_E hb_X n 286 0 [(0, .inr (.inl 215)), (1, .inl x)] [] w (v, w1)) : v = ec_R (0) ∧ ec_W hb_A w1 ∧ ea_fB w w1 ∧ ea_sB w1 6 N A 1 (t ++ [70, 12]) := by
  obtain ⟨_, u1, y1, a1, b1⟩ := eg286_151_0_1 h (by rw [S.1]; decide) ((congrArg ec_tw S.1).trans rfl)
  obtain ⟨e1, W1, f1, S1⟩ := ea_begB S (by omega) rfl a1
  have h1 := b1 e1 W1
  obtain ⟨_, u2, y2, a2, b2⟩ := eg286_151_54_0 h1
  obtain ⟨e2, W2, f2, S2⟩ := eaB285_1 S1 (by rw [List.length_append]; show t.length + 1 ≤ 29; omega) rA rN hq a2
  rw [List.append_assoc] at S2
  have S2 : ea_sB y2 6 N A 1 (t ++ [70, 12]) := S2
  have h2 := b2 _ e2 W2
  obtain ⟨_, hr, hW⟩ := eg286_151_61_0 h2
  injection hr with g1 g2
  rw [g2]
  exact ⟨g1, hW, (ea_fB_t f1 f2), S2⟩
theorem eaB287_1 (S : ea_sB w 1 N A 0 t) (ht : t.length ≤ 26) (h : ec_E hb_X n 287 0 [(0, .inr (.inl 215)), (1, .inl x)] [] w (v, w1)) : v = ec_R (ec_xor ((((x + A) - 40) * 2) - N) A) ∧ ec_W hb_A w1 ∧ ea_fB w w1 ∧ ea_sB w1 1 N A 0 (t ++ [13, 11, 20, 10]) := by
  obtain ⟨_, u1, y1, a1, b1⟩ := eg287_151_0_0 h
  obtain ⟨e1, W1, f1, S1⟩ := ea_begB S (by omega) rfl a1
  have h1 := b1 e1 W1
  obtain ⟨_, u2, y2, a2, b2⟩ := eg287_151_6_0 h1
  obtain ⟨e2, W2, f2, S2⟩ := eaB284_1 S1 (by rw [List.length_append]; show t.length + 1 ≤ 27; omega) a2
  rw [List.append_assoc] at S2
  have S2 : ea_sB y2 1 N A 0 (t ++ [13, 11, 20, 10]) := S2
  have h2 := b2 _ e2 W2
  obtain ⟨_, hr, hW⟩ := eg287_151_11_0 h2
  injection hr with g1 g2
  rw [S2.2.2.1] at g1
  rw [g2]
  exact ⟨g1, hW, (ea_fB_t f1 f2), S2⟩
theorem eaB287_2 (S : ea_sB w 2 N A 0 t) (ht : t.length ≤ 26) (h : ec_E hb_X n 287 0 [(0, .inr (.inl 215)), (1, .inl x)] [] w (v, w1)) : v = ec_R (ec_xor ((((x + A) * 2) - N) + A) A) ∧ ec_W hb_A w1 ∧ ea_fB w w1 ∧ ea_sB w1 2 N A 0 (t ++ [13, 30, 11, 10]) := by
  obtain ⟨_, u1, y1, a1, b1⟩ := eg287_151_0_0 h
  obtain ⟨e1, W1, f1, S1⟩ := ea_begB S (by omega) rfl a1
  have h1 := b1 e1 W1
  obtain ⟨_, u2, y2, a2, b2⟩ := eg287_151_6_0 h1
  obtain ⟨e2, W2, f2, S2⟩ := eaB284_2 S1 (by rw [List.length_append]; show t.length + 1 ≤ 27; omega) a2
  rw [List.append_assoc] at S2
  have S2 : ea_sB y2 2 N A 0 (t ++ [13, 30, 11, 10]) := S2
  have h2 := b2 _ e2 W2
  obtain ⟨_, hr, hW⟩ := eg287_151_11_0 h2
  injection hr with g1 g2
  rw [S2.2.2.1] at g1
  rw [g2]
  exact ⟨g1, hW, (ea_fB_t f1 f2), S2⟩
theorem eaB287_3 (S : ea_sB w 3 N A 0 t) (ht : t.length ≤ 25) (h : ec_E hb_X n 287 0 [(0, .inr (.inl 215)), (1, .inl x)] [] w (v, w1)) : v = ec_R (ec_xor (((((x + A) * 3) * 2) - N) + A) A) ∧ ec_W hb_A w1 ∧ ea_fB w w1 ∧ ea_sB w1 3 N A 0 (t ++ [13, 30, 11, 40, 10]) := by
  obtain ⟨_, u1, y1, a1, b1⟩ := eg287_151_0_0 h
  obtain ⟨e1, W1, f1, S1⟩ := ea_begB S (by omega) rfl a1
  have h1 := b1 e1 W1
  obtain ⟨_, u2, y2, a2, b2⟩ := eg287_151_6_0 h1
  obtain ⟨e2, W2, f2, S2⟩ := eaB284_3 S1 (by rw [List.length_append]; show t.length + 1 ≤ 26; omega) a2
  rw [List.append_assoc] at S2
  have S2 : ea_sB y2 3 N A 0 (t ++ [13, 30, 11, 40, 10]) := S2
  have h2 := b2 _ e2 W2
  obtain ⟨_, hr, hW⟩ := eg287_151_11_0 h2
  injection hr with g1 g2
  rw [S2.2.2.1] at g1
  rw [g2]
  exact ⟨g1, hW, (ea_fB_t f1 f2), S2⟩
theorem eaB287_4 (S : ea_sB w 4 N A 0 t) (ht : t.length ≤ 27) (h : ec_E hb_X n 287 0 [(0, .inr (.inl 215)), (1, .inl x)] [] w (v, w1)) : v = ec_R (ec_xor (((x + A) * 2) - N) A) ∧ ec_W hb_A w1 ∧ ea_fB w w1 ∧ ea_sB w1 4 N A 0 (t ++ [13, 11, 10]) := by
  obtain ⟨_, u1, y1, a1, b1⟩ := eg287_151_0_0 h
  obtain ⟨e1, W1, f1, S1⟩ := ea_begB S (by omega) rfl a1
  have h1 := b1 e1 W1
  obtain ⟨_, u2, y2, a2, b2⟩ := eg287_151_6_0 h1
  obtain ⟨e2, W2, f2, S2⟩ := eaB284_4 S1 (by rw [List.length_append]; show t.length + 1 ≤ 28; omega) a2
  rw [List.append_assoc] at S2
  have S2 : ea_sB y2 4 N A 0 (t ++ [13, 11, 10]) := S2
  have h2 := b2 _ e2 W2
  obtain ⟨_, hr, hW⟩ := eg287_151_11_0 h2
  injection hr with g1 g2
  rw [S2.2.2.1] at g1
  rw [g2]
  exact ⟨g1, hW, (ea_fB_t f1 f2), S2⟩
theorem eaB287_5 (S : ea_sB w 5 N A 0 t) (ht : t.length ≤ 26) (h : ec_E hb_X n 287 0 [(0, .inr (.inl 215)), (1, .inl x)] [] w (v, w1)) : v = ec_R (ec_xor (0 - (((x + A) * 2) - N)) A) ∧ ec_W hb_A w1 ∧ ea_fB w w1 ∧ ea_sB w1 5 N A 0 (t ++ [13, 60, 11, 10]) := by
  obtain ⟨_, u1, y1, a1, b1⟩ := eg287_151_0_0 h
  obtain ⟨e1, W1, f1, S1⟩ := ea_begB S (by omega) rfl a1
  have h1 := b1 e1 W1
  obtain ⟨_, u2, y2, a2, b2⟩ := eg287_151_6_0 h1
  obtain ⟨e2, W2, f2, S2⟩ := eaB284_5 S1 (by rw [List.length_append]; show t.length + 1 ≤ 27; omega) a2
  rw [List.append_assoc] at S2
  have S2 : ea_sB y2 5 N A 0 (t ++ [13, 60, 11, 10]) := S2
  have h2 := b2 _ e2 W2
  obtain ⟨_, hr, hW⟩ := eg287_151_11_0 h2
  injection hr with g1 g2
  rw [S2.2.2.1] at g1
  rw [g2]
  exact ⟨g1, hW, (ea_fB_t f1 f2), S2⟩
theorem eaB287_6 (S : ea_sB w 6 N A 0 t) (ht : t.length ≤ 25) (h : ec_E hb_X n 287 0 [(0, .inr (.inl 215)), (1, .inl x)] [] w (v, w1)) : v = ec_R (ec_xor ((((x + A) * 2) - N) + (0 + A)) A) ∧ ec_W hb_A w1 ∧ ea_fB w w1 ∧ ea_sB w1 6 N A 0 (t ++ [13, 71, 11, 10, 10]) := by
  obtain ⟨_, u1, y1, a1, b1⟩ := eg287_151_0_0 h
  obtain ⟨e1, W1, f1, S1⟩ := ea_begB S (by omega) rfl a1
  have h1 := b1 e1 W1
  obtain ⟨_, u2, y2, a2, b2⟩ := eg287_151_6_0 h1
  obtain ⟨e2, W2, f2, S2⟩ := eaB284_6 S1 (by rw [List.length_append]; show t.length + 1 ≤ 26; omega) a2
  rw [List.append_assoc] at S2
  have S2 : ea_sB y2 6 N A 0 (t ++ [13, 71, 11, 10, 10]) := S2
  have h2 := b2 _ e2 W2
  obtain ⟨_, hr, hW⟩ := eg287_151_11_0 h2
  injection hr with g1 g2
  rw [S2.2.2.1] at g1
  rw [g2]
  exact ⟨g1, hW, (ea_fB_t f1 f2), S2⟩
theorem eaB288_1 (S : ea_sB w 1 N A 0 t) (ht : t.length ≤ 26) (h : ec_E hb_X n 288 0 [(0, .inr (.inl 215)), (1, .inl x)] [] w (v, w1)) : v = ec_R (ec_xor ((((x + A) - 40) * 2) - N) A) ∧ ec_W hb_A w1 ∧ ea_fB w w1 ∧ ea_sB w1 1 N A 0 (t ++ [13, 11, 20, 10]) := by
  obtain ⟨_, u1, y1, a1, b1⟩ := eg288_151_0_1 h (by rw [S.1]; decide) (by rw [S.1]; decide) (by rw [S.1]; decide)
  obtain ⟨e1, W1, f1, S1⟩ := eaB287_1 S (by omega) a1
  have h1 := b1 _ e1 W1
  obtain ⟨_, hr, hW⟩ := eg288_151_63_0 h1
  injection hr with g1 g2
  rw [g2]
  exact ⟨g1, hW, f1, S1⟩
theorem eaB288_2 (S : ea_sB w 2 N A 0 t) (ht : t.length ≤ 26) (h : ec_E hb_X n 288 0 [(0, .inr (.inl 215)), (1, .inl x)] [] w (v, w1)) : v = ec_R (ec_xor ((((x + A) * 2) - N) + A) A) ∧ ec_W hb_A w1 ∧ ea_fB w w1 ∧ ea_sB w1 2 N A 0 (t ++ [13, 30, 11, 10]) := by
  obtain ⟨_, u1, y1, a1, b1⟩ := eg288_151_0_1 h (by rw [S.1]; decide) (by rw [S.1]; decide) (by rw [S.1]; decide)
  obtain ⟨e1, W1, f1, S1⟩ := eaB287_2 S (by omega) a1
  have h1 := b1 _ e1 W1
  obtain ⟨_, hr, hW⟩ := eg288_151_63_0 h1
  injection hr with g1 g2
  rw [g2]
  exact ⟨g1, hW, f1, S1⟩
theorem eaB288_3 (S : ea_sB w 3 N A 0 t) (ht : t.length ≤ 24) (h : ec_E hb_X n 288 0 [(0, .inr (.inl 215)), (1, .inl x)] [] w (v, w1)) : v = ec_R ((ec_xor (((((x + A) * 3) * 2) - N) + A) A) - 1) ∧ ec_W hb_A w1 ∧ ea_fB w w1 ∧ ea_sB w1 3 N A 0 (t ++ [41, 13, 30, 11, 40, 10]) := by
  obtain ⟨_, u1, y1, a1, b1⟩ := eg288_151_0_3 h ((congrArg ec_tw S.1).trans rfl)
  obtain ⟨e1, W1, f1, S1⟩ := ea_begB S (by omega) rfl a1
  have h1 := b1 e1 W1
  obtain ⟨_, u2, y2, a2, b2⟩ := eg288_151_14_0 h1
  obtain ⟨e2, W2, f2, S2⟩ := eaB287_3 S1 (by rw [List.length_append]; show t.length + 1 ≤ 25; omega) a2
  rw [List.append_assoc] at S2
  have S2 : ea_sB y2 3 N A 0 (t ++ [41, 13, 30, 11, 40, 10]) := S2
  have h2 := b2 _ e2 W2
  obtain ⟨_, hr, hW⟩ := eg288_151_19_0 h2
  injection hr with g1 g2
  rw [g2]
  exact ⟨g1, hW, (ea_fB_t f1 f2), S2⟩
theorem eaB288_4 (S : ea_sB w 4 N A 0 t) (ht : t.length ≤ 25) (h : ec_E hb_X n 288 0 [(0, .inr (.inl 215)), (1, .inl x)] [] w (v, w1)) : v = ec_R (ec_xor (ec_xor (((x + A) * 2) - N) A) (x + A)) ∧ ec_W hb_A w1 ∧ ea_fB w w1 ∧ ea_sB w1 4 N A 0 (t ++ [50, 13, 11, 10, 10]) := by
  obtain ⟨_, u1, y1, a1, b1⟩ := eg288_151_0_0 h (by rw [S.1]; decide) ((congrArg ec_tw S.1).trans rfl)
  obtain ⟨e1, W1, f1, S1⟩ := ea_begB S (by omega) rfl a1
  have h1 := b1 e1 W1
  obtain ⟨_, u2, y2, a2, b2⟩ := eg288_151_44_0 h1
  obtain ⟨e2, W2, f2, S2⟩ := eaB287_4 S1 (by rw [List.length_append]; show t.length + 1 ≤ 27; omega) a2
  rw [List.append_assoc] at S2
  have S2 : ea_sB y2 4 N A 0 (t ++ [50, 13, 11, 10]) := S2
  have h2 := b2 _ e2 W2
  obtain ⟨_, u3, y3, a3, b3⟩ := eg288_151_49_0 h2
  obtain ⟨e3, W3, f3, S3⟩ := eaB282_4 S2 (by rw [List.length_append]; show t.length + 4 ≤ 29; omega) a3
  rw [List.append_assoc] at S3
  have S3 : ea_sB y3 4 N A 0 (t ++ [50, 13, 11, 10, 10]) := S3
  have h3 := b3 _ e3 W3
  obtain ⟨_, hr, hW⟩ := eg288_151_56_0 h3
  injection hr with g1 g2
  rw [g2]
  exact ⟨g1, hW, (ea_fB_t (ea_fB_t f1 f2) f3), S3⟩
theorem eaB288_5 (S : ea_sB w 5 N A 0 t) (ht : t.length ≤ 24) (h : ec_E hb_X n 288 0 [(0, .inr (.inl 215)), (1, .inl x)] [] w (v, w1)) : v = ec_R (ec_xor (ec_xor (0 - (((x + A) * 2) - N)) A) (x + A)) ∧ ec_W hb_A w1 ∧ ea_fB w w1 ∧ ea_sB w1 5 N A 0 (t ++ [50, 13, 60, 11, 10, 10]) := by
  obtain ⟨_, u1, y1, a1, b1⟩ := eg288_151_0_2 h (by rw [S.1]; decide) (by rw [S.1]; decide) ((congrArg ec_tw S.1).trans rfl)
  obtain ⟨e1, W1, f1, S1⟩ := ea_begB S (by omega) rfl a1
  have h1 := b1 e1 W1
  obtain ⟨_, u2, y2, a2, b2⟩ := eg288_151_44_0 h1
  obtain ⟨e2, W2, f2, S2⟩ := eaB287_5 S1 (by rw [List.length_append]; show t.length + 1 ≤ 26; omega) a2
  rw [List.append_assoc] at S2
  have S2 : ea_sB y2 5 N A 0 (t ++ [50, 13, 60, 11, 10]) := S2
  have h2 := b2 _ e2 W2
  obtain ⟨_, u3, y3, a3, b3⟩ := eg288_151_49_0 h2
  obtain ⟨e3, W3, f3, S3⟩ := eaB282_5 S2 (by rw [List.length_append]; show t.length + 5 ≤ 29; omega) a3
  rw [List.append_assoc] at S3
  have S3 : ea_sB y3 5 N A 0 (t ++ [50, 13, 60, 11, 10, 10]) := S3
  have h3 := b3 _ e3 W3
  obtain ⟨_, hr, hW⟩ := eg288_151_56_0 h3
  injection hr with g1 g2
  rw [g2]
  exact ⟨g1, hW, (ea_fB_t (ea_fB_t f1 f2) f3), S3⟩
theorem eaB288_6 (S : ea_sB w 6 N A 0 t) (ht : t.length ≤ 25) (h : ec_E hb_X n 288 0 [(0, .inr (.inl 215)), (1, .inl x)] [] w (v, w1)) : v = ec_R (ec_xor ((((x + A) * 2) - N) + (0 + A)) A) ∧ ec_W hb_A w1 ∧ ea_fB w w1 ∧ ea_sB w1 6 N A 0 (t ++ [13, 71, 11, 10, 10]) := by
  obtain ⟨_, u1, y1, a1, b1⟩ := eg288_151_0_1 h (by rw [S.1]; decide) (by rw [S.1]; decide) (by rw [S.1]; decide)
  obtain ⟨e1, W1, f1, S1⟩ := eaB287_6 S (by omega) a1
  have h1 := b1 _ e1 W1
  obtain ⟨_, hr, hW⟩ := eg288_151_63_0 h1
  injection hr with g1 g2
  rw [g2]
  exact ⟨g1, hW, f1, S1⟩
theorem eaA179_0_1 (S : ea_sA w 1 N A 0 t) (ht : t.length ≤ 28) (h : ec_E hb_X n 179 0 [(0, .inr (.inl 64)), (1, .inl 0), (2, .inl x)] [] w (v, w1)) : v = ec_R ((x + A) - 40) ∧ ec_W hb_A w1 ∧ ea_fA w w1 ∧ ea_sA w1 1 N A 0 (t ++ [20, 10]) := by
  obtain ⟨_, u1, y1, a1, b1⟩ := eg179_0_0_0 h (by decide)
  obtain ⟨e1, W1, f1, S1⟩ := eaA5_1 S (by omega) a1
  have h1 := b1 _ e1 W1
  obtain ⟨_, hr, hW⟩ := eg179_0_40_0 h1
  injection hr with g1 g2
  rw [g2]
  exact ⟨g1, hW, f1, S1⟩
theorem eaB289_0_1 (S : ea_sB w 1 N A 0 t) (ht : t.length ≤ 28) (h : ec_E hb_X n 289 175 [(0, .inr (.inl 215)), (1, .inl x0), (2, .inl 0), (3, .inl x)] [] w (v, w1)) : v = ec_R ((x + A) - 40) ∧ ec_W hb_A w1 ∧ ea_fB w w1 ∧ ea_sB w1 1 N A 0 (t ++ [20, 10]) := by
  obtain ⟨_, u1, y1, a1, b1⟩ := eg289_151_175_3 h (by decide)
  obtain ⟨e1, W1, f1, S1⟩ := eaB282_1 S (by omega) a1
  have h1 := b1 _ e1 W1
  have h2 := (eg289_151_184_0 h1).2
  obtain ⟨_, hr, hW⟩ := eg289_151_218_0 h2 ((congrArg ec_tw S1.2.2.2.1).trans rfl)
  injection hr with g1 g2
  rw [g2]
  exact ⟨g1, hW, f1, S1⟩
theorem eaA179_0_2 (S : ea_sA w 2 N A 0 t) (ht : t.length ≤ 29) (h : ec_E hb_X n 179 0 [(0, .inr (.inl 64)), (1, .inl 0), (2, .inl x)] [] w (v, w1)) : v = ec_R (x + A) ∧ ec_W hb_A w1 ∧ ea_fA w w1 ∧ ea_sA w1 2 N A 0 (t ++ [10]) := by
  obtain ⟨_, u1, y1, a1, b1⟩ := eg179_0_0_0 h (by decide)
  obtain ⟨e1, W1, f1, S1⟩ := eaA5_2 S (by omega) a1
  have h1 := b1 _ e1 W1
  obtain ⟨_, hr, hW⟩ := eg179_0_40_0 h1
  injection hr with g1 g2
  rw [g2]
  exact ⟨g1, hW, f1, S1⟩
theorem eaB289_0_2 (S : ea_sB w 2 N A 0 t) (ht : t.length ≤ 29) (h : ec_E hb_X n 289 175 [(0, .inr (.inl 215)), (1, .inl x0), (2, .inl 0), (3, .inl x)] [] w (v, w1)) : v = ec_R (x + A) ∧ ec_W hb_A w1 ∧ ea_fB w w1 ∧ ea_sB w1 2 N A 0 (t ++ [10]) := by
  obtain ⟨_, u1, y1, a1, b1⟩ := eg289_151_175_3 h (by decide)
  obtain ⟨e1, W1, f1, S1⟩ := eaB282_2 S (by omega) a1
  have h1 := b1 _ e1 W1
  have h2 := (eg289_151_184_0 h1).2
  obtain ⟨_, hr, hW⟩ := eg289_151_218_0 h2 ((congrArg ec_tw S1.2.2.2.1).trans rfl)
  injection hr with g1 g2
  rw [g2]
  exact ⟨g1, hW, f1, S1⟩
theorem eaA179_0_3 (S : ea_sA w 3 N A 0 t) (ht : t.length ≤ 28) (h : ec_E hb_X n 179 0 [(0, .inr (.inl 64)), (1, .inl 0), (2, .inl x)] [] w (v, w1)) : v = ec_R ((x + A) * 3) ∧ ec_W hb_A w1 ∧ ea_fA w w1 ∧ ea_sA w1 3 N A 0 (t ++ [40, 10]) := by
  obtain ⟨_, u1, y1, a1, b1⟩ := eg179_0_0_0 h (by decide)
  obtain ⟨e1, W1, f1, S1⟩ := eaA5_3 S (by omega) a1
  have h1 := b1 _ e1 W1
  obtain ⟨_, hr, hW⟩ := eg179_0_40_0 h1
  injection hr with g1 g2
  rw [g2]
  exact ⟨g1, hW, f1, S1⟩
theorem eaB289_0_3 (S : ea_sB w 3 N A 0 t) (ht : t.length ≤ 28) (h : ec_E hb_X n 289 175 [(0, .inr (.inl 215)), (1, .inl x0), (2, .inl 0), (3, .inl x)] [] w (v, w1)) : v = ec_R ((x + A) * 3) ∧ ec_W hb_A w1 ∧ ea_fB w w1 ∧ ea_sB w1 3 N A 0 (t ++ [40, 10]) := by
  obtain ⟨_, u1, y1, a1, b1⟩ := eg289_151_175_3 h (by decide)
  obtain ⟨e1, W1, f1, S1⟩ := eaB282_3 S (by omega) a1
  have h1 := b1 _ e1 W1
  have h2 := (eg289_151_184_0 h1).2
  obtain ⟨_, hr, hW⟩ := eg289_151_218_0 h2 ((congrArg ec_tw S1.2.2.2.1).trans rfl)
  injection hr with g1 g2
  rw [g2]
  exact ⟨g1, hW, f1, S1⟩
theorem eaA179_0_4 (S : ea_sA w 4 N A 0 t) (ht : t.length ≤ 29) (h : ec_E hb_X n 179 0 [(0, .inr (.inl 64)), (1, .inl 0), (2, .inl x)] [] w (v, w1)) : v = ec_R (x + A) ∧ ec_W hb_A w1 ∧ ea_fA w w1 ∧ ea_sA w1 4 N A 0 (t ++ [10]) := by
  obtain ⟨_, u1, y1, a1, b1⟩ := eg179_0_0_0 h (by decide)
  obtain ⟨e1, W1, f1, S1⟩ := eaA5_4 S (by omega) a1
  have h1 := b1 _ e1 W1
  obtain ⟨_, hr, hW⟩ := eg179_0_40_0 h1
  injection hr with g1 g2
  rw [g2]
  exact ⟨g1, hW, f1, S1⟩
theorem eaB289_0_4 (S : ea_sB w 4 N A 0 t) (ht : t.length ≤ 29) (h : ec_E hb_X n 289 175 [(0, .inr (.inl 215)), (1, .inl x0), (2, .inl 0), (3, .inl x)] [] w (v, w1)) : v = ec_R (x + A) ∧ ec_W hb_A w1 ∧ ea_fB w w1 ∧ ea_sB w1 4 N A 0 (t ++ [10]) := by
  obtain ⟨_, u1, y1, a1, b1⟩ := eg289_151_175_3 h (by decide)
  obtain ⟨e1, W1, f1, S1⟩ := eaB282_4 S (by omega) a1
  have h1 := b1 _ e1 W1
  have h2 := (eg289_151_184_0 h1).2
  obtain ⟨_, hr, hW⟩ := eg289_151_218_0 h2 ((congrArg ec_tw S1.2.2.2.1).trans rfl)
  injection hr with g1 g2
  rw [g2]
  exact ⟨g1, hW, f1, S1⟩
theorem eaA179_0_5 (S : ea_sA w 5 N A 0 t) (ht : t.length ≤ 29) (h : ec_E hb_X n 179 0 [(0, .inr (.inl 64)), (1, .inl 0), (2, .inl x)] [] w (v, w1)) : v = ec_R (x + A) ∧ ec_W hb_A w1 ∧ ea_fA w w1 ∧ ea_sA w1 5 N A 0 (t ++ [10]) := by
  obtain ⟨_, u1, y1, a1, b1⟩ := eg179_0_0_0 h (by decide)
  obtain ⟨e1, W1, f1, S1⟩ := eaA5_5 S (by omega) a1
  have h1 := b1 _ e1 W1
  obtain ⟨_, hr, hW⟩ := eg179_0_40_0 h1
  injection hr with g1 g2
  rw [g2]
  exact ⟨g1, hW, f1, S1⟩
theorem eaB289_0_5 (S : ea_sB w 5 N A 0 t) (ht : t.length ≤ 29) (h : ec_E hb_X n 289 175 [(0, .inr (.inl 215)), (1, .inl x0), (2, .inl 0), (3, .inl x)] [] w (v, w1)) : v = ec_R (x + A) ∧ ec_W hb_A w1 ∧ ea_fB w w1 ∧ ea_sB w1 5 N A 0 (t ++ [10]) := by
  obtain ⟨_, u1, y1, a1, b1⟩ := eg289_151_175_3 h (by decide)
  obtain ⟨e1, W1, f1, S1⟩ := eaB282_5 S (by omega) a1
  have h1 := b1 _ e1 W1
  have h2 := (eg289_151_184_0 h1).2
  obtain ⟨_, hr, hW⟩ := eg289_151_218_0 h2 ((congrArg ec_tw S1.2.2.2.1).trans rfl)
  injection hr with g1 g2
  rw [g2]
  exact ⟨g1, hW, f1, S1⟩
theorem eaA179_0_6 (S : ea_sA w 6 N A 0 t) (ht : t.length ≤ 29) (h : ec_E hb_X n 179 0 [(0, .inr (.inl 64)), (1, .inl 0), (2, .inl x)] [] w (v, w1)) : v = ec_R (x + A) ∧ ec_W hb_A w1 ∧ ea_fA w w1 ∧ ea_sA w1 6 N A 0 (t ++ [10]) := by
  obtain ⟨_, u1, y1, a1, b1⟩ := eg179_0_0_0 h (by decide)
  obtain ⟨e1, W1, f1, S1⟩ := eaA5_6 S (by omega) a1
  have h1 := b1 _ e1 W1
  obtain ⟨_, hr, hW⟩ := eg179_0_40_0 h1
  injection hr with g1 g2
  rw [g2]
  exact ⟨g1, hW, f1, S1⟩
theorem eaB289_0_6 (S : ea_sB w 6 N A 0 t) (ht : t.length ≤ 29) (h : ec_E hb_X n 289 175 [(0, .inr (.inl 215)), (1, .inl x0), (2, .inl 0), (3, .inl x)] [] w (v, w1)) : v = ec_R (x + A) ∧ ec_W hb_A w1 ∧ ea_fB w w1 ∧ ea_sB w1 6 N A 0 (t ++ [10]) := by
  obtain ⟨_, u1, y1, a1, b1⟩ := eg289_151_175_3 h (by decide)
  obtain ⟨e1, W1, f1, S1⟩ := eaB282_6 S (by omega) a1
  have h1 := b1 _ e1 W1
  have h2 := (eg289_151_184_0 h1).2
  obtain ⟨_, hr, hW⟩ := eg289_151_218_0 h2 ((congrArg ec_tw S1.2.2.2.1).trans rfl)
  injection hr with g1 g2
  rw [g2]
  exact ⟨g1, hW, f1, S1⟩
theorem eaA179_1_1 (S : ea_sA w 1 N A 0 t) (ht : t.length ≤ 27) (h : ec_E hb_X n 179 0 [(0, .inr (.inl 64)), (1, .inl 1), (2, .inl x)] [] w (v, w1)) : v = ec_R ((((x + A) - 40) * 2) - N) ∧ ec_W hb_A w1 ∧ ea_fA w w1 ∧ ea_sA w1 1 N A 0 (t ++ [11, 20, 10]) := by
  obtain ⟨_, u1, y1, a1, b1⟩ := eg179_0_0_1 h (by decide)
  obtain ⟨e1, W1, f1, S1⟩ := eaA6_1 S (by omega) a1
  have h1 := b1 _ e1 W1
  obtain ⟨_, hr, hW⟩ := eg179_0_49_0 h1
  injection hr with g1 g2
  rw [g2]
  exact ⟨g1, hW, f1, S1⟩
theorem eaB289_1_1 (S : ea_sB w 1 N A 0 t) (ht : t.length ≤ 27) (h : ec_E hb_X n 289 175 [(0, .inr (.inl 215)), (1, .inl x0), (2, .inl 1), (3, .inl x)] [] w (v, w1)) : v = ec_R ((((x + A) - 40) * 2) - N) ∧ ec_W hb_A w1 ∧ ea_fB w w1 ∧ ea_sB w1 1 N A 0 (t ++ [11, 20, 10]) := by
  obtain ⟨_, u1, y1, a1, b1⟩ := eg289_151_175_2 h (by decide) (by decide)
  obtain ⟨e1, W1, f1, S1⟩ := eaB284_1 S (by omega) a1
  have h1 := b1 _ e1 W1
  have h2 := (eg289_151_197_0 h1).2
  obtain ⟨_, hr, hW⟩ := eg289_151_218_0 h2 ((congrArg ec_tw S1.2.2.2.1).trans rfl)
  injection hr with g1 g2
  rw [g2]
  exact ⟨g1, hW, f1, S1⟩
theorem eaA179_1_2 (S : ea_sA w 2 N A 0 t) (ht : t.length ≤ 27) (h : ec_E hb_X n 179 0 [(0, .inr (.inl 64)), (1, .inl 1), (2, .inl x)] [] w (v, w1)) : v = ec_R ((((x + A) * 2) - N) + A) ∧ ec_W hb_A w1 ∧ ea_fA w w1 ∧ ea_sA w1 2 N A 0 (t ++ [30, 11, 10]) := by
  obtain ⟨_, u1, y1, a1, b1⟩ := eg179_0_0_1 h (by decide)
  obtain ⟨e1, W1, f1, S1⟩ := eaA6_2 S (by omega) a1
  have h1 := b1 _ e1 W1
  obtain ⟨_, hr, hW⟩ := eg179_0_49_0 h1
  injection hr with g1 g2
  rw [g2]
  exact ⟨g1, hW, f1, S1⟩
theorem eaB289_1_2 (S : ea_sB w 2 N A 0 t) (ht : t.length ≤ 27) (h : ec_E hb_X n 289 175 [(0, .inr (.inl 215)), (1, .inl x0), (2, .inl 1), (3, .inl x)] [] w (v, w1)) : v = ec_R ((((x + A) * 2) - N) + A) ∧ ec_W hb_A w1 ∧ ea_fB w w1 ∧ ea_sB w1 2 N A 0 (t ++ [30, 11, 10]) := by
  obtain ⟨_, u1, y1, a1, b1⟩ := eg289_151_175_2 h (by decide) (by decide)
  obtain ⟨e1, W1, f1, S1⟩ := eaB284_2 S (by omega) a1
  have h1 := b1 _ e1 W1
  have h2 := (eg289_151_197_0 h1).2
  obtain ⟨_, hr, hW⟩ := eg289_151_218_0 h2 ((congrArg ec_tw S1.2.2.2.1).trans rfl)
  injection hr with g1 g2
  rw [g2]
  exact ⟨g1, hW, f1, S1⟩
theorem eaA179_1_3 (S : ea_sA w 3 N A 0 t) (ht : t.length ≤ 26) (h : ec_E hb_X n 179 0 [(0, .inr (.inl 64)), (1, .inl 1), (2, .inl x)] [] w (v, w1)) : v = ec_R (((((x + A) * 3) * 2) - N) + A) ∧ ec_W hb_A w1 ∧ ea_fA w w1 ∧ ea_sA w1 3 N A 0 (t ++ [30, 11, 40, 10]) := by
  obtain ⟨_, u1, y1, a1, b1⟩ := eg179_0_0_1 h (by decide)
  obtain ⟨e1, W1, f1, S1⟩ := eaA6_3 S (by omega) a1
  have h1 := b1 _ e1 W1
  obtain ⟨_, hr, hW⟩ := eg179_0_49_0 h1
  injection hr with g1 g2
  rw [g2]
  exact ⟨g1, hW, f1, S1⟩
theorem eaB289_1_3 (S : ea_sB w 3 N A 0 t) (ht : t.length ≤ 26) (h : ec_E hb_X n 289 175 [(0, .inr (.inl 215)), (1, .inl x0), (2, .inl 1), (3, .inl x)] [] w (v, w1)) : v = ec_R (((((x + A) * 3) * 2) - N) + A) ∧ ec_W hb_A w1 ∧ ea_fB w w1 ∧ ea_sB w1 3 N A 0 (t ++ [30, 11, 40, 10]) := by
  obtain ⟨_, u1, y1, a1, b1⟩ := eg289_151_175_2 h (by decide) (by decide)
  obtain ⟨e1, W1, f1, S1⟩ := eaB284_3 S (by omega) a1
  have h1 := b1 _ e1 W1
  have h2 := (eg289_151_197_0 h1).2
  obtain ⟨_, hr, hW⟩ := eg289_151_218_0 h2 ((congrArg ec_tw S1.2.2.2.1).trans rfl)
  injection hr with g1 g2
  rw [g2]
  exact ⟨g1, hW, f1, S1⟩
theorem eaA179_1_4 (S : ea_sA w 4 N A 0 t) (ht : t.length ≤ 28) (h : ec_E hb_X n 179 0 [(0, .inr (.inl 64)), (1, .inl 1), (2, .inl x)] [] w (v, w1)) : v = ec_R (((x + A) * 2) - N) ∧ ec_W hb_A w1 ∧ ea_fA w w1 ∧ ea_sA w1 4 N A 0 (t ++ [11, 10]) := by
  obtain ⟨_, u1, y1, a1, b1⟩ := eg179_0_0_1 h (by decide)
  obtain ⟨e1, W1, f1, S1⟩ := eaA6_4 S (by omega) a1
  have h1 := b1 _ e1 W1
  obtain ⟨_, hr, hW⟩ := eg179_0_49_0 h1
  injection hr with g1 g2
  rw [g2]
  exact ⟨g1, hW, f1, S1⟩
theorem eaB289_1_4 (S : ea_sB w 4 N A 0 t) (ht : t.length ≤ 28) (h : ec_E hb_X n 289 175 [(0, .inr (.inl 215)), (1, .inl x0), (2, .inl 1), (3, .inl x)] [] w (v, w1)) : v = ec_R (((x + A) * 2) - N) ∧ ec_W hb_A w1 ∧ ea_fB w w1 ∧ ea_sB w1 4 N A 0 (t ++ [11, 10]) := by
  obtain ⟨_, u1, y1, a1, b1⟩ := eg289_151_175_2 h (by decide) (by decide)
  obtain ⟨e1, W1, f1, S1⟩ := eaB284_4 S (by omega) a1
  have h1 := b1 _ e1 W1
  have h2 := (eg289_151_197_0 h1).2
  obtain ⟨_, hr, hW⟩ := eg289_151_218_0 h2 ((congrArg ec_tw S1.2.2.2.1).trans rfl)
  injection hr with g1 g2
  rw [g2]
  exact ⟨g1, hW, f1, S1⟩
theorem eaA179_1_5 (S : ea_sA w 5 N A 0 t) (ht : t.length ≤ 27) (h : ec_E hb_X n 179 0 [(0, .inr (.inl 64)), (1, .inl 1), (2, .inl x)] [] w (v, w1)) : v = ec_R (0 - (((x + A) * 2) - N)) ∧ ec_W hb_A w1 ∧ ea_fA w w1 ∧ ea_sA w1 5 N A 0 (t ++ [60, 11, 10]) := by
  obtain ⟨_, u1, y1, a1, b1⟩ := eg179_0_0_1 h (by decide)
  obtain ⟨e1, W1, f1, S1⟩ := eaA6_5 S (by omega) a1
  have h1 := b1 _ e1 W1
  obtain ⟨_, hr, hW⟩ := eg179_0_49_0 h1
  injection hr with g1 g2
  rw [g2]
  exact ⟨g1, hW, f1, S1⟩
theorem eaB289_1_5 (S : ea_sB w 5 N A 0 t) (ht : t.length ≤ 27) (h : ec_E hb_X n 289 175 [(0, .inr (.inl 215)), (1, .inl x0), (2, .inl 1), (3, .inl x)] [] w (v, w1)) : v = ec_R (0 - (((x + A) * 2) - N)) ∧ ec_W hb_A w1 ∧ ea_fB w w1 ∧ ea_sB w1 5 N A 0 (t ++ [60, 11, 10]) := by
  obtain ⟨_, u1, y1, a1, b1⟩ := eg289_151_175_2 h (by decide) (by decide)
  obtain ⟨e1, W1, f1, S1⟩ := eaB284_5 S (by omega) a1
  have h1 := b1 _ e1 W1
  have h2 := (eg289_151_197_0 h1).2
  obtain ⟨_, hr, hW⟩ := eg289_151_218_0 h2 ((congrArg ec_tw S1.2.2.2.1).trans rfl)
  injection hr with g1 g2
  rw [g2]
  exact ⟨g1, hW, f1, S1⟩
theorem eaA179_1_6 (S : ea_sA w 6 N A 0 t) (ht : t.length ≤ 26) (h : ec_E hb_X n 179 0 [(0, .inr (.inl 64)), (1, .inl 1), (2, .inl x)] [] w (v, w1)) : v = ec_R ((((x + A) * 2) - N) + (0 + A)) ∧ ec_W hb_A w1 ∧ ea_fA w w1 ∧ ea_sA w1 6 N A 0 (t ++ [71, 11, 10, 10]) := by
  obtain ⟨_, u1, y1, a1, b1⟩ := eg179_0_0_1 h (by decide)
  obtain ⟨e1, W1, f1, S1⟩ := eaA6_6 S (by omega) a1
  have h1 := b1 _ e1 W1
  obtain ⟨_, hr, hW⟩ := eg179_0_49_0 h1
  injection hr with g1 g2
  rw [g2]
  exact ⟨g1, hW, f1, S1⟩
theorem eaB289_1_6 (S : ea_sB w 6 N A 0 t) (ht : t.length ≤ 26) (h : ec_E hb_X n 289 175 [(0, .inr (.inl 215)), (1, .inl x0), (2, .inl 1), (3, .inl x)] [] w (v, w1)) : v = ec_R ((((x + A) * 2) - N) + (0 + A)) ∧ ec_W hb_A w1 ∧ ea_fB w w1 ∧ ea_sB w1 6 N A 0 (t ++ [71, 11, 10, 10]) := by
  obtain ⟨_, u1, y1, a1, b1⟩ := eg289_151_175_2 h (by decide) (by decide)
  obtain ⟨e1, W1, f1, S1⟩ := eaB284_6 S (by omega) a1
  have h1 := b1 _ e1 W1
  have h2 := (eg289_151_197_0 h1).2
  obtain ⟨_, hr, hW⟩ := eg289_151_218_0 h2 ((congrArg ec_tw S1.2.2.2.1).trans rfl)
  injection hr with g1 g2
  rw [g2]
  exact ⟨g1, hW, f1, S1⟩
theorem eaA179_2_1_0 (S : ea_sA w 1 N A 0 t) (ht : t.length ≤ 26) (rA : ec_tw A = A) (rN : ec_tw N = N) (hq : A ≠ N) (h : ec_E hb_X n 179 0 [(0, .inr (.inl 64)), (1, .inl 2), (2, .inl x)] [] w (v, w1)) : v = ec_R ((ec_dv x (A - N)) + ((1 + A) - 40)) ∧ ec_W hb_A w1 ∧ ea_fA w w1 ∧ ea_sA w1 1 N A 0 (t ++ [21, 12, 20, 10]) := by
  obtain ⟨_, u1, y1, a1, b1⟩ := eg179_0_0_2 h (by decide)
  obtain ⟨e1, W1, f1, S1⟩ := eaA7_1_0 S (by omega) rA rN hq a1
  have h1 := b1 _ e1 W1
  obtain ⟨_, hr, hW⟩ := eg179_0_58_0 h1 ((congrArg ec_tw S1.2.2.2.1).trans rfl)
  injection hr with g1 g2
  rw [g2]
  exact ⟨g1, hW, f1, S1⟩
theorem eaB289_2_1_0 (S : ea_sB w 1 N A 0 t) (ht : t.length ≤ 26) (rA : ec_tw A = A) (rN : ec_tw N = N) (hq : A ≠ N) (h : ec_E hb_X n 289 175 [(0, .inr (.inl 215)), (1, .inl x0), (2, .inl 2), (3, .inl x)] [] w (v, w1)) : v = ec_R ((ec_dv x (A - N)) + ((1 + A) - 40)) ∧ ec_W hb_A w1 ∧ ea_fB w w1 ∧ ea_sB w1 1 N A 0 (t ++ [21, 12, 20, 10]) := by
  obtain ⟨_, u1, y1, a1, b1⟩ := eg289_151_175_1 h (by decide) (by decide) (by decide)
  obtain ⟨e1, W1, f1, S1⟩ := eaB286_1_0 S (by omega) rA rN hq a1
  have h1 := b1 _ e1 W1
  have h2 := (eg289_151_210_0 h1).2
  obtain ⟨_, hr, hW⟩ := eg289_151_218_0 h2 ((congrArg ec_tw S1.2.2.2.1).trans rfl)
  injection hr with g1 g2
  rw [g2]
  exact ⟨g1, hW, f1, S1⟩
theorem eaA179_2_1_1 (S : ea_sA w 1 N A 0 t) (ht : t.length ≤ 28) (rA : ec_tw A = A) (rN : ec_tw N = N) (hq : A = N) (h : ec_E hb_X n 179 0 [(0, .inr (.inl 64)), (1, .inl 2), (2, .inl x)] [] w (v, w1)) : v = ec_R (-15) ∧ ec_W hb_A w1 ∧ ea_fA w w1 ∧ ea_sA w1 1 N A 1 (t ++ [21, 12]) := by
  obtain ⟨_, u1, y1, a1, b1⟩ := eg179_0_0_2 h (by decide)
  obtain ⟨e1, W1, f1, S1⟩ := eaA7_1_1 S (by omega) rA rN hq a1
  have h1 := b1 _ e1 W1
  obtain ⟨_, hr, hW⟩ := eg179_0_58_1 h1 (by rw [S1.2.2.2.1]; decide)
  injection hr with g1 g2
  rw [g2]
  exact ⟨g1, hW, f1, S1⟩
theorem eaB289_2_1_1 (S : ea_sB w 1 N A 0 t) (ht : t.length ≤ 28) (rA : ec_tw A = A) (rN : ec_tw N = N) (hq : A = N) (h : ec_E hb_X n 289 175 [(0, .inr (.inl 215)), (1, .inl x0), (2, .inl 2), (3, .inl x)] [] w (v, w1)) : v = ec_R (-15) ∧ ec_W hb_A w1 ∧ ea_fB w w1 ∧ ea_sB w1 1 N A 1 (t ++ [21, 12]) := by
  obtain ⟨_, u1, y1, a1, b1⟩ := eg289_151_175_1 h (by decide) (by decide) (by decide)
  obtain ⟨e1, W1, f1, S1⟩ := eaB286_1_1 S (by omega) rA rN hq a1
  have h1 := b1 _ e1 W1
  have h2 := (eg289_151_210_0 h1).2
  obtain ⟨_, hr, hW⟩ := eg289_151_218_1 h2 (by rw [S1.2.2.2.1]; decide)
  injection hr with g1 g2
  rw [g2]
  exact ⟨g1, hW, f1, S1⟩
theorem eaA179_2_2_0 (S : ea_sA w 2 N A 0 t) (ht : t.length ≤ 29) (rA : ec_tw A = A) (rN : ec_tw N = N) (hq : A ≠ N) (h : ec_E hb_X n 179 0 [(0, .inr (.inl 64)), (1, .inl 2), (2, .inl x)] [] w (v, w1)) : v = ec_R (ec_dv x (A - N)) ∧ ec_W hb_A w1 ∧ ea_fA w w1 ∧ ea_sA w1 2 N A 0 (t ++ [12]) := by
  obtain ⟨_, u1, y1, a1, b1⟩ := eg179_0_0_2 h (by decide)
  obtain ⟨e1, W1, f1, S1⟩ := eaA7_2_0 S (by omega) rA rN hq a1
  have h1 := b1 _ e1 W1
  obtain ⟨_, hr, hW⟩ := eg179_0_58_0 h1 ((congrArg ec_tw S1.2.2.2.1).trans rfl)
  injection hr with g1 g2
  rw [g2]
  exact ⟨g1, hW, f1, S1⟩
theorem eaB289_2_2_0 (S : ea_sB w 2 N A 0 t) (ht : t.length ≤ 29) (rA : ec_tw A = A) (rN : ec_tw N = N) (hq : A ≠ N) (h : ec_E hb_X n 289 175 [(0, .inr (.inl 215)), (1, .inl x0), (2, .inl 2), (3, .inl x)] [] w (v, w1)) : v = ec_R (ec_dv x (A - N)) ∧ ec_W hb_A w1 ∧ ea_fB w w1 ∧ ea_sB w1 2 N A 0 (t ++ [12]) := by
  obtain ⟨_, u1, y1, a1, b1⟩ := eg289_151_175_1 h (by decide) (by decide) (by decide)
  obtain ⟨e1, W1, f1, S1⟩ := eaB286_2_0 S (by omega) rA rN hq a1
  have h1 := b1 _ e1 W1
  have h2 := (eg289_151_210_0 h1).2
  obtain ⟨_, hr, hW⟩ := eg289_151_218_0 h2 ((congrArg ec_tw S1.2.2.2.1).trans rfl)
  injection hr with g1 g2
  rw [g2]
  exact ⟨g1, hW, f1, S1⟩
theorem eaA179_2_2_1 (S : ea_sA w 2 N A 0 t) (ht : t.length ≤ 29) (rA : ec_tw A = A) (rN : ec_tw N = N) (hq : A = N) (h : ec_E hb_X n 179 0 [(0, .inr (.inl 64)), (1, .inl 2), (2, .inl x)] [] w (v, w1)) : v = ec_R (-15) ∧ ec_W hb_A w1 ∧ ea_fA w w1 ∧ ea_sA w1 2 N A 1 (t ++ [12]) := by
  obtain ⟨_, u1, y1, a1, b1⟩ := eg179_0_0_2 h (by decide)
  obtain ⟨e1, W1, f1, S1⟩ := eaA7_2_1 S (by omega) rA rN hq a1
  have h1 := b1 _ e1 W1
  obtain ⟨_, hr, hW⟩ := eg179_0_58_1 h1 (by rw [S1.2.2.2.1]; decide)
  injection hr with g1 g2
  rw [g2]
  exact ⟨g1, hW, f1, S1⟩
theorem eaB289_2_2_1 (S : ea_sB w 2 N A 0 t) (ht : t.length ≤ 29) (rA : ec_tw A = A) (rN : ec_tw N = N) (hq : A = N) (h : ec_E hb_X n 289 175 [(0, .inr (.inl 215)), (1, .inl x0), (2, .inl 2), (3, .inl x)] [] w (v, w1)) : v = ec_R (-15) ∧ ec_W hb_A w1 ∧ ea_fB w w1 ∧ ea_sB w1 2 N A 1 (t ++ [12]) := by
  obtain ⟨_, u1, y1, a1, b1⟩ := eg289_151_175_1 h (by decide) (by decide) (by decide)
  obtain ⟨e1, W1, f1, S1⟩ := eaB286_2_1 S (by omega) rA rN hq a1
  have h1 := b1 _ e1 W1
  have h2 := (eg289_151_210_0 h1).2
  obtain ⟨_, hr, hW⟩ := eg289_151_218_1 h2 (by rw [S1.2.2.2.1]; decide)
  injection hr with g1 g2
  rw [g2]
  exact ⟨g1, hW, f1, S1⟩
theorem eaA179_2_3_0 (S : ea_sA w 3 N A 0 t) (ht : t.length ≤ 29) (rA : ec_tw A = A) (rN : ec_tw N = N) (hq : A ≠ N) (h : ec_E hb_X n 179 0 [(0, .inr (.inl 64)), (1, .inl 2), (2, .inl x)] [] w (v, w1)) : v = ec_R (ec_dv x (A - N)) ∧ ec_W hb_A w1 ∧ ea_fA w w1 ∧ ea_sA w1 3 N A 0 (t ++ [12]) := by
  obtain ⟨_, u1, y1, a1, b1⟩ := eg179_0_0_2 h (by decide)
  obtain ⟨e1, W1, f1, S1⟩ := eaA7_3_0 S (by omega) rA rN hq a1
  have h1 := b1 _ e1 W1
  obtain ⟨_, hr, hW⟩ := eg179_0_58_0 h1 ((congrArg ec_tw S1.2.2.2.1).trans rfl)
  injection hr with g1 g2
  rw [g2]
  exact ⟨g1, hW, f1, S1⟩
theorem eaB289_2_3_0 (S : ea_sB w 3 N A 0 t) (ht : t.length ≤ 29) (rA : ec_tw A = A) (rN : ec_tw N = N) (hq : A ≠ N) (h : ec_E hb_X n 289 175 [(0, .inr (.inl 215)), (1, .inl x0), (2, .inl 2), (3, .inl x)] [] w (v, w1)) : v = ec_R (ec_dv x (A - N)) ∧ ec_W hb_A w1 ∧ ea_fB w w1 ∧ ea_sB w1 3 N A 0 (t ++ [12]) := by
  obtain ⟨_, u1, y1, a1, b1⟩ := eg289_151_175_1 h (by decide) (by decide) (by decide)
  obtain ⟨e1, W1, f1, S1⟩ := eaB286_3_0 S (by omega) rA rN hq a1
  have h1 := b1 _ e1 W1
  have h2 := (eg289_151_210_0 h1).2
  obtain ⟨_, hr, hW⟩ := eg289_151_218_0 h2 ((congrArg ec_tw S1.2.2.2.1).trans rfl)
  injection hr with g1 g2
  rw [g2]
  exact ⟨g1, hW, f1, S1⟩
theorem eaA179_2_3_1 (S : ea_sA w 3 N A 0 t) (ht : t.length ≤ 29) (rA : ec_tw A = A) (rN : ec_tw N = N) (hq : A = N) (h : ec_E hb_X n 179 0 [(0, .inr (.inl 64)), (1, .inl 2), (2, .inl x)] [] w (v, w1)) : v = ec_R (-15) ∧ ec_W hb_A w1 ∧ ea_fA w w1 ∧ ea_sA w1 3 N A 1 (t ++ [12]) := by
  obtain ⟨_, u1, y1, a1, b1⟩ := eg179_0_0_2 h (by decide)
  obtain ⟨e1, W1, f1, S1⟩ := eaA7_3_1 S (by omega) rA rN hq a1
  have h1 := b1 _ e1 W1
  obtain ⟨_, hr, hW⟩ := eg179_0_58_1 h1 (by rw [S1.2.2.2.1]; decide)
  injection hr with g1 g2
  rw [g2]
  exact ⟨g1, hW, f1, S1⟩
theorem eaB289_2_3_1 (S : ea_sB w 3 N A 0 t) (ht : t.length ≤ 29) (rA : ec_tw A = A) (rN : ec_tw N = N) (hq : A = N) (h : ec_E hb_X n 289 175 [(0, .inr (.inl 215)), (1, .inl x0), (2, .inl 2), (3, .inl x)] [] w (v, w1)) : v = ec_R (-15) ∧ ec_W hb_A w1 ∧ ea_fB w w1 ∧ ea_sB w1 3 N A 1 (t ++ [12]) := by
  obtain ⟨_, u1, y1, a1, b1⟩ := eg289_151_175_1 h (by decide) (by decide) (by decide)
  obtain ⟨e1, W1, f1, S1⟩ := eaB286_3_1 S (by omega) rA rN hq a1
  have h1 := b1 _ e1 W1
  have h2 := (eg289_151_210_0 h1).2
  obtain ⟨_, hr, hW⟩ := eg289_151_218_1 h2 (by rw [S1.2.2.2.1]; decide)
  injection hr with g1 g2
  rw [g2]
  exact ⟨g1, hW, f1, S1⟩
theorem eaA179_2_4_0 (S : ea_sA w 4 N A 0 t) (ht : t.length ≤ 29) (rA : ec_tw A = A) (rN : ec_tw N = N) (hq : A ≠ N) (h : ec_E hb_X n 179 0 [(0, .inr (.inl 64)), (1, .inl 2), (2, .inl x)] [] w (v, w1)) : v = ec_R (ec_dv x (A - N)) ∧ ec_W hb_A w1 ∧ ea_fA w w1 ∧ ea_sA w1 4 N A 0 (t ++ [12]) := by
  obtain ⟨_, u1, y1, a1, b1⟩ := eg179_0_0_2 h (by decide)
  obtain ⟨e1, W1, f1, S1⟩ := eaA7_4_0 S (by omega) rA rN hq a1
  have h1 := b1 _ e1 W1
  obtain ⟨_, hr, hW⟩ := eg179_0_58_0 h1 ((congrArg ec_tw S1.2.2.2.1).trans rfl)
  injection hr with g1 g2
  rw [g2]
  exact ⟨g1, hW, f1, S1⟩
theorem eaB289_2_4_0 (S : ea_sB w 4 N A 0 t) (ht : t.length ≤ 29) (rA : ec_tw A = A) (rN : ec_tw N = N) (hq : A ≠ N) (h : ec_E hb_X n 289 175 [(0, .inr (.inl 215)), (1, .inl x0), (2, .inl 2), (3, .inl x)] [] w (v, w1)) : v = ec_R (ec_dv x (A - N)) ∧ ec_W hb_A w1 ∧ ea_fB w w1 ∧ ea_sB w1 4 N A 0 (t ++ [12]) := by
  obtain ⟨_, u1, y1, a1, b1⟩ := eg289_151_175_1 h (by decide) (by decide) (by decide)
  obtain ⟨e1, W1, f1, S1⟩ := eaB286_4_0 S (by omega) rA rN hq a1
  have h1 := b1 _ e1 W1
  have h2 := (eg289_151_210_0 h1).2
  obtain ⟨_, hr, hW⟩ := eg289_151_218_0 h2 ((congrArg ec_tw S1.2.2.2.1).trans rfl)
  injection hr with g1 g2
  rw [g2]
  exact ⟨g1, hW, f1, S1⟩
theorem eaA179_2_4_1 (S : ea_sA w 4 N A 0 t) (ht : t.length ≤ 29) (rA : ec_tw A = A) (rN : ec_tw N = N) (hq : A = N) (h : ec_E hb_X n 179 0 [(0, .inr (.inl 64)), (1, .inl 2), (2, .inl x)] [] w (v, w1)) : v = ec_R (-15) ∧ ec_W hb_A w1 ∧ ea_fA w w1 ∧ ea_sA w1 4 N A 1 (t ++ [12]) := by
  obtain ⟨_, u1, y1, a1, b1⟩ := eg179_0_0_2 h (by decide)
  obtain ⟨e1, W1, f1, S1⟩ := eaA7_4_1 S (by omega) rA rN hq a1
  have h1 := b1 _ e1 W1
  obtain ⟨_, hr, hW⟩ := eg179_0_58_1 h1 (by rw [S1.2.2.2.1]; decide)
  injection hr with g1 g2
  rw [g2]
  exact ⟨g1, hW, f1, S1⟩
theorem eaB289_2_4_1 (S : ea_sB w 4 N A 0 t) (ht : t.length ≤ 29) (rA : ec_tw A = A) (rN : ec_tw N = N) (hq : A = N) (h : ec_E hb_X n 289 175 [(0, .inr (.inl 215)), (1, .inl x0), (2, .inl 2), (3, .inl x)] [] w (v, w1)) : v = ec_R (-15) ∧ ec_W hb_A w1 ∧ ea_fB w w1 ∧ ea_sB w1 4 N A 1 (t ++ [12]) := by
  obtain ⟨_, u1, y1, a1, b1⟩ := eg289_151_175_1 h (by decide) (by decide) (by decide)
  obtain ⟨e1, W1, f1, S1⟩ := eaB286_4_1 S (by omega) rA rN hq a1
  have h1 := b1 _ e1 W1
  have h2 := (eg289_151_210_0 h1).2
  obtain ⟨_, hr, hW⟩ := eg289_151_218_1 h2 (by rw [S1.2.2.2.1]; decide)
  injection hr with g1 g2
  rw [g2]
  exact ⟨g1, hW, f1, S1⟩
theorem eaA179_2_5_0 (S : ea_sA w 5 N A 0 t) (ht : t.length ≤ 29) (rA : ec_tw A = A) (rN : ec_tw N = N) (hq : A ≠ N) (h : ec_E hb_X n 179 0 [(0, .inr (.inl 64)), (1, .inl 2), (2, .inl x)] [] w (v, w1)) : v = ec_R (ec_dv x (A - N)) ∧ ec_W hb_A w1 ∧ ea_fA w w1 ∧ ea_sA w1 5 N A 0 (t ++ [12]) := by
  obtain ⟨_, u1, y1, a1, b1⟩ := eg179_0_0_2 h (by decide)
  obtain ⟨e1, W1, f1, S1⟩ := eaA7_5_0 S (by omega) rA rN hq a1
  have h1 := b1 _ e1 W1
  obtain ⟨_, hr, hW⟩ := eg179_0_58_0 h1 ((congrArg ec_tw S1.2.2.2.1).trans rfl)
  injection hr with g1 g2
  rw [g2]
  exact ⟨g1, hW, f1, S1⟩
theorem eaB289_2_5_0 (S : ea_sB w 5 N A 0 t) (ht : t.length ≤ 29) (rA : ec_tw A = A) (rN : ec_tw N = N) (hq : A ≠ N) (h : ec_E hb_X n 289 175 [(0, .inr (.inl 215)), (1, .inl x0), (2, .inl 2), (3, .inl x)] [] w (v, w1)) : v = ec_R (ec_dv x (A - N)) ∧ ec_W hb_A w1 ∧ ea_fB w w1 ∧ ea_sB w1 5 N A 0 (t ++ [12]) := by
  obtain ⟨_, u1, y1, a1, b1⟩ := eg289_151_175_1 h (by decide) (by decide) (by decide)
  obtain ⟨e1, W1, f1, S1⟩ := eaB286_5_0 S (by omega) rA rN hq a1
  have h1 := b1 _ e1 W1
  have h2 := (eg289_151_210_0 h1).2
  obtain ⟨_, hr, hW⟩ := eg289_151_218_0 h2 ((congrArg ec_tw S1.2.2.2.1).trans rfl)
  injection hr with g1 g2
  rw [g2]
  exact ⟨g1, hW, f1, S1⟩
theorem eaA179_2_5_1 (S : ea_sA w 5 N A 0 t) (ht : t.length ≤ 29) (rA : ec_tw A = A) (rN : ec_tw N = N) (hq : A = N) (h : ec_E hb_X n 179 0 [(0, .inr (.inl 64)), (1, .inl 2), (2, .inl x)] [] w (v, w1)) : v = ec_R (-15) ∧ ec_W hb_A w1 ∧ ea_fA w w1 ∧ ea_sA w1 5 N A 1 (t ++ [12]) := by
  obtain ⟨_, u1, y1, a1, b1⟩ := eg179_0_0_2 h (by decide)
  obtain ⟨e1, W1, f1, S1⟩ := eaA7_5_1 S (by omega) rA rN hq a1
  have h1 := b1 _ e1 W1
  obtain ⟨_, hr, hW⟩ := eg179_0_58_1 h1 (by rw [S1.2.2.2.1]; decide)
  injection hr with g1 g2
  rw [g2]
  exact ⟨g1, hW, f1, S1⟩
theorem eaB289_2_5_1 (S : ea_sB w 5 N A 0 t) (ht : t.length ≤ 29) (rA : ec_tw A = A) (rN : ec_tw N = N) (hq : A = N) (h : ec_E hb_X n 289 175 [(0, .inr (.inl 215)), (1, .inl x0), (2, .inl 2), (3, .inl x)] [] w (v, w1)) : v = ec_R (-15) ∧ ec_W hb_A w1 ∧ ea_fB w w1 ∧ ea_sB w1 5 N A 1 (t ++ [12]) := by
  obtain ⟨_, u1, y1, a1, b1⟩ := eg289_151_175_1 h (by decide) (by decide) (by decide)
  obtain ⟨e1, W1, f1, S1⟩ := eaB286_5_1 S (by omega) rA rN hq a1
  have h1 := b1 _ e1 W1
  have h2 := (eg289_151_210_0 h1).2
  obtain ⟨_, hr, hW⟩ := eg289_151_218_1 h2 (by rw [S1.2.2.2.1]; decide)
  injection hr with g1 g2
  rw [g2]
  exact ⟨g1, hW, f1, S1⟩
theorem eaA179_2_6_0 (S : ea_sA w 6 N A 0 t) (ht : t.length ≤ 28) (rA : ec_tw A = A) (rN : ec_tw N = N) (hq : A ≠ N) (h : ec_E hb_X n 179 0 [(0, .inr (.inl 64)), (1, .inl 2), (2, .inl x)] [] w (v, w1)) : v = ec_R (ec_dv (x * 2) (A - N)) ∧ ec_W hb_A w1 ∧ ea_fA w w1 ∧ ea_sA w1 6 N A 0 (t ++ [70, 12]) := by
  obtain ⟨_, u1, y1, a1, b1⟩ := eg179_0_0_2 h (by decide)
  obtain ⟨e1, W1, f1, S1⟩ := eaA7_6_0 S (by omega) rA rN hq a1
  have h1 := b1 _ e1 W1
  obtain ⟨_, hr, hW⟩ := eg179_0_58_0 h1 ((congrArg ec_tw S1.2.2.2.1).trans rfl)
  injection hr with g1 g2
  rw [g2]
  exact ⟨g1, hW, f1, S1⟩
theorem eaB289_2_6_0 (S : ea_sB w 6 N A 0 t) (ht : t.length ≤ 28) (rA : ec_tw A = A) (rN : ec_tw N = N) (hq : A ≠ N) (h : ec_E hb_X n 289 175 [(0, .inr (.inl 215)), (1, .inl x0), (2, .inl 2), (3, .inl x)] [] w (v, w1)) : v = ec_R (ec_dv (x * 2) (A - N)) ∧ ec_W hb_A w1 ∧ ea_fB w w1 ∧ ea_sB w1 6 N A 0 (t ++ [70, 12]) := by
  obtain ⟨_, u1, y1, a1, b1⟩ := eg289_151_175_1 h (by decide) (by decide) (by decide)
  obtain ⟨e1, W1, f1, S1⟩ := eaB286_6_0 S (by omega) rA rN hq a1
  have h1 := b1 _ e1 W1
  have h2 := (eg289_151_210_0 h1).2
  obtain ⟨_, hr, hW⟩ := eg289_151_218_0 h2 ((congrArg ec_tw S1.2.2.2.1).trans rfl)
  injection hr with g1 g2
  rw [g2]
  exact ⟨g1, hW, f1, S1⟩
theorem eaA179_2_6_1 (S : ea_sA w 6 N A 0 t) (ht : t.length ≤ 28) (rA : ec_tw A = A) (rN : ec_tw N = N) (hq : A = N) (h : ec_E hb_X n 179 0 [(0, .inr (.inl 64)), (1, .inl 2), (2, .inl x)] [] w (v, w1)) : v = ec_R (-15) ∧ ec_W hb_A w1 ∧ ea_fA w w1 ∧ ea_sA w1 6 N A 1 (t ++ [70, 12]) := by
  obtain ⟨_, u1, y1, a1, b1⟩ := eg179_0_0_2 h (by decide)
  obtain ⟨e1, W1, f1, S1⟩ := eaA7_6_1 S (by omega) rA rN hq a1
  have h1 := b1 _ e1 W1
  obtain ⟨_, hr, hW⟩ := eg179_0_58_1 h1 (by rw [S1.2.2.2.1]; decide)
  injection hr with g1 g2
  rw [g2]
  exact ⟨g1, hW, f1, S1⟩
theorem eaB289_2_6_1 (S : ea_sB w 6 N A 0 t) (ht : t.length ≤ 28) (rA : ec_tw A = A) (rN : ec_tw N = N) (hq : A = N) (h : ec_E hb_X n 289 175 [(0, .inr (.inl 215)), (1, .inl x0), (2, .inl 2), (3, .inl x)] [] w (v, w1)) : v = ec_R (-15) ∧ ec_W hb_A w1 ∧ ea_fB w w1 ∧ ea_sB w1 6 N A 1 (t ++ [70, 12]) := by
  obtain ⟨_, u1, y1, a1, b1⟩ := eg289_151_175_1 h (by decide) (by decide) (by decide)
  obtain ⟨e1, W1, f1, S1⟩ := eaB286_6_1 S (by omega) rA rN hq a1
  have h1 := b1 _ e1 W1
  have h2 := (eg289_151_210_0 h1).2
  obtain ⟨_, hr, hW⟩ := eg289_151_218_1 h2 (by rw [S1.2.2.2.1]; decide)
  injection hr with g1 g2
  rw [g2]
  exact ⟨g1, hW, f1, S1⟩
theorem eaA179_3_1 (S : ea_sA w 1 N A 0 t) (ht : t.length ≤ 26) (h : ec_E hb_X n 179 0 [(0, .inr (.inl 64)), (1, .inl 3), (2, .inl x)] [] w (v, w1)) : v = ec_R (ec_xor ((((x + A) - 40) * 2) - N) A) ∧ ec_W hb_A w1 ∧ ea_fA w w1 ∧ ea_sA w1 1 N A 0 (t ++ [13, 11, 20, 10]) := by
  obtain ⟨_, u1, y1, a1, b1⟩ := eg179_0_0_3 h (by decide)
  obtain ⟨e1, W1, f1, S1⟩ := eaA8_1 S (by omega) a1
  have h1 := b1 _ e1 W1
  obtain ⟨_, hr, hW⟩ := eg179_0_84_0 h1
  injection hr with g1 g2
  rw [g2]
  exact ⟨g1, hW, f1, S1⟩
theorem eaB289_3_1 (S : ea_sB w 1 N A 0 t) (ht : t.length ≤ 26) (h : ec_E hb_X n 289 175 [(0, .inr (.inl 215)), (1, .inl x0), (2, .inl 3), (3, .inl x)] [] w (v, w1)) : v = ec_R (ec_xor ((((x + A) - 40) * 2) - N) A) ∧ ec_W hb_A w1 ∧ ea_fB w w1 ∧ ea_sB w1 1 N A 0 (t ++ [13, 11, 20, 10]) := by
  obtain ⟨_, u1, y1, a1, b1⟩ := eg289_151_175_0 h (by decide) (by decide) (by decide)
  obtain ⟨e1, W1, f1, S1⟩ := eaB288_1 S (by omega) a1
  have h1 := b1 _ e1 W1
  obtain ⟨_, hr, hW⟩ := eg289_151_218_0 h1 ((congrArg ec_tw S1.2.2.2.1).trans rfl)
  injection hr with g1 g2
  rw [g2]
  exact ⟨g1, hW, f1, S1⟩
theorem eaA179_3_2 (S : ea_sA w 2 N A 0 t) (ht : t.length ≤ 26) (h : ec_E hb_X n 179 0 [(0, .inr (.inl 64)), (1, .inl 3), (2, .inl x)] [] w (v, w1)) : v = ec_R (ec_xor ((((x + A) * 2) - N) + A) A) ∧ ec_W hb_A w1 ∧ ea_fA w w1 ∧ ea_sA w1 2 N A 0 (t ++ [13, 30, 11, 10]) := by
  obtain ⟨_, u1, y1, a1, b1⟩ := eg179_0_0_3 h (by decide)
  obtain ⟨e1, W1, f1, S1⟩ := eaA8_2 S (by omega) a1
  have h1 := b1 _ e1 W1
  obtain ⟨_, hr, hW⟩ := eg179_0_84_0 h1
  injection hr with g1 g2
  rw [g2]
  exact ⟨g1, hW, f1, S1⟩
theorem eaB289_3_2 (S : ea_sB w 2 N A 0 t) (ht : t.length ≤ 26) (h : ec_E hb_X n 289 175 [(0, .inr (.inl 215)), (1, .inl x0), (2, .inl 3), (3, .inl x)] [] w (v, w1)) : v = ec_R (ec_xor ((((x + A) * 2) - N) + A) A) ∧ ec_W hb_A w1 ∧ ea_fB w w1 ∧ ea_sB w1 2 N A 0 (t ++ [13, 30, 11, 10]) := by
  obtain ⟨_, u1, y1, a1, b1⟩ := eg289_151_175_0 h (by decide) (by decide) (by decide)
  obtain ⟨e1, W1, f1, S1⟩ := eaB288_2 S (by omega) a1
  have h1 := b1 _ e1 W1
  obtain ⟨_, hr, hW⟩ := eg289_151_218_0 h1 ((congrArg ec_tw S1.2.2.2.1).trans rfl)
  injection hr with g1 g2
  rw [g2]
  exact ⟨g1, hW, f1, S1⟩
theorem eaA179_3_3 (S : ea_sA w 3 N A 0 t) (ht : t.length ≤ 24) (h : ec_E hb_X n 179 0 [(0, .inr (.inl 64)), (1, .inl 3), (2, .inl x)] [] w (v, w1)) : v = ec_R ((ec_xor (((((x + A) * 3) * 2) - N) + A) A) - 1) ∧ ec_W hb_A w1 ∧ ea_fA w w1 ∧ ea_sA w1 3 N A 0 (t ++ [41, 13, 30, 11, 40, 10]) := by
  obtain ⟨_, u1, y1, a1, b1⟩ := eg179_0_0_3 h (by decide)
  obtain ⟨e1, W1, f1, S1⟩ := eaA8_3 S (by omega) a1
  have h1 := b1 _ e1 W1
  obtain ⟨_, hr, hW⟩ := eg179_0_84_0 h1
  injection hr with g1 g2
  rw [g2]
  exact ⟨g1, hW, f1, S1⟩
theorem eaB289_3_3 (S : ea_sB w 3 N A 0 t) (ht : t.length ≤ 24) (h : ec_E hb_X n 289 175 [(0, .inr (.inl 215)), (1, .inl x0), (2, .inl 3), (3, .inl x)] [] w (v, w1)) : v = ec_R ((ec_xor (((((x + A) * 3) * 2) - N) + A) A) - 1) ∧ ec_W hb_A w1 ∧ ea_fB w w1 ∧ ea_sB w1 3 N A 0 (t ++ [41, 13, 30, 11, 40, 10]) := by
  obtain ⟨_, u1, y1, a1, b1⟩ := eg289_151_175_0 h (by decide) (by decide) (by decide)
  obtain ⟨e1, W1, f1, S1⟩ := eaB288_3 S (by omega) a1
  have h1 := b1 _ e1 W1
  obtain ⟨_, hr, hW⟩ := eg289_151_218_0 h1 ((congrArg ec_tw S1.2.2.2.1).trans rfl)
  injection hr with g1 g2
  rw [g2]
  exact ⟨g1, hW, f1, S1⟩
theorem eaA179_3_4 (S : ea_sA w 4 N A 0 t) (ht : t.length ≤ 25) (h : ec_E hb_X n 179 0 [(0, .inr (.inl 64)), (1, .inl 3), (2, .inl x)] [] w (v, w1)) : v = ec_R (ec_xor (ec_xor (((x + A) * 2) - N) A) (x + A)) ∧ ec_W hb_A w1 ∧ ea_fA w w1 ∧ ea_sA w1 4 N A 0 (t ++ [50, 13, 11, 10, 10]) := by
  obtain ⟨_, u1, y1, a1, b1⟩ := eg179_0_0_3 h (by decide)
  obtain ⟨e1, W1, f1, S1⟩ := eaA8_4 S (by omega) a1
  have h1 := b1 _ e1 W1
  obtain ⟨_, hr, hW⟩ := eg179_0_84_0 h1
  injection hr with g1 g2
  rw [g2]
  exact ⟨g1, hW, f1, S1⟩
theorem eaB289_3_4 (S : ea_sB w 4 N A 0 t) (ht : t.length ≤ 25) (h : ec_E hb_X n 289 175 [(0, .inr (.inl 215)), (1, .inl x0), (2, .inl 3), (3, .inl x)] [] w (v, w1)) : v = ec_R (ec_xor (ec_xor (((x + A) * 2) - N) A) (x + A)) ∧ ec_W hb_A w1 ∧ ea_fB w w1 ∧ ea_sB w1 4 N A 0 (t ++ [50, 13, 11, 10, 10]) := by
  obtain ⟨_, u1, y1, a1, b1⟩ := eg289_151_175_0 h (by decide) (by decide) (by decide)
  obtain ⟨e1, W1, f1, S1⟩ := eaB288_4 S (by omega) a1
  have h1 := b1 _ e1 W1
  obtain ⟨_, hr, hW⟩ := eg289_151_218_0 h1 ((congrArg ec_tw S1.2.2.2.1).trans rfl)
  injection hr with g1 g2
  rw [g2]
  exact ⟨g1, hW, f1, S1⟩
theorem eaA179_3_5 (S : ea_sA w 5 N A 0 t) (ht : t.length ≤ 24) (h : ec_E hb_X n 179 0 [(0, .inr (.inl 64)), (1, .inl 3), (2, .inl x)] [] w (v, w1)) : v = ec_R (ec_xor (ec_xor (0 - (((x + A) * 2) - N)) A) (x + A)) ∧ ec_W hb_A w1 ∧ ea_fA w w1 ∧ ea_sA w1 5 N A 0 (t ++ [50, 13, 60, 11, 10, 10]) := by
  obtain ⟨_, u1, y1, a1, b1⟩ := eg179_0_0_3 h (by decide)
  obtain ⟨e1, W1, f1, S1⟩ := eaA8_5 S (by omega) a1
  have h1 := b1 _ e1 W1
  obtain ⟨_, hr, hW⟩ := eg179_0_84_0 h1
  injection hr with g1 g2
  rw [g2]
  exact ⟨g1, hW, f1, S1⟩
theorem eaB289_3_5 (S : ea_sB w 5 N A 0 t) (ht : t.length ≤ 24) (h : ec_E hb_X n 289 175 [(0, .inr (.inl 215)), (1, .inl x0), (2, .inl 3), (3, .inl x)] [] w (v, w1)) : v = ec_R (ec_xor (ec_xor (0 - (((x + A) * 2) - N)) A) (x + A)) ∧ ec_W hb_A w1 ∧ ea_fB w w1 ∧ ea_sB w1 5 N A 0 (t ++ [50, 13, 60, 11, 10, 10]) := by
  obtain ⟨_, u1, y1, a1, b1⟩ := eg289_151_175_0 h (by decide) (by decide) (by decide)
  obtain ⟨e1, W1, f1, S1⟩ := eaB288_5 S (by omega) a1
  have h1 := b1 _ e1 W1
  obtain ⟨_, hr, hW⟩ := eg289_151_218_0 h1 ((congrArg ec_tw S1.2.2.2.1).trans rfl)
  injection hr with g1 g2
  rw [g2]
  exact ⟨g1, hW, f1, S1⟩
theorem eaA179_3_6 (S : ea_sA w 6 N A 0 t) (ht : t.length ≤ 25) (h : ec_E hb_X n 179 0 [(0, .inr (.inl 64)), (1, .inl 3), (2, .inl x)] [] w (v, w1)) : v = ec_R (ec_xor ((((x + A) * 2) - N) + (0 + A)) A) ∧ ec_W hb_A w1 ∧ ea_fA w w1 ∧ ea_sA w1 6 N A 0 (t ++ [13, 71, 11, 10, 10]) := by
  obtain ⟨_, u1, y1, a1, b1⟩ := eg179_0_0_3 h (by decide)
  obtain ⟨e1, W1, f1, S1⟩ := eaA8_6 S (by omega) a1
  have h1 := b1 _ e1 W1
  obtain ⟨_, hr, hW⟩ := eg179_0_84_0 h1
  injection hr with g1 g2
  rw [g2]
  exact ⟨g1, hW, f1, S1⟩
theorem eaB289_3_6 (S : ea_sB w 6 N A 0 t) (ht : t.length ≤ 25) (h : ec_E hb_X n 289 175 [(0, .inr (.inl 215)), (1, .inl x0), (2, .inl 3), (3, .inl x)] [] w (v, w1)) : v = ec_R (ec_xor ((((x + A) * 2) - N) + (0 + A)) A) ∧ ec_W hb_A w1 ∧ ea_fB w w1 ∧ ea_sB w1 6 N A 0 (t ++ [13, 71, 11, 10, 10]) := by
  obtain ⟨_, u1, y1, a1, b1⟩ := eg289_151_175_0 h (by decide) (by decide) (by decide)
  obtain ⟨e1, W1, f1, S1⟩ := eaB288_6 S (by omega) a1
  have h1 := b1 _ e1 W1
  obtain ⟨_, hr, hW⟩ := eg289_151_218_0 h1 ((congrArg ec_tw S1.2.2.2.1).trans rfl)
  injection hr with g1 g2
  rw [g2]
  exact ⟨g1, hW, f1, S1⟩
end EA2
theorem ea_ans {n : Nat} {wa wb wA wB : px_W} {vA vB : Option Value} {K N A x0 x2 x : Int} (hK : K = 1 ∨ K = 2 ∨ K = 3 ∨ K = 4 ∨ K = 5 ∨ K = 6) (hx : x2 = 0 ∨ x2 = 1 ∨ x2 = 2 ∨ x2 = 3) (rA : ec_tw A = A) (rN : ec_tw N = N) (SA : ea_sA wa K N A 0 []) (SB : ea_sB wb K N A 0 []) (hA : ec_E hb_X n 179 0 [(0, .inr (.inl 64)), (1, .inl x2), (2, .inl x)] [] wa (vA, wA)) (hB : ec_E hb_X n 289 175 [(0, .inr (.inl 215)), (1, .inl x0), (2, .inl x2), (3, .inl x)] [] wb (vB, wB)) : vA = vB ∧ (∃ z : Int, vA = ec_R z) ∧ ec_W hb_A wA ∧ (∃ t : List Int, t.length ≤ 10 ∧ ea_tA wA t ∧ ea_tB wB t) ∧ ea_fA wa wA ∧ ea_fB wb wB := by
  rcases hK with rfl | rfl | rfl | rfl | rfl | rfl
  · rcases hx with rfl | rfl | rfl | rfl
    · obtain ⟨e1, W1, f1, S1⟩ := eaA179_0_1 SA (by decide) hA
      obtain ⟨e2, _, f2, S2⟩ := eaB289_0_1 SB (by decide) hB
      exact ⟨e1.trans e2.symm, ⟨_, e1⟩, W1, ⟨_, by decide, S1.2.2.2.2, S2.2.2.2.2⟩, f1, f2⟩
    · obtain ⟨e1, W1, f1, S1⟩ := eaA179_1_1 SA (by decide) hA
      obtain ⟨e2, _, f2, S2⟩ := eaB289_1_1 SB (by decide) hB
      exact ⟨e1.trans e2.symm, ⟨_, e1⟩, W1, ⟨_, by decide, S1.2.2.2.2, S2.2.2.2.2⟩, f1, f2⟩
    · by_cases hq : A = N
      · obtain ⟨e1, W1, f1, S1⟩ := eaA179_2_1_1 SA (by decide) rA rN hq hA
        obtain ⟨e2, _, f2, S2⟩ := eaB289_2_1_1 SB (by decide) rA rN hq hB
        exact ⟨e1.trans e2.symm, ⟨_, e1⟩, W1, ⟨_, by decide, S1.2.2.2.2, S2.2.2.2.2⟩, f1, f2⟩
      · obtain ⟨e1, W1, f1, S1⟩ := eaA179_2_1_0 SA (by decide) rA rN hq hA
        obtain ⟨e2, _, f2, S2⟩ := eaB289_2_1_0 SB (by decide) rA rN hq hB
        exact ⟨e1.trans e2.symm, ⟨_, e1⟩, W1, ⟨_, by decide, S1.2.2.2.2, S2.2.2.2.2⟩, f1, f2⟩
    · obtain ⟨e1, W1, f1, S1⟩ := eaA179_3_1 SA (by decide) hA
      obtain ⟨e2, _, f2, S2⟩ := eaB289_3_1 SB (by decide) hB
      exact ⟨e1.trans e2.symm, ⟨_, e1⟩, W1, ⟨_, by decide, S1.2.2.2.2, S2.2.2.2.2⟩, f1, f2⟩
  · rcases hx with rfl | rfl | rfl | rfl
    · obtain ⟨e1, W1, f1, S1⟩ := eaA179_0_2 SA (by decide) hA
      obtain ⟨e2, _, f2, S2⟩ := eaB289_0_2 SB (by decide) hB
      exact ⟨e1.trans e2.symm, ⟨_, e1⟩, W1, ⟨_, by decide, S1.2.2.2.2, S2.2.2.2.2⟩, f1, f2⟩
    · obtain ⟨e1, W1, f1, S1⟩ := eaA179_1_2 SA (by decide) hA
      obtain ⟨e2, _, f2, S2⟩ := eaB289_1_2 SB (by decide) hB
      exact ⟨e1.trans e2.symm, ⟨_, e1⟩, W1, ⟨_, by decide, S1.2.2.2.2, S2.2.2.2.2⟩, f1, f2⟩
    · by_cases hq : A = N
      · obtain ⟨e1, W1, f1, S1⟩ := eaA179_2_2_1 SA (by decide) rA rN hq hA
        obtain ⟨e2, _, f2, S2⟩ := eaB289_2_2_1 SB (by decide) rA rN hq hB
        exact ⟨e1.trans e2.symm, ⟨_, e1⟩, W1, ⟨_, by decide, S1.2.2.2.2, S2.2.2.2.2⟩, f1, f2⟩
      · obtain ⟨e1, W1, f1, S1⟩ := eaA179_2_2_0 SA (by decide) rA rN hq hA
        obtain ⟨e2, _, f2, S2⟩ := eaB289_2_2_0 SB (by decide) rA rN hq hB
        exact ⟨e1.trans e2.symm, ⟨_, e1⟩, W1, ⟨_, by decide, S1.2.2.2.2, S2.2.2.2.2⟩, f1, f2⟩
    · obtain ⟨e1, W1, f1, S1⟩ := eaA179_3_2 SA (by decide) hA
      obtain ⟨e2, _, f2, S2⟩ := eaB289_3_2 SB (by decide) hB
      exact ⟨e1.trans e2.symm, ⟨_, e1⟩, W1, ⟨_, by decide, S1.2.2.2.2, S2.2.2.2.2⟩, f1, f2⟩
  · rcases hx with rfl | rfl | rfl | rfl
    · obtain ⟨e1, W1, f1, S1⟩ := eaA179_0_3 SA (by decide) hA
      obtain ⟨e2, _, f2, S2⟩ := eaB289_0_3 SB (by decide) hB
      exact ⟨e1.trans e2.symm, ⟨_, e1⟩, W1, ⟨_, by decide, S1.2.2.2.2, S2.2.2.2.2⟩, f1, f2⟩
    · obtain ⟨e1, W1, f1, S1⟩ := eaA179_1_3 SA (by decide) hA
      obtain ⟨e2, _, f2, S2⟩ := eaB289_1_3 SB (by decide) hB
      exact ⟨e1.trans e2.symm, ⟨_, e1⟩, W1, ⟨_, by decide, S1.2.2.2.2, S2.2.2.2.2⟩, f1, f2⟩
    · by_cases hq : A = N
      · obtain ⟨e1, W1, f1, S1⟩ := eaA179_2_3_1 SA (by decide) rA rN hq hA
        obtain ⟨e2, _, f2, S2⟩ := eaB289_2_3_1 SB (by decide) rA rN hq hB
        exact ⟨e1.trans e2.symm, ⟨_, e1⟩, W1, ⟨_, by decide, S1.2.2.2.2, S2.2.2.2.2⟩, f1, f2⟩
      · obtain ⟨e1, W1, f1, S1⟩ := eaA179_2_3_0 SA (by decide) rA rN hq hA
        obtain ⟨e2, _, f2, S2⟩ := eaB289_2_3_0 SB (by decide) rA rN hq hB
        exact ⟨e1.trans e2.symm, ⟨_, e1⟩, W1, ⟨_, by decide, S1.2.2.2.2, S2.2.2.2.2⟩, f1, f2⟩
    · obtain ⟨e1, W1, f1, S1⟩ := eaA179_3_3 SA (by decide) hA
      obtain ⟨e2, _, f2, S2⟩ := eaB289_3_3 SB (by decide) hB
      exact ⟨e1.trans e2.symm, ⟨_, e1⟩, W1, ⟨_, by decide, S1.2.2.2.2, S2.2.2.2.2⟩, f1, f2⟩
  · rcases hx with rfl | rfl | rfl | rfl
    · obtain ⟨e1, W1, f1, S1⟩ := eaA179_0_4 SA (by decide) hA
      obtain ⟨e2, _, f2, S2⟩ := eaB289_0_4 SB (by decide) hB
      exact ⟨e1.trans e2.symm, ⟨_, e1⟩, W1, ⟨_, by decide, S1.2.2.2.2, S2.2.2.2.2⟩, f1, f2⟩
    · obtain ⟨e1, W1, f1, S1⟩ := eaA179_1_4 SA (by decide) hA
      obtain ⟨e2, _, f2, S2⟩ := eaB289_1_4 SB (by decide) hB
      exact ⟨e1.trans e2.symm, ⟨_, e1⟩, W1, ⟨_, by decide, S1.2.2.2.2, S2.2.2.2.2⟩, f1, f2⟩
    · by_cases hq : A = N
      · obtain ⟨e1, W1, f1, S1⟩ := eaA179_2_4_1 SA (by decide) rA rN hq hA
        obtain ⟨e2, _, f2, S2⟩ := eaB289_2_4_1 SB (by decide) rA rN hq hB
        exact ⟨e1.trans e2.symm, ⟨_, e1⟩, W1, ⟨_, by decide, S1.2.2.2.2, S2.2.2.2.2⟩, f1, f2⟩
      · obtain ⟨e1, W1, f1, S1⟩ := eaA179_2_4_0 SA (by decide) rA rN hq hA
        obtain ⟨e2, _, f2, S2⟩ := eaB289_2_4_0 SB (by decide) rA rN hq hB
        exact ⟨e1.trans e2.symm, ⟨_, e1⟩, W1, ⟨_, by decide, S1.2.2.2.2, S2.2.2.2.2⟩, f1, f2⟩
    · obtain ⟨e1, W1, f1, S1⟩ := eaA179_3_4 SA (by decide) hA
      obtain ⟨e2, _, f2, S2⟩ := eaB289_3_4 SB (by decide) hB
      exact ⟨e1.trans e2.symm, ⟨_, e1⟩, W1, ⟨_, by decide, S1.2.2.2.2, S2.2.2.2.2⟩, f1, f2⟩
  · rcases hx with rfl | rfl | rfl | rfl
    · obtain ⟨e1, W1, f1, S1⟩ := eaA179_0_5 SA (by decide) hA
      obtain ⟨e2, _, f2, S2⟩ := eaB289_0_5 SB (by decide) hB
      exact ⟨e1.trans e2.symm, ⟨_, e1⟩, W1, ⟨_, by decide, S1.2.2.2.2, S2.2.2.2.2⟩, f1, f2⟩
    · obtain ⟨e1, W1, f1, S1⟩ := eaA179_1_5 SA (by decide) hA
      obtain ⟨e2, _, f2, S2⟩ := eaB289_1_5 SB (by decide) hB
      exact ⟨e1.trans e2.symm, ⟨_, e1⟩, W1, ⟨_, by decide, S1.2.2.2.2, S2.2.2.2.2⟩, f1, f2⟩
    · by_cases hq : A = N
      · obtain ⟨e1, W1, f1, S1⟩ := eaA179_2_5_1 SA (by decide) rA rN hq hA
        obtain ⟨e2, _, f2, S2⟩ := eaB289_2_5_1 SB (by decide) rA rN hq hB
        exact ⟨e1.trans e2.symm, ⟨_, e1⟩, W1, ⟨_, by decide, S1.2.2.2.2, S2.2.2.2.2⟩, f1, f2⟩
      · obtain ⟨e1, W1, f1, S1⟩ := eaA179_2_5_0 SA (by decide) rA rN hq hA
        obtain ⟨e2, _, f2, S2⟩ := eaB289_2_5_0 SB (by decide) rA rN hq hB
        exact ⟨e1.trans e2.symm, ⟨_, e1⟩, W1, ⟨_, by decide, S1.2.2.2.2, S2.2.2.2.2⟩, f1, f2⟩
    · obtain ⟨e1, W1, f1, S1⟩ := eaA179_3_5 SA (by decide) hA
      obtain ⟨e2, _, f2, S2⟩ := eaB289_3_5 SB (by decide) hB
      exact ⟨e1.trans e2.symm, ⟨_, e1⟩, W1, ⟨_, by decide, S1.2.2.2.2, S2.2.2.2.2⟩, f1, f2⟩
  · rcases hx with rfl | rfl | rfl | rfl
    · obtain ⟨e1, W1, f1, S1⟩ := eaA179_0_6 SA (by decide) hA
      obtain ⟨e2, _, f2, S2⟩ := eaB289_0_6 SB (by decide) hB
      exact ⟨e1.trans e2.symm, ⟨_, e1⟩, W1, ⟨_, by decide, S1.2.2.2.2, S2.2.2.2.2⟩, f1, f2⟩
    · obtain ⟨e1, W1, f1, S1⟩ := eaA179_1_6 SA (by decide) hA
      obtain ⟨e2, _, f2, S2⟩ := eaB289_1_6 SB (by decide) hB
      exact ⟨e1.trans e2.symm, ⟨_, e1⟩, W1, ⟨_, by decide, S1.2.2.2.2, S2.2.2.2.2⟩, f1, f2⟩
    · by_cases hq : A = N
      · obtain ⟨e1, W1, f1, S1⟩ := eaA179_2_6_1 SA (by decide) rA rN hq hA
        obtain ⟨e2, _, f2, S2⟩ := eaB289_2_6_1 SB (by decide) rA rN hq hB
        exact ⟨e1.trans e2.symm, ⟨_, e1⟩, W1, ⟨_, by decide, S1.2.2.2.2, S2.2.2.2.2⟩, f1, f2⟩
      · obtain ⟨e1, W1, f1, S1⟩ := eaA179_2_6_0 SA (by decide) rA rN hq hA
        obtain ⟨e2, _, f2, S2⟩ := eaB289_2_6_0 SB (by decide) rA rN hq hB
        exact ⟨e1.trans e2.symm, ⟨_, e1⟩, W1, ⟨_, by decide, S1.2.2.2.2, S2.2.2.2.2⟩, f1, f2⟩
    · obtain ⟨e1, W1, f1, S1⟩ := eaA179_3_6 SA (by decide) hA
      obtain ⟨e2, _, f2, S2⟩ := eaB289_3_6 SB (by decide) hB
      exact ⟨e1.trans e2.symm, ⟨_, e1⟩, W1, ⟨_, by decide, S1.2.2.2.2, S2.2.2.2.2⟩, f1, f2⟩
theorem ea_endW {n : Nat} {wa wA : px_W} {vA : Option Value} {K N A x2 x : Int} (hK : K = 1 ∨ K = 2 ∨ K = 3 ∨ K = 4 ∨ K = 5 ∨ K = 6) (hx : x2 = 0 ∨ x2 = 1 ∨ x2 = 2 ∨ x2 = 3) (rA : ec_tw A = A) (rN : ec_tw N = N) (SA : ea_sA wa K N A 0 []) (hA : ec_E hb_X n 179 0 [(0, .inr (.inl 64)), (1, .inl x2), (2, .inl x)] [] wa (vA, wA)) : (∃ z : Int, vA = ec_R z) ∧ ec_W hb_A wA ∧ ea_fA wa wA := by
  rcases hK with rfl | rfl | rfl | rfl | rfl | rfl
  · rcases hx with rfl | rfl | rfl | rfl
    · obtain ⟨e1, W1, f1, _⟩ := eaA179_0_1 SA (by decide) hA
      exact ⟨⟨_, e1⟩, W1, f1⟩
    · obtain ⟨e1, W1, f1, _⟩ := eaA179_1_1 SA (by decide) hA
      exact ⟨⟨_, e1⟩, W1, f1⟩
    · by_cases hq : A = N
      · obtain ⟨e1, W1, f1, _⟩ := eaA179_2_1_1 SA (by decide) rA rN hq hA
        exact ⟨⟨_, e1⟩, W1, f1⟩
      · obtain ⟨e1, W1, f1, _⟩ := eaA179_2_1_0 SA (by decide) rA rN hq hA
        exact ⟨⟨_, e1⟩, W1, f1⟩
    · obtain ⟨e1, W1, f1, _⟩ := eaA179_3_1 SA (by decide) hA
      exact ⟨⟨_, e1⟩, W1, f1⟩
  · rcases hx with rfl | rfl | rfl | rfl
    · obtain ⟨e1, W1, f1, _⟩ := eaA179_0_2 SA (by decide) hA
      exact ⟨⟨_, e1⟩, W1, f1⟩
    · obtain ⟨e1, W1, f1, _⟩ := eaA179_1_2 SA (by decide) hA
      exact ⟨⟨_, e1⟩, W1, f1⟩
    · by_cases hq : A = N
      · obtain ⟨e1, W1, f1, _⟩ := eaA179_2_2_1 SA (by decide) rA rN hq hA
        exact ⟨⟨_, e1⟩, W1, f1⟩
      · obtain ⟨e1, W1, f1, _⟩ := eaA179_2_2_0 SA (by decide) rA rN hq hA
        exact ⟨⟨_, e1⟩, W1, f1⟩
    · obtain ⟨e1, W1, f1, _⟩ := eaA179_3_2 SA (by decide) hA
      exact ⟨⟨_, e1⟩, W1, f1⟩
  · rcases hx with rfl | rfl | rfl | rfl
    · obtain ⟨e1, W1, f1, _⟩ := eaA179_0_3 SA (by decide) hA
      exact ⟨⟨_, e1⟩, W1, f1⟩
    · obtain ⟨e1, W1, f1, _⟩ := eaA179_1_3 SA (by decide) hA
      exact ⟨⟨_, e1⟩, W1, f1⟩
    · by_cases hq : A = N
      · obtain ⟨e1, W1, f1, _⟩ := eaA179_2_3_1 SA (by decide) rA rN hq hA
        exact ⟨⟨_, e1⟩, W1, f1⟩
      · obtain ⟨e1, W1, f1, _⟩ := eaA179_2_3_0 SA (by decide) rA rN hq hA
        exact ⟨⟨_, e1⟩, W1, f1⟩
    · obtain ⟨e1, W1, f1, _⟩ := eaA179_3_3 SA (by decide) hA
      exact ⟨⟨_, e1⟩, W1, f1⟩
  · rcases hx with rfl | rfl | rfl | rfl
    · obtain ⟨e1, W1, f1, _⟩ := eaA179_0_4 SA (by decide) hA
      exact ⟨⟨_, e1⟩, W1, f1⟩
    · obtain ⟨e1, W1, f1, _⟩ := eaA179_1_4 SA (by decide) hA
      exact ⟨⟨_, e1⟩, W1, f1⟩
    · by_cases hq : A = N
      · obtain ⟨e1, W1, f1, _⟩ := eaA179_2_4_1 SA (by decide) rA rN hq hA
        exact ⟨⟨_, e1⟩, W1, f1⟩
      · obtain ⟨e1, W1, f1, _⟩ := eaA179_2_4_0 SA (by decide) rA rN hq hA
        exact ⟨⟨_, e1⟩, W1, f1⟩
    · obtain ⟨e1, W1, f1, _⟩ := eaA179_3_4 SA (by decide) hA
      exact ⟨⟨_, e1⟩, W1, f1⟩
  · rcases hx with rfl | rfl | rfl | rfl
    · obtain ⟨e1, W1, f1, _⟩ := eaA179_0_5 SA (by decide) hA
      exact ⟨⟨_, e1⟩, W1, f1⟩
    · obtain ⟨e1, W1, f1, _⟩ := eaA179_1_5 SA (by decide) hA
      exact ⟨⟨_, e1⟩, W1, f1⟩
    · by_cases hq : A = N
      · obtain ⟨e1, W1, f1, _⟩ := eaA179_2_5_1 SA (by decide) rA rN hq hA
        exact ⟨⟨_, e1⟩, W1, f1⟩
      · obtain ⟨e1, W1, f1, _⟩ := eaA179_2_5_0 SA (by decide) rA rN hq hA
        exact ⟨⟨_, e1⟩, W1, f1⟩
    · obtain ⟨e1, W1, f1, _⟩ := eaA179_3_5 SA (by decide) hA
      exact ⟨⟨_, e1⟩, W1, f1⟩
  · rcases hx with rfl | rfl | rfl | rfl
    · obtain ⟨e1, W1, f1, _⟩ := eaA179_0_6 SA (by decide) hA
      exact ⟨⟨_, e1⟩, W1, f1⟩
    · obtain ⟨e1, W1, f1, _⟩ := eaA179_1_6 SA (by decide) hA
      exact ⟨⟨_, e1⟩, W1, f1⟩
    · by_cases hq : A = N
      · obtain ⟨e1, W1, f1, _⟩ := eaA179_2_6_1 SA (by decide) rA rN hq hA
        exact ⟨⟨_, e1⟩, W1, f1⟩
      · obtain ⟨e1, W1, f1, _⟩ := eaA179_2_6_0 SA (by decide) rA rN hq hA
        exact ⟨⟨_, e1⟩, W1, f1⟩
    · obtain ⟨e1, W1, f1, _⟩ := eaA179_3_6 SA (by decide) hA
      exact ⟨⟨_, e1⟩, W1, f1⟩

end

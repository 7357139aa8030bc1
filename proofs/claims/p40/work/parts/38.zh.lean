noncomputable section
/-! X5_isLetter -/
theorem eg56_0_0 {n : Nat} {w : px_W} {r : Option Value × px_W} {x0 : Int} (h : ec_E hb_X n 56 0 [(0, .inl x0)] [] w r) : ec_tw x0 < ec_tw 97 → True ∧ r = (ec_R 0, w) ∧ ec_W hb_A w := by
  have h2 := hb_ecw ((0, 0, 0, 0, 0) :: (0, 2, 0, 0, 97) :: (4, 2, 2, 1, 0) :: (0, 2, 0, 0, 0) :: (6, 3, 0, 0, 0) :: []) (by decide +kernel) h
  exact h2
theorem eg56_0_1 {n : Nat} {w : px_W} {r : Option Value × px_W} {x0 : Int} (h : ec_E hb_X n 56 0 [(0, .inl x0)] [] w r) : ec_tw 97 ≤ ec_tw x0 → ec_tw 122 < ec_tw x0 → True ∧ r = (ec_R 0, w) ∧ ec_W hb_A w := by
  have h2 := hb_ecw ((0, 0, 0, 0, 0) :: (0, 2, 0, 0, 97) :: (4, 2, 3, 0, 0) :: (0, 0, 0, 0, 0) :: (0, 2, 0, 0, 122) :: (4, 2, 4, 1, 0) :: (0, 2, 0, 0, 0) :: (6, 3, 0, 0, 0) :: []) (by decide +kernel) h
  exact h2
theorem eg56_0_2 {n : Nat} {w : px_W} {r : Option Value × px_W} {x0 : Int} (h : ec_E hb_X n 56 0 [(0, .inl x0)] [] w r) : ec_tw 97 ≤ ec_tw x0 → ec_tw x0 ≤ ec_tw 122 → True ∧ r = (ec_R 1, w) ∧ ec_W hb_A w := by
  have h2 := hb_ecw ((0, 0, 0, 0, 0) :: (0, 2, 0, 0, 97) :: (4, 2, 3, 0, 0) :: (0, 0, 0, 0, 0) :: (0, 2, 0, 0, 122) :: (4, 2, 5, 0, 0) :: (0, 2, 0, 0, 1) :: (4, 0, 0, 0, 0) :: (6, 3, 0, 0, 0) :: []) (by decide +kernel) h
  exact h2
/-! X5_isDigit -/
theorem eg57_0_0 {n : Nat} {w : px_W} {r : Option Value × px_W} {x0 : Int} (h : ec_E hb_X n 57 0 [(0, .inl x0)] [] w r) : ec_tw x0 < ec_tw 48 → True ∧ r = (ec_R 0, w) ∧ ec_W hb_A w := by
  have h2 := hb_ecw ((0, 0, 0, 0, 0) :: (0, 2, 0, 0, 48) :: (4, 2, 2, 1, 0) :: (0, 2, 0, 0, 0) :: (6, 3, 0, 0, 0) :: []) (by decide +kernel) h
  exact h2
theorem eg57_0_1 {n : Nat} {w : px_W} {r : Option Value × px_W} {x0 : Int} (h : ec_E hb_X n 57 0 [(0, .inl x0)] [] w r) : ec_tw 48 ≤ ec_tw x0 → ec_tw 57 < ec_tw x0 → True ∧ r = (ec_R 0, w) ∧ ec_W hb_A w := by
  have h2 := hb_ecw ((0, 0, 0, 0, 0) :: (0, 2, 0, 0, 48) :: (4, 2, 3, 0, 0) :: (0, 0, 0, 0, 0) :: (0, 2, 0, 0, 57) :: (4, 2, 4, 1, 0) :: (0, 2, 0, 0, 0) :: (6, 3, 0, 0, 0) :: []) (by decide +kernel) h
  exact h2
theorem eg57_0_2 {n : Nat} {w : px_W} {r : Option Value × px_W} {x0 : Int} (h : ec_E hb_X n 57 0 [(0, .inl x0)] [] w r) : ec_tw 48 ≤ ec_tw x0 → ec_tw x0 ≤ ec_tw 57 → True ∧ r = (ec_R 1, w) ∧ ec_W hb_A w := by
  have h2 := hb_ecw ((0, 0, 0, 0, 0) :: (0, 2, 0, 0, 48) :: (4, 2, 3, 0, 0) :: (0, 0, 0, 0, 0) :: (0, 2, 0, 0, 57) :: (4, 2, 5, 0, 0) :: (0, 2, 0, 0, 1) :: (4, 0, 0, 0, 0) :: (6, 3, 0, 0, 0) :: []) (by decide +kernel) h
  exact h2
/-! X5_addToken -/
theorem eg55_137_0_0 {n : Nat} {w : px_W} {r : Option Value × px_W} {x1 x2 x3 : Int} (h : ec_E hb_X n 55 0 [(0, .inr (.inl 201)), (1, .inl x1), (2, .inl x2), (3, .inl x3)] [] w r) : ec_tw 200 < ec_tw (ec_fd w 137 5) → True ∧ r = (none, w) ∧ ec_W hb_A w := by
  have h2 := hb_ecw ((0, 1, 0, 0, 0) :: (5, 0, 137, 5, 0) :: (0, 2, 0, 0, 200) :: (4, 2, 4, 1, 0) :: (6, 4, 0, 0, 0) :: []) (by decide +kernel) h
  exact h2
theorem eg55_137_0_1 {n : Nat} {w : px_W} {r : Option Value × px_W} {x1 x2 x3 : Int} (h : ec_E hb_X n 55 0 [(0, .inr (.inl 201)), (1, .inl x1), (2, .inl x2), (3, .inl x3)] [] w r) : ec_tw (ec_fd w 137 5) ≤ ec_tw 200 → (((True ∧ 0 ≤ ec_tw (ec_fd w 137 5) ∧ ec_tw (ec_fd w 137 5) < 201) ∧ 0 ≤ ec_tw (ec_fd (ec_wr w 139 (ec_tw (ec_fd w 137 5)) x1) 137 5) ∧ ec_tw (ec_fd (ec_wr w 139 (ec_tw (ec_fd w 137 5)) x1) 137 5) < 201) ∧ 0 ≤ ec_tw (ec_fd (ec_wr (ec_wr w 139 (ec_tw (ec_fd w 137 5)) x1) 140 (ec_tw (ec_fd (ec_wr w 139 (ec_tw (ec_fd w 137 5)) x1) 137 5)) x2) 137 5) ∧ ec_tw (ec_fd (ec_wr (ec_wr w 139 (ec_tw (ec_fd w 137 5)) x1) 140 (ec_tw (ec_fd (ec_wr w 139 (ec_tw (ec_fd w 137 5)) x1) 137 5)) x2) 137 5) < 201) ∧ r = (none, ec_pf (ec_wr (ec_wr (ec_wr w 139 (ec_tw (ec_fd w 137 5)) x1) 140 (ec_tw (ec_fd (ec_wr w 139 (ec_tw (ec_fd w 137 5)) x1) 137 5)) x2) 141 (ec_tw (ec_fd (ec_wr (ec_wr w 139 (ec_tw (ec_fd w 137 5)) x1) 140 (ec_tw (ec_fd (ec_wr w 139 (ec_tw (ec_fd w 137 5)) x1) 137 5)) x2) 137 5)) x3) 137 5 ((ec_fd (ec_wr (ec_wr (ec_wr w 139 (ec_tw (ec_fd w 137 5)) x1) 140 (ec_tw (ec_fd (ec_wr w 139 (ec_tw (ec_fd w 137 5)) x1) 137 5)) x2) 141 (ec_tw (ec_fd (ec_wr (ec_wr w 139 (ec_tw (ec_fd w 137 5)) x1) 140 (ec_tw (ec_fd (ec_wr w 139 (ec_tw (ec_fd w 137 5)) x1) 137 5)) x2) 137 5)) x3) 137 5) + 1)) ∧ ec_W hb_A (ec_pf (ec_wr (ec_wr (ec_wr w 139 (ec_tw (ec_fd w 137 5)) x1) 140 (ec_tw (ec_fd (ec_wr w 139 (ec_tw (ec_fd w 137 5)) x1) 137 5)) x2) 141 (ec_tw (ec_fd (ec_wr (ec_wr w 139 (ec_tw (ec_fd w 137 5)) x1) 140 (ec_tw (ec_fd (ec_wr w 139 (ec_tw (ec_fd w 137 5)) x1) 137 5)) x2) 137 5)) x3) 137 5 ((ec_fd (ec_wr (ec_wr (ec_wr w 139 (ec_tw (ec_fd w 137 5)) x1) 140 (ec_tw (ec_fd (ec_wr w 139 (ec_tw (ec_fd w 137 5)) x1) 137 5)) x2) 141 (ec_tw (ec_fd (ec_wr (ec_wr w 139 (ec_tw (ec_fd w 137 5)) x1) 140 (ec_tw (ec_fd (ec_wr w 139 (ec_tw (ec_fd w 137 5)) x1) 137 5)) x2) 137 5)) x3) 137 5) + 1)) := by
  have h2 := hb_ecw ((0, 1, 0, 0, 0) :: (5, 0, 137, 5, 0) :: (0, 2, 0, 0, 200) :: (4, 2, 5, 0, 0) :: (0, 1, 0, 0, 0) :: (5, 1, 137, 203, 0) :: (0, 1, 0, 0, 0) :: (5, 0, 137, 5, 0) :: (0, 0, 1, 0, 0) :: (5, 3, 139, 0, 201) :: (0, 1, 0, 0, 0) :: (5, 1, 137, 204, 0) :: (0, 1, 0, 0, 0) :: (5, 0, 137, 5, 0) :: (0, 0, 2, 0, 0) :: (5, 3, 140, 0, 201) :: (0, 1, 0, 0, 0) :: (5, 1, 137, 205, 0) :: (0, 1, 0, 0, 0) :: (5, 0, 137, 5, 0) :: (0, 0, 3, 0, 0) :: (5, 3, 141, 0, 201) :: (0, 1, 0, 0, 0) :: (3, 0, 0, 0, 0) :: (5, 0, 137, 5, 0) :: (0, 2, 0, 0, 1) :: (1, 0, 0, 0, 0) :: (5, 4, 137, 5, 0) :: (6, 4, 0, 0, 0) :: []) (by decide +kernel) h
  exact h2
/-! X5_numberAt -/
theorem eg58_137_0_0 {n : Nat} {w : px_W} {r : Option Value × px_W} {x1 x2 : Int} (h : ec_E hb_X n 58 0 [(0, .inr (.inl 201)), (1, .inl x1), (2, .inl x2)] [] w r) : ec_tw (x2 - x1) ≤ ec_tw 3 → True ∧ ec_E hb_X n 58 14 [(0, .inr (.inl 201)), (1, .inl x1), (2, .inl x2), (3, .inl 0), (4, .inl x1)] [] w r := by
  have h2 := hb_ecw ((0, 0, 2, 0, 0) :: (0, 0, 1, 0, 0) :: (1, 1, 0, 0, 0) :: (0, 2, 0, 0, 3) :: (4, 2, 5, 1, 0) :: (0, 2, 0, 0, 0) :: (0, 3, 3, 0, 0) :: (0, 0, 1, 0, 0) :: (0, 3, 4, 0, 0) :: (6, 0, 14, 5, 0) :: []) (by decide +kernel) h
  exact h2
theorem eg58_137_0_1 {n : Nat} {w : px_W} {r : Option Value × px_W} {x1 x2 : Int} (h : ec_E hb_X n 58 0 [(0, .inr (.inl 201)), (1, .inl x1), (2, .inl x2)] [] w r) : ec_tw 3 < ec_tw (x2 - x1) → True ∧ r = (ec_R (-1), w) ∧ ec_W hb_A w := by
  have h2 := hb_ecw ((0, 0, 2, 0, 0) :: (0, 0, 1, 0, 0) :: (1, 1, 0, 0, 0) :: (0, 2, 0, 0, 3) :: (4, 2, 4, 0, 0) :: (0, 2, 0, 0, (-1)) :: (6, 3, 0, 0, 0) :: []) (by decide +kernel) h
  exact h2
theorem eg58_137_14_0 {n : Nat} {w : px_W} {r : Option Value × px_W} {x1 x2 x3 x4 : Int} (h : ec_E hb_X n 58 14 [(0, .inr (.inl 201)), (1, .inl x1), (2, .inl x2), (3, .inl x3), (4, .inl x4)] [] w r) : ec_tw x2 ≤ ec_tw x4 → True ∧ r = (ec_R x3, w) ∧ ec_W hb_A w := by
  have h2 := hb_ecw ((0, 0, 4, 0, 0) :: (0, 0, 2, 0, 0) :: (4, 2, 3, 1, 0) :: (0, 0, 3, 0, 0) :: (6, 3, 0, 0, 0) :: []) (by decide +kernel) h
  exact h2
theorem eg58_137_14_1 {n : Nat} {w : px_W} {r : Option Value × px_W} {x1 x2 x3 x4 : Int} (h : ec_E hb_X n 58 14 [(0, .inr (.inl 201)), (1, .inl x1), (2, .inl x2), (3, .inl x3), (4, .inl x4)] [] w r) : ec_tw x4 < ec_tw x2 → (True ∧ 0 ≤ ec_tw x4 ∧ ec_tw x4 < 200) ∧ ec_E hb_X n 58 14 [(0, .inr (.inl 201)), (1, .inl x1), (2, .inl x2), (3, .inl (((x3 * 10) + (ec_rd w 138 (ec_tw x4))) - 48)), (4, .inl (x4 + 1))] [] w r := by
  have h2 := hb_ecw ((0, 0, 4, 0, 0) :: (0, 0, 2, 0, 0) :: (4, 2, 2, 0, 0) :: (0, 0, 3, 0, 0) :: (0, 2, 0, 0, 10) :: (1, 2, 0, 0, 0) :: (0, 1, 0, 0, 0) :: (5, 1, 137, 202, 0) :: (0, 0, 4, 0, 0) :: (5, 2, 138, 0, 200) :: (1, 0, 0, 0, 0) :: (0, 2, 0, 0, 48) :: (1, 1, 0, 0, 0) :: (0, 3, 3, 0, 0) :: (0, 5, 4, 0, 1) :: (4, 0, 0, 0, 0) :: (6, 0, 14, 5, 0) :: []) (by decide +kernel) h
  exact h2
/-! X5_wordAt -/
theorem eg59_137_0_0 {n : Nat} {w : px_W} {r : Option Value × px_W} {x1 x2 : Int} (h : ec_E hb_X n 59 0 [(0, .inr (.inl 201)), (1, .inl x1), (2, .inl x2)] [] w r) : ec_tw (x2 - x1) = 2 → True ∧ ∃ (v : Option Value) (w1 : px_W), ec_E hb_X n 60 0 [(0, .inr (.inl 201)), (1, .inr (.inl 1)), (2, .inl x1)] [] w (v, w1) ∧ ∀ zz : Int, v = ec_R zz → ec_W hb_A w1 → ec_E hb_X n 59 51 [(0, .inr (.inl 201)), (1, .inl x1), (2, .inl x2)] [.inl zz] w1 r := by
  have h2 := hb_ecw ((0, 0, 2, 0, 0) :: (0, 0, 1, 0, 0) :: (1, 1, 0, 0, 0) :: (4, 3, 0, 0, 2) :: (0, 1, 0, 0, 0) :: (0, 8, 1, 0, 0) :: (0, 0, 1, 0, 0) :: (6, 1, 60, 3, 51) :: []) (by decide +kernel) h
  exact h2
theorem eg59_137_0_1 {n : Nat} {w : px_W} {r : Option Value × px_W} {x1 x2 : Int} (h : ec_E hb_X n 59 0 [(0, .inr (.inl 201)), (1, .inl x1), (2, .inl x2)] [] w r) : ec_tw (x2 - x1) = 3 → True ∧ ∃ (v : Option Value) (w1 : px_W), ec_E hb_X n 60 0 [(0, .inr (.inl 201)), (1, .inr (.inl 3)), (2, .inl x1)] [] w (v, w1) ∧ ∀ zz : Int, v = ec_R zz → ec_W hb_A w1 → ec_E hb_X n 59 87 [(0, .inr (.inl 201)), (1, .inl x1), (2, .inl x2)] [.inl zz] w1 r := by
  have h2 := hb_ecw ((0, 0, 2, 0, 0) :: (0, 0, 1, 0, 0) :: (1, 1, 0, 0, 0) :: (4, 3, 0, 0, 3) :: (0, 1, 0, 0, 0) :: (0, 8, 3, 0, 0) :: (0, 0, 1, 0, 0) :: (6, 1, 60, 3, 87) :: []) (by decide +kernel) h
  exact h2
theorem eg59_137_0_2 {n : Nat} {w : px_W} {r : Option Value × px_W} {x1 x2 : Int} (h : ec_E hb_X n 59 0 [(0, .inr (.inl 201)), (1, .inl x1), (2, .inl x2)] [] w r) : ec_tw (x2 - x1) = 4 → True ∧ ∃ (v : Option Value) (w1 : px_W), ec_E hb_X n 60 0 [(0, .inr (.inl 201)), (1, .inr (.inl 8)), (2, .inl x1)] [] w (v, w1) ∧ ∀ zz : Int, v = ec_R zz → ec_W hb_A w1 → ec_E hb_X n 59 167 [(0, .inr (.inl 201)), (1, .inl x1), (2, .inl x2)] [.inl zz] w1 r := by
  have h2 := hb_ecw ((0, 0, 2, 0, 0) :: (0, 0, 1, 0, 0) :: (1, 1, 0, 0, 0) :: (4, 3, 0, 0, 4) :: (0, 1, 0, 0, 0) :: (0, 8, 8, 0, 0) :: (0, 0, 1, 0, 0) :: (6, 1, 60, 3, 167) :: []) (by decide +kernel) h
  exact h2
theorem eg59_137_0_3 {n : Nat} {w : px_W} {r : Option Value × px_W} {x1 x2 : Int} (h : ec_E hb_X n 59 0 [(0, .inr (.inl 201)), (1, .inl x1), (2, .inl x2)] [] w r) : ec_tw (x2 - x1) = 5 → True ∧ ∃ (v : Option Value) (w1 : px_W), ec_E hb_X n 60 0 [(0, .inr (.inl 201)), (1, .inr (.inl 10)), (2, .inl x1)] [] w (v, w1) ∧ ∀ zz : Int, v = ec_R zz → ec_W hb_A w1 → ec_E hb_X n 59 203 [(0, .inr (.inl 201)), (1, .inl x1), (2, .inl x2)] [.inl zz] w1 r := by
  have h2 := hb_ecw ((0, 0, 2, 0, 0) :: (0, 0, 1, 0, 0) :: (1, 1, 0, 0, 0) :: (4, 3, 0, 0, 5) :: (0, 1, 0, 0, 0) :: (0, 8, 10, 0, 0) :: (0, 0, 1, 0, 0) :: (6, 1, 60, 3, 203) :: []) (by decide +kernel) h
  exact h2
theorem eg59_137_0_4 {n : Nat} {w : px_W} {r : Option Value × px_W} {x1 x2 : Int} (h : ec_E hb_X n 59 0 [(0, .inr (.inl 201)), (1, .inl x1), (2, .inl x2)] [] w r) : ec_tw (x2 - x1) = 6 → True ∧ ∃ (v : Option Value) (w1 : px_W), ec_E hb_X n 60 0 [(0, .inr (.inl 201)), (1, .inr (.inl 15)), (2, .inl x1)] [] w (v, w1) ∧ ∀ zz : Int, v = ec_R zz → ec_W hb_A w1 → ec_E hb_X n 59 281 [(0, .inr (.inl 201)), (1, .inl x1), (2, .inl x2)] [.inl zz] w1 r := by
  have h2 := hb_ecw ((0, 0, 2, 0, 0) :: (0, 0, 1, 0, 0) :: (1, 1, 0, 0, 0) :: (4, 3, 0, 0, 6) :: (0, 1, 0, 0, 0) :: (0, 8, 15, 0, 0) :: (0, 0, 1, 0, 0) :: (6, 1, 60, 3, 281) :: []) (by decide +kernel) h
  exact h2
theorem eg59_137_0_5 {n : Nat} {w : px_W} {r : Option Value × px_W} {x1 x2 : Int} (h : ec_E hb_X n 59 0 [(0, .inr (.inl 201)), (1, .inl x1), (2, .inl x2)] [] w r) : ec_tw (x2 - x1) = 7 → True ∧ r = (ec_R 302, w) ∧ ec_W hb_A w := by
  have h2 := hb_ecw ((0, 0, 2, 0, 0) :: (0, 0, 1, 0, 0) :: (1, 1, 0, 0, 0) :: (4, 3, 0, 0, 7) :: (0, 2, 0, 0, 302) :: (6, 3, 0, 0, 0) :: []) (by decide +kernel) h
  exact h2
theorem eg59_137_0_6 {n : Nat} {w : px_W} {r : Option Value × px_W} {x1 x2 : Int} (h : ec_E hb_X n 59 0 [(0, .inr (.inl 201)), (1, .inl x1), (2, .inl x2)] [] w r) : ec_tw (x2 - x1) = 8 → True ∧ ∃ (v : Option Value) (w1 : px_W), ec_E hb_X n 60 0 [(0, .inr (.inl 201)), (1, .inr (.inl 16)), (2, .inl x1)] [] w (v, w1) ∧ ∀ zz : Int, v = ec_R zz → ec_W hb_A w1 → ec_E hb_X n 59 301 [(0, .inr (.inl 201)), (1, .inl x1), (2, .inl x2)] [.inl zz] w1 r := by
  have h2 := hb_ecw ((0, 0, 2, 0, 0) :: (0, 0, 1, 0, 0) :: (1, 1, 0, 0, 0) :: (4, 3, 0, 0, 8) :: (0, 1, 0, 0, 0) :: (0, 8, 16, 0, 0) :: (0, 0, 1, 0, 0) :: (6, 1, 60, 3, 301) :: []) (by decide +kernel) h
  exact h2
theorem eg59_137_0_7 {n : Nat} {w : px_W} {r : Option Value × px_W} {x1 x2 : Int} (h : ec_E hb_X n 59 0 [(0, .inr (.inl 201)), (1, .inl x1), (2, .inl x2)] [] w r) : (ec_tw (x2 - x1) < 2 ∨ 2 + 6 < ec_tw (x2 - x1)) → True ∧ r = (ec_R 302, w) ∧ ec_W hb_A w := by
  have h2 := hb_ecw ((0, 0, 2, 0, 0) :: (0, 0, 1, 0, 0) :: (1, 1, 0, 0, 0) :: (4, 4, 6, 0, 2) :: (0, 2, 0, 0, 302) :: (6, 3, 0, 0, 0) :: []) (by decide +kernel) h
  exact h2
theorem eg59_137_51_0 {n : Nat} {w : px_W} {r : Option Value × px_W} {x1 x2 s0 : Int} (h : ec_E hb_X n 59 51 [(0, .inr (.inl 201)), (1, .inl x1), (2, .inl x2)] [.inl s0] w r) : ec_tw s0 = ec_tw 0 → True ∧ ∃ (v : Option Value) (w1 : px_W), ec_E hb_X n 60 0 [(0, .inr (.inl 201)), (1, .inr (.inl 2)), (2, .inl x1)] [] w (v, w1) ∧ ∀ zz : Int, v = ec_R zz → ec_W hb_A w1 → ec_E hb_X n 59 67 [(0, .inr (.inl 201)), (1, .inl x1), (2, .inl x2)] [.inl zz] w1 r := by
  have h2 := hb_ecw ((4, 1, 0, 1, 0) :: (0, 1, 0, 0, 0) :: (0, 8, 2, 0, 0) :: (0, 0, 1, 0, 0) :: (6, 1, 60, 3, 67) :: []) (by decide +kernel) h
  exact h2
theorem eg59_137_51_1 {n : Nat} {w : px_W} {r : Option Value × px_W} {x1 x2 s0 : Int} (h : ec_E hb_X n 59 51 [(0, .inr (.inl 201)), (1, .inl x1), (2, .inl x2)] [.inl s0] w r) : ec_tw s0 ≠ ec_tw 0 → True ∧ r = (ec_R 315, w) ∧ ec_W hb_A w := by
  have h2 := hb_ecw ((4, 1, 1, 0, 0) :: (0, 2, 0, 0, 315) :: (4, 0, 0, 0, 0) :: (6, 3, 0, 0, 0) :: []) (by decide +kernel) h
  exact h2
theorem eg59_137_87_0 {n : Nat} {w : px_W} {r : Option Value × px_W} {x1 x2 s0 : Int} (h : ec_E hb_X n 59 87 [(0, .inr (.inl 201)), (1, .inl x1), (2, .inl x2)] [.inl s0] w r) : ec_tw s0 = ec_tw 0 → True ∧ ∃ (v : Option Value) (w1 : px_W), ec_E hb_X n 60 0 [(0, .inr (.inl 201)), (1, .inr (.inl 4)), (2, .inl x1)] [] w (v, w1) ∧ ∀ zz : Int, v = ec_R zz → ec_W hb_A w1 → ec_E hb_X n 59 101 [(0, .inr (.inl 201)), (1, .inl x1), (2, .inl x2)] [.inl zz] w1 r := by
  have h2 := hb_ecw ((4, 1, 0, 1, 0) :: (0, 1, 0, 0, 0) :: (0, 8, 4, 0, 0) :: (0, 0, 1, 0, 0) :: (6, 1, 60, 3, 101) :: []) (by decide +kernel) h
  exact h2
theorem eg59_137_87_1 {n : Nat} {w : px_W} {r : Option Value × px_W} {x1 x2 s0 : Int} (h : ec_E hb_X n 59 87 [(0, .inr (.inl 201)), (1, .inl x1), (2, .inl x2)] [.inl s0] w r) : ec_tw s0 ≠ ec_tw 0 → True ∧ r = (ec_R 311, w) ∧ ec_W hb_A w := by
  have h2 := hb_ecw ((4, 1, 1, 0, 0) :: (0, 2, 0, 0, 311) :: (6, 3, 0, 0, 0) :: []) (by decide +kernel) h
  exact h2
theorem eg59_137_167_0 {n : Nat} {w : px_W} {r : Option Value × px_W} {x1 x2 s0 : Int} (h : ec_E hb_X n 59 167 [(0, .inr (.inl 201)), (1, .inl x1), (2, .inl x2)] [.inl s0] w r) : ec_tw s0 = ec_tw 0 → True ∧ ∃ (v : Option Value) (w1 : px_W), ec_E hb_X n 60 0 [(0, .inr (.inl 201)), (1, .inr (.inl 9)), (2, .inl x1)] [] w (v, w1) ∧ ∀ zz : Int, v = ec_R zz → ec_W hb_A w1 → ec_E hb_X n 59 183 [(0, .inr (.inl 201)), (1, .inl x1), (2, .inl x2)] [.inl zz] w1 r := by
  have h2 := hb_ecw ((4, 1, 0, 1, 0) :: (0, 1, 0, 0, 0) :: (0, 8, 9, 0, 0) :: (0, 0, 1, 0, 0) :: (6, 1, 60, 3, 183) :: []) (by decide +kernel) h
  exact h2
theorem eg59_137_167_1 {n : Nat} {w : px_W} {r : Option Value × px_W} {x1 x2 s0 : Int} (h : ec_E hb_X n 59 167 [(0, .inr (.inl 201)), (1, .inl x1), (2, .inl x2)] [.inl s0] w r) : ec_tw s0 ≠ ec_tw 0 → True ∧ r = (ec_R 314, w) ∧ ec_W hb_A w := by
  have h2 := hb_ecw ((4, 1, 1, 0, 0) :: (0, 2, 0, 0, 314) :: (4, 0, 0, 0, 0) :: (6, 3, 0, 0, 0) :: []) (by decide +kernel) h
  exact h2
theorem eg59_137_203_0 {n : Nat} {w : px_W} {r : Option Value × px_W} {x1 x2 s0 : Int} (h : ec_E hb_X n 59 203 [(0, .inr (.inl 201)), (1, .inl x1), (2, .inl x2)] [.inl s0] w r) : ec_tw s0 = ec_tw 0 → True ∧ ∃ (v : Option Value) (w1 : px_W), ec_E hb_X n 60 0 [(0, .inr (.inl 201)), (1, .inr (.inl 11)), (2, .inl x1)] [] w (v, w1) ∧ ∀ zz : Int, v = ec_R zz → ec_W hb_A w1 → ec_E hb_X n 59 217 [(0, .inr (.inl 201)), (1, .inl x1), (2, .inl x2)] [.inl zz] w1 r := by
  have h2 := hb_ecw ((4, 1, 0, 1, 0) :: (0, 1, 0, 0, 0) :: (0, 8, 11, 0, 0) :: (0, 0, 1, 0, 0) :: (6, 1, 60, 3, 217) :: []) (by decide +kernel) h
  exact h2
theorem eg59_137_203_1 {n : Nat} {w : px_W} {r : Option Value × px_W} {x1 x2 s0 : Int} (h : ec_E hb_X n 59 203 [(0, .inr (.inl 201)), (1, .inl x1), (2, .inl x2)] [.inl s0] w r) : ec_tw s0 ≠ ec_tw 0 → True ∧ r = (ec_R 310, w) ∧ ec_W hb_A w := by
  have h2 := hb_ecw ((4, 1, 1, 0, 0) :: (0, 2, 0, 0, 310) :: (6, 3, 0, 0, 0) :: []) (by decide +kernel) h
  exact h2
theorem eg59_137_281_0 {n : Nat} {w : px_W} {r : Option Value × px_W} {x1 x2 s0 : Int} (h : ec_E hb_X n 59 281 [(0, .inr (.inl 201)), (1, .inl x1), (2, .inl x2)] [.inl s0] w r) : ec_tw s0 = ec_tw 0 → True ∧ r = (ec_R 302, w) ∧ ec_W hb_A w := by
  have h2 := hb_ecw ((4, 1, 0, 1, 0) :: (0, 2, 0, 0, 302) :: (6, 3, 0, 0, 0) :: []) (by decide +kernel) h
  exact h2
theorem eg59_137_281_1 {n : Nat} {w : px_W} {r : Option Value × px_W} {x1 x2 s0 : Int} (h : ec_E hb_X n 59 281 [(0, .inr (.inl 201)), (1, .inl x1), (2, .inl x2)] [.inl s0] w r) : ec_tw s0 ≠ ec_tw 0 → True ∧ r = (ec_R 326, w) ∧ ec_W hb_A w := by
  have h2 := hb_ecw ((4, 1, 1, 0, 0) :: (0, 2, 0, 0, 326) :: (4, 0, 0, 0, 0) :: (6, 3, 0, 0, 0) :: []) (by decide +kernel) h
  exact h2
theorem eg59_137_301_0 {n : Nat} {w : px_W} {r : Option Value × px_W} {x1 x2 s0 : Int} (h : ec_E hb_X n 59 301 [(0, .inr (.inl 201)), (1, .inl x1), (2, .inl x2)] [.inl s0] w r) : ec_tw s0 = ec_tw 0 → True ∧ r = (ec_R 302, w) ∧ ec_W hb_A w := by
  have h2 := hb_ecw ((4, 1, 0, 1, 0) :: (0, 2, 0, 0, 302) :: (6, 3, 0, 0, 0) :: []) (by decide +kernel) h
  exact h2
theorem eg59_137_301_1 {n : Nat} {w : px_W} {r : Option Value × px_W} {x1 x2 s0 : Int} (h : ec_E hb_X n 59 301 [(0, .inr (.inl 201)), (1, .inl x1), (2, .inl x2)] [.inl s0] w r) : ec_tw s0 ≠ ec_tw 0 → True ∧ r = (ec_R 330, w) ∧ ec_W hb_A w := by
  have h2 := hb_ecw ((4, 1, 1, 0, 0) :: (0, 2, 0, 0, 330) :: (4, 0, 0, 0, 0) :: (6, 3, 0, 0, 0) :: []) (by decide +kernel) h
  exact h2
theorem eg59_137_67_0 {n : Nat} {w : px_W} {r : Option Value × px_W} {x1 x2 s0 : Int} (h : ec_E hb_X n 59 67 [(0, .inr (.inl 201)), (1, .inl x1), (2, .inl x2)] [.inl s0] w r) : ec_tw s0 = ec_tw 0 → True ∧ r = (ec_R 302, w) ∧ ec_W hb_A w := by
  have h2 := hb_ecw ((4, 1, 0, 1, 0) :: (0, 2, 0, 0, 302) :: (6, 3, 0, 0, 0) :: []) (by decide +kernel) h
  exact h2
theorem eg59_137_67_1 {n : Nat} {w : px_W} {r : Option Value × px_W} {x1 x2 s0 : Int} (h : ec_E hb_X n 59 67 [(0, .inr (.inl 201)), (1, .inl x1), (2, .inl x2)] [.inl s0] w r) : ec_tw s0 ≠ ec_tw 0 → True ∧ r = (ec_R 320, w) ∧ ec_W hb_A w := by
  have h2 := hb_ecw ((4, 1, 1, 0, 0) :: (0, 2, 0, 0, 320) :: (4, 0, 0, 0, 0) :: (6, 3, 0, 0, 0) :: []) (by decide +kernel) h
  exact h2
theorem eg59_137_101_0 {n : Nat} {w : px_W} {r : Option Value × px_W} {x1 x2 s0 : Int} (h : ec_E hb_X n 59 101 [(0, .inr (.inl 201)), (1, .inl x1), (2, .inl x2)] [.inl s0] w r) : ec_tw s0 = ec_tw 0 → True ∧ ∃ (v : Option Value) (w1 : px_W), ec_E hb_X n 60 0 [(0, .inr (.inl 201)), (1, .inr (.inl 5)), (2, .inl x1)] [] w (v, w1) ∧ ∀ zz : Int, v = ec_R zz → ec_W hb_A w1 → ec_E hb_X n 59 115 [(0, .inr (.inl 201)), (1, .inl x1), (2, .inl x2)] [.inl zz] w1 r := by
  have h2 := hb_ecw ((4, 1, 0, 1, 0) :: (0, 1, 0, 0, 0) :: (0, 8, 5, 0, 0) :: (0, 0, 1, 0, 0) :: (6, 1, 60, 3, 115) :: []) (by decide +kernel) h
  exact h2
theorem eg59_137_101_1 {n : Nat} {w : px_W} {r : Option Value × px_W} {x1 x2 s0 : Int} (h : ec_E hb_X n 59 101 [(0, .inr (.inl 201)), (1, .inl x1), (2, .inl x2)] [.inl s0] w r) : ec_tw s0 ≠ ec_tw 0 → True ∧ r = (ec_R 332, w) ∧ ec_W hb_A w := by
  have h2 := hb_ecw ((4, 1, 1, 0, 0) :: (0, 2, 0, 0, 332) :: (6, 3, 0, 0, 0) :: []) (by decide +kernel) h
  exact h2
theorem eg59_137_183_0 {n : Nat} {w : px_W} {r : Option Value × px_W} {x1 x2 s0 : Int} (h : ec_E hb_X n 59 183 [(0, .inr (.inl 201)), (1, .inl x1), (2, .inl x2)] [.inl s0] w r) : ec_tw s0 = ec_tw 0 → True ∧ r = (ec_R 302, w) ∧ ec_W hb_A w := by
  have h2 := hb_ecw ((4, 1, 0, 1, 0) :: (0, 2, 0, 0, 302) :: (6, 3, 0, 0, 0) :: []) (by decide +kernel) h
  exact h2
theorem eg59_137_183_1 {n : Nat} {w : px_W} {r : Option Value × px_W} {x1 x2 s0 : Int} (h : ec_E hb_X n 59 183 [(0, .inr (.inl 201)), (1, .inl x1), (2, .inl x2)] [.inl s0] w r) : ec_tw s0 ≠ ec_tw 0 → True ∧ r = (ec_R 313, w) ∧ ec_W hb_A w := by
  have h2 := hb_ecw ((4, 1, 1, 0, 0) :: (0, 2, 0, 0, 313) :: (4, 0, 0, 0, 0) :: (6, 3, 0, 0, 0) :: []) (by decide +kernel) h
  exact h2
theorem eg59_137_217_0 {n : Nat} {w : px_W} {r : Option Value × px_W} {x1 x2 s0 : Int} (h : ec_E hb_X n 59 217 [(0, .inr (.inl 201)), (1, .inl x1), (2, .inl x2)] [.inl s0] w r) : ec_tw s0 = ec_tw 0 → True ∧ ∃ (v : Option Value) (w1 : px_W), ec_E hb_X n 60 0 [(0, .inr (.inl 201)), (1, .inr (.inl 12)), (2, .inl x1)] [] w (v, w1) ∧ ∀ zz : Int, v = ec_R zz → ec_W hb_A w1 → ec_E hb_X n 59 231 [(0, .inr (.inl 201)), (1, .inl x1), (2, .inl x2)] [.inl zz] w1 r := by
  have h2 := hb_ecw ((4, 1, 0, 1, 0) :: (0, 1, 0, 0, 0) :: (0, 8, 12, 0, 0) :: (0, 0, 1, 0, 0) :: (6, 1, 60, 3, 231) :: []) (by decide +kernel) h
  exact h2
theorem eg59_137_217_1 {n : Nat} {w : px_W} {r : Option Value × px_W} {x1 x2 s0 : Int} (h : ec_E hb_X n 59 217 [(0, .inr (.inl 201)), (1, .inl x1), (2, .inl x2)] [.inl s0] w r) : ec_tw s0 ≠ ec_tw 0 → True ∧ r = (ec_R 312, w) ∧ ec_W hb_A w := by
  have h2 := hb_ecw ((4, 1, 1, 0, 0) :: (0, 2, 0, 0, 312) :: (6, 3, 0, 0, 0) :: []) (by decide +kernel) h
  exact h2
theorem eg59_137_115_0 {n : Nat} {w : px_W} {r : Option Value × px_W} {x1 x2 s0 : Int} (h : ec_E hb_X n 59 115 [(0, .inr (.inl 201)), (1, .inl x1), (2, .inl x2)] [.inl s0] w r) : ec_tw s0 = ec_tw 0 → True ∧ ∃ (v : Option Value) (w1 : px_W), ec_E hb_X n 60 0 [(0, .inr (.inl 201)), (1, .inr (.inl 6)), (2, .inl x1)] [] w (v, w1) ∧ ∀ zz : Int, v = ec_R zz → ec_W hb_A w1 → ec_E hb_X n 59 131 [(0, .inr (.inl 201)), (1, .inl x1), (2, .inl x2)] [.inl zz] w1 r := by
  have h2 := hb_ecw ((4, 1, 0, 1, 0) :: (0, 1, 0, 0, 0) :: (0, 8, 6, 0, 0) :: (0, 0, 1, 0, 0) :: (6, 1, 60, 3, 131) :: []) (by decide +kernel) h
  exact h2
theorem eg59_137_115_1 {n : Nat} {w : px_W} {r : Option Value × px_W} {x1 x2 s0 : Int} (h : ec_E hb_X n 59 115 [(0, .inr (.inl 201)), (1, .inl x1), (2, .inl x2)] [.inl s0] w r) : ec_tw s0 ≠ ec_tw 0 → True ∧ r = (ec_R 321, w) ∧ ec_W hb_A w := by
  have h2 := hb_ecw ((4, 1, 1, 0, 0) :: (0, 2, 0, 0, 321) :: (4, 0, 0, 0, 0) :: (6, 3, 0, 0, 0) :: []) (by decide +kernel) h
  exact h2
theorem eg59_137_231_0 {n : Nat} {w : px_W} {r : Option Value × px_W} {x1 x2 s0 : Int} (h : ec_E hb_X n 59 231 [(0, .inr (.inl 201)), (1, .inl x1), (2, .inl x2)] [.inl s0] w r) : ec_tw s0 = ec_tw 0 → True ∧ ∃ (v : Option Value) (w1 : px_W), ec_E hb_X n 60 0 [(0, .inr (.inl 201)), (1, .inr (.inl 13)), (2, .inl x1)] [] w (v, w1) ∧ ∀ zz : Int, v = ec_R zz → ec_W hb_A w1 → ec_E hb_X n 59 245 [(0, .inr (.inl 201)), (1, .inl x1), (2, .inl x2)] [.inl zz] w1 r := by
  have h2 := hb_ecw ((4, 1, 0, 1, 0) :: (0, 1, 0, 0, 0) :: (0, 8, 13, 0, 0) :: (0, 0, 1, 0, 0) :: (6, 1, 60, 3, 245) :: []) (by decide +kernel) h
  exact h2
theorem eg59_137_231_1 {n : Nat} {w : px_W} {r : Option Value × px_W} {x1 x2 s0 : Int} (h : ec_E hb_X n 59 231 [(0, .inr (.inl 201)), (1, .inl x1), (2, .inl x2)] [.inl s0] w r) : ec_tw s0 ≠ ec_tw 0 → True ∧ r = (ec_R 331, w) ∧ ec_W hb_A w := by
  have h2 := hb_ecw ((4, 1, 1, 0, 0) :: (0, 2, 0, 0, 331) :: (6, 3, 0, 0, 0) :: []) (by decide +kernel) h
  exact h2
theorem eg59_137_131_0 {n : Nat} {w : px_W} {r : Option Value × px_W} {x1 x2 s0 : Int} (h : ec_E hb_X n 59 131 [(0, .inr (.inl 201)), (1, .inl x1), (2, .inl x2)] [.inl s0] w r) : ec_tw s0 = ec_tw 0 → True ∧ ∃ (v : Option Value) (w1 : px_W), ec_E hb_X n 60 0 [(0, .inr (.inl 201)), (1, .inr (.inl 7)), (2, .inl x1)] [] w (v, w1) ∧ ∀ zz : Int, v = ec_R zz → ec_W hb_A w1 → ec_E hb_X n 59 147 [(0, .inr (.inl 201)), (1, .inl x1), (2, .inl x2)] [.inl zz] w1 r := by
  have h2 := hb_ecw ((4, 1, 0, 1, 0) :: (0, 1, 0, 0, 0) :: (0, 8, 7, 0, 0) :: (0, 0, 1, 0, 0) :: (6, 1, 60, 3, 147) :: []) (by decide +kernel) h
  exact h2
theorem eg59_137_131_1 {n : Nat} {w : px_W} {r : Option Value × px_W} {x1 x2 s0 : Int} (h : ec_E hb_X n 59 131 [(0, .inr (.inl 201)), (1, .inl x1), (2, .inl x2)] [.inl s0] w r) : ec_tw s0 ≠ ec_tw 0 → True ∧ r = (ec_R 322, w) ∧ ec_W hb_A w := by
  have h2 := hb_ecw ((4, 1, 1, 0, 0) :: (0, 2, 0, 0, 322) :: (4, 0, 0, 0, 0) :: (6, 3, 0, 0, 0) :: []) (by decide +kernel) h
  exact h2
theorem eg59_137_245_0 {n : Nat} {w : px_W} {r : Option Value × px_W} {x1 x2 s0 : Int} (h : ec_E hb_X n 59 245 [(0, .inr (.inl 201)), (1, .inl x1), (2, .inl x2)] [.inl s0] w r) : ec_tw s0 = ec_tw 0 → True ∧ ∃ (v : Option Value) (w1 : px_W), ec_E hb_X n 60 0 [(0, .inr (.inl 201)), (1, .inr (.inl 14)), (2, .inl x1)] [] w (v, w1) ∧ ∀ zz : Int, v = ec_R zz → ec_W hb_A w1 → ec_E hb_X n 59 261 [(0, .inr (.inl 201)), (1, .inl x1), (2, .inl x2)] [.inl zz] w1 r := by
  have h2 := hb_ecw ((4, 1, 0, 1, 0) :: (0, 1, 0, 0, 0) :: (0, 8, 14, 0, 0) :: (0, 0, 1, 0, 0) :: (6, 1, 60, 3, 261) :: []) (by decide +kernel) h
  exact h2
theorem eg59_137_245_1 {n : Nat} {w : px_W} {r : Option Value × px_W} {x1 x2 s0 : Int} (h : ec_E hb_X n 59 245 [(0, .inr (.inl 201)), (1, .inl x1), (2, .inl x2)] [.inl s0] w r) : ec_tw s0 ≠ ec_tw 0 → True ∧ r = (ec_R 323, w) ∧ ec_W hb_A w := by
  have h2 := hb_ecw ((4, 1, 1, 0, 0) :: (0, 2, 0, 0, 323) :: (4, 0, 0, 0, 0) :: (6, 3, 0, 0, 0) :: []) (by decide +kernel) h
  exact h2
theorem eg59_137_147_0 {n : Nat} {w : px_W} {r : Option Value × px_W} {x1 x2 s0 : Int} (h : ec_E hb_X n 59 147 [(0, .inr (.inl 201)), (1, .inl x1), (2, .inl x2)] [.inl s0] w r) : ec_tw s0 = ec_tw 0 → True ∧ r = (ec_R 302, w) ∧ ec_W hb_A w := by
  have h2 := hb_ecw ((4, 1, 0, 1, 0) :: (0, 2, 0, 0, 302) :: (6, 3, 0, 0, 0) :: []) (by decide +kernel) h
  exact h2
theorem eg59_137_147_1 {n : Nat} {w : px_W} {r : Option Value × px_W} {x1 x2 s0 : Int} (h : ec_E hb_X n 59 147 [(0, .inr (.inl 201)), (1, .inl x1), (2, .inl x2)] [.inl s0] w r) : ec_tw s0 ≠ ec_tw 0 → True ∧ r = (ec_R 324, w) ∧ ec_W hb_A w := by
  have h2 := hb_ecw ((4, 1, 1, 0, 0) :: (0, 2, 0, 0, 324) :: (4, 0, 0, 0, 0) :: (6, 3, 0, 0, 0) :: []) (by decide +kernel) h
  exact h2
theorem eg59_137_261_0 {n : Nat} {w : px_W} {r : Option Value × px_W} {x1 x2 s0 : Int} (h : ec_E hb_X n 59 261 [(0, .inr (.inl 201)), (1, .inl x1), (2, .inl x2)] [.inl s0] w r) : ec_tw s0 = ec_tw 0 → True ∧ r = (ec_R 302, w) ∧ ec_W hb_A w := by
  have h2 := hb_ecw ((4, 1, 0, 1, 0) :: (0, 2, 0, 0, 302) :: (6, 3, 0, 0, 0) :: []) (by decide +kernel) h
  exact h2
theorem eg59_137_261_1 {n : Nat} {w : px_W} {r : Option Value × px_W} {x1 x2 s0 : Int} (h : ec_E hb_X n 59 261 [(0, .inr (.inl 201)), (1, .inl x1), (2, .inl x2)] [.inl s0] w r) : ec_tw s0 ≠ ec_tw 0 → True ∧ r = (ec_R 325, w) ∧ ec_W hb_A w := by
  have h2 := hb_ecw ((4, 1, 1, 0, 0) :: (0, 2, 0, 0, 325) :: (4, 0, 0, 0, 0) :: (6, 3, 0, 0, 0) :: []) (by decide +kernel) h
  exact h2
/-! X5_scan -/
theorem eg54_137_0_0 {n : Nat} {w : px_W} {r : Option Value × px_W} (h : ec_E hb_X n 54 0 [(0, .inr (.inl 201))] [] w r) : True ∧ ec_E hb_X n 54 7 [(0, .inr (.inl 201)), (1, .inl 0)] [] (ec_pf w 137 5 0) r := by
  have h2 := hb_ecw ((0, 1, 0, 0, 0) :: (0, 2, 0, 0, 0) :: (5, 4, 137, 5, 0) :: (0, 2, 0, 0, 0) :: (0, 3, 1, 0, 0) :: (6, 0, 7, 2, 0) :: []) (by decide +kernel) h
  exact h2
theorem eg54_137_7_0 {n : Nat} {w : px_W} {r : Option Value × px_W} {x1 : Int} (h : ec_E hb_X n 54 7 [(0, .inr (.inl 201)), (1, .inl x1)] [] w r) : ec_tw (ec_fd w 137 0) ≤ ec_tw x1 → True ∧ ∃ (v : Option Value) (w1 : px_W), ec_E hb_X n 55 0 [(0, .inr (.inl 201)), (1, .inl 300), (2, .inl (ec_fd w 137 0)), (3, .inl 0)] [] w (v, w1) ∧ (v = none → ec_W hb_A w1 → ec_E hb_X n 54 167 [(0, .inr (.inl 201)), (1, .inl x1)] [] w1 r) := by
  have h2 := hb_ecw ((0, 0, 1, 0, 0) :: (0, 1, 0, 0, 0) :: (5, 0, 137, 0, 0) :: (4, 2, 3, 1, 0) :: (0, 1, 0, 0, 0) :: (0, 2, 0, 0, 300) :: (0, 1, 0, 0, 0) :: (5, 0, 137, 0, 0) :: (0, 2, 0, 0, 0) :: (6, 2, 55, 4, 167) :: []) (by decide +kernel) h
  exact h2
theorem eg54_137_7_1 {n : Nat} {w : px_W} {r : Option Value × px_W} {x1 : Int} (h : ec_E hb_X n 54 7 [(0, .inr (.inl 201)), (1, .inl x1)] [] w r) : ec_tw x1 < ec_tw (ec_fd w 137 0) → (True ∧ 0 ≤ ec_tw x1 ∧ ec_tw x1 < 200) ∧ ∃ (v : Option Value) (w1 : px_W), ec_E hb_X n 56 0 [(0, .inl (ec_rd w 138 (ec_tw x1)))] [] w (v, w1) ∧ ∀ zz : Int, v = ec_R zz → ec_W hb_A w1 → ec_E hb_X n 54 28 [(0, .inr (.inl 201)), (1, .inl x1), (2, .inl (x1 + 1))] [.inl zz] w1 r := by
  have h2 := hb_ecw ((0, 0, 1, 0, 0) :: (0, 1, 0, 0, 0) :: (5, 0, 137, 0, 0) :: (4, 2, 2, 0, 0) :: (0, 0, 1, 0, 0) :: (0, 2, 0, 0, 1) :: (1, 0, 0, 0, 0) :: (0, 3, 2, 0, 0) :: (0, 1, 0, 0, 0) :: (5, 1, 137, 202, 0) :: (0, 0, 1, 0, 0) :: (5, 2, 138, 0, 200) :: (6, 1, 56, 1, 28) :: []) (by decide +kernel) h
  exact h2
theorem eg54_137_167_0 {n : Nat} {w : px_W} {r : Option Value × px_W} {x1 : Int} (h : ec_E hb_X n 54 167 [(0, .inr (.inl 201)), (1, .inl x1)] [] w r) : True ∧ r = (none, w) ∧ ec_W hb_A w := by
  have h2 := hb_ecw ((6, 4, 0, 0, 0) :: []) (by decide +kernel) h
  exact h2
theorem eg54_137_28_0 {n : Nat} {w : px_W} {r : Option Value × px_W} {x1 x2 s0 : Int} (h : ec_E hb_X n 54 28 [(0, .inr (.inl 201)), (1, .inl x1), (2, .inl x2)] [.inl s0] w r) : ec_tw s0 = ec_tw 0 → (True ∧ 0 ≤ ec_tw x1 ∧ ec_tw x1 < 200) ∧ ∃ (v : Option Value) (w1 : px_W), ec_E hb_X n 57 0 [(0, .inl (ec_rd w 138 (ec_tw x1)))] [] w (v, w1) ∧ ∀ zz : Int, v = ec_R zz → ec_W hb_A w1 → ec_E hb_X n 54 81 [(0, .inr (.inl 201)), (1, .inl x1), (2, .inl x2)] [.inl zz] w1 r := by
  have h2 := hb_ecw ((4, 1, 0, 1, 0) :: (0, 1, 0, 0, 0) :: (5, 1, 137, 202, 0) :: (0, 0, 1, 0, 0) :: (5, 2, 138, 0, 200) :: (6, 1, 57, 1, 81) :: []) (by decide +kernel) h
  exact h2
theorem eg54_137_28_1 {n : Nat} {w : px_W} {r : Option Value × px_W} {x1 x2 s0 : Int} (h : ec_E hb_X n 54 28 [(0, .inr (.inl 201)), (1, .inl x1), (2, .inl x2)] [.inl s0] w r) : ec_tw s0 ≠ ec_tw 0 → True ∧ ec_E hb_X n 54 31 [(0, .inr (.inl 201)), (1, .inl x1), (2, .inl x2)] [] w r := by
  have h2 := hb_ecw ((4, 1, 1, 0, 0) :: (6, 0, 31, 3, 0) :: []) (by decide +kernel) h
  exact h2
theorem eg54_137_81_0 {n : Nat} {w : px_W} {r : Option Value × px_W} {x1 x2 s0 : Int} (h : ec_E hb_X n 54 81 [(0, .inr (.inl 201)), (1, .inl x1), (2, .inl x2)] [.inl s0] w r) : ec_tw s0 = ec_tw 0 → ec_tw (ec_rd w 138 (ec_tw x1)) = ec_tw 32 → (True ∧ 0 ≤ ec_tw x1 ∧ ec_tw x1 < 200) ∧ ec_E hb_X n 54 7 [(0, .inr (.inl 201)), (1, .inl x2)] [] w r := by
  have h2 := hb_ecw ((4, 1, 0, 1, 0) :: (0, 1, 0, 0, 0) :: (5, 1, 137, 202, 0) :: (0, 0, 1, 0, 0) :: (5, 2, 138, 0, 200) :: (0, 2, 0, 0, 32) :: (4, 2, 0, 1, 0) :: (0, 0, 2, 0, 0) :: (0, 3, 1, 0, 0) :: (4, 0, 0, 0, 0) :: (6, 0, 7, 2, 0) :: []) (by decide +kernel) h
  exact h2
theorem eg54_137_81_1 {n : Nat} {w : px_W} {r : Option Value × px_W} {x1 x2 s0 : Int} (h : ec_E hb_X n 54 81 [(0, .inr (.inl 201)), (1, .inl x1), (2, .inl x2)] [.inl s0] w r) : ec_tw s0 = ec_tw 0 → ec_tw (ec_rd w 138 (ec_tw x1)) ≠ ec_tw 32 → ((True ∧ 0 ≤ ec_tw x1 ∧ ec_tw x1 < 200) ∧ 0 ≤ ec_tw x1 ∧ ec_tw x1 < 200) ∧ ∃ (v : Option Value) (w1 : px_W), ec_E hb_X n 55 0 [(0, .inr (.inl 201)), (1, .inl (ec_rd w 138 (ec_tw x1))), (2, .inl x1), (3, .inl 0)] [] w (v, w1) ∧ (v = none → ec_W hb_A w1 → ec_E hb_X n 54 150 [(0, .inr (.inl 201)), (1, .inl x1), (2, .inl x2)] [] w1 r) := by
  have h2 := hb_ecw ((4, 1, 0, 1, 0) :: (0, 1, 0, 0, 0) :: (5, 1, 137, 202, 0) :: (0, 0, 1, 0, 0) :: (5, 2, 138, 0, 200) :: (0, 2, 0, 0, 32) :: (4, 2, 1, 0, 0) :: (0, 1, 0, 0, 0) :: (0, 1, 0, 0, 0) :: (5, 1, 137, 202, 0) :: (0, 0, 1, 0, 0) :: (5, 2, 138, 0, 200) :: (0, 0, 1, 0, 0) :: (0, 2, 0, 0, 0) :: (6, 2, 55, 4, 150) :: []) (by decide +kernel) h
  exact h2
theorem eg54_137_81_2 {n : Nat} {w : px_W} {r : Option Value × px_W} {x1 x2 s0 : Int} (h : ec_E hb_X n 54 81 [(0, .inr (.inl 201)), (1, .inl x1), (2, .inl x2)] [.inl s0] w r) : ec_tw s0 ≠ ec_tw 0 → True ∧ ec_E hb_X n 54 84 [(0, .inr (.inl 201)), (1, .inl x1), (2, .inl x2)] [] w r := by
  have h2 := hb_ecw ((4, 1, 1, 0, 0) :: (6, 0, 84, 3, 0) :: []) (by decide +kernel) h
  exact h2
theorem eg54_137_31_0 {n : Nat} {w : px_W} {r : Option Value × px_W} {x1 x2 : Int} (h : ec_E hb_X n 54 31 [(0, .inr (.inl 201)), (1, .inl x1), (2, .inl x2)] [] w r) : ec_tw (ec_fd w 137 0) ≤ ec_tw x2 → True ∧ ∃ (v : Option Value) (w1 : px_W), ec_E hb_X n 59 0 [(0, .inr (.inl 201)), (1, .inl x1), (2, .inl x2)] [] w (v, w1) ∧ ∀ zz : Int, v = ec_R zz → ec_W hb_A w1 → ec_E hb_X n 54 64 [(0, .inr (.inl 201)), (1, .inl x1), (2, .inl x2)] [.inl zz, .inr (.inl 201)] w1 r := by
  have h2 := hb_ecw ((0, 0, 2, 0, 0) :: (0, 1, 0, 0, 0) :: (5, 0, 137, 0, 0) :: (4, 2, 3, 1, 0) :: (0, 1, 0, 0, 0) :: (0, 1, 0, 0, 0) :: (0, 0, 1, 0, 0) :: (0, 0, 2, 0, 0) :: (6, 1, 59, 3, 64) :: []) (by decide +kernel) h
  exact h2
theorem eg54_137_31_1 {n : Nat} {w : px_W} {r : Option Value × px_W} {x1 x2 : Int} (h : ec_E hb_X n 54 31 [(0, .inr (.inl 201)), (1, .inl x1), (2, .inl x2)] [] w r) : ec_tw x2 < ec_tw (ec_fd w 137 0) → (True ∧ 0 ≤ ec_tw x2 ∧ ec_tw x2 < 200) ∧ ∃ (v : Option Value) (w1 : px_W), ec_E hb_X n 56 0 [(0, .inl (ec_rd w 138 (ec_tw x2)))] [] w (v, w1) ∧ ∀ zz : Int, v = ec_R zz → ec_W hb_A w1 → ec_E hb_X n 54 48 [(0, .inr (.inl 201)), (1, .inl x1), (2, .inl x2)] [.inl zz] w1 r := by
  have h2 := hb_ecw ((0, 0, 2, 0, 0) :: (0, 1, 0, 0, 0) :: (5, 0, 137, 0, 0) :: (4, 2, 2, 0, 0) :: (0, 1, 0, 0, 0) :: (5, 1, 137, 202, 0) :: (0, 0, 2, 0, 0) :: (5, 2, 138, 0, 200) :: (6, 1, 56, 1, 48) :: []) (by decide +kernel) h
  exact h2
theorem eg54_137_150_0 {n : Nat} {w : px_W} {r : Option Value × px_W} {x1 x2 : Int} (h : ec_E hb_X n 54 150 [(0, .inr (.inl 201)), (1, .inl x1), (2, .inl x2)] [] w r) : True ∧ ec_E hb_X n 54 7 [(0, .inr (.inl 201)), (1, .inl x2)] [] w r := by
  have h2 := hb_ecw ((0, 0, 2, 0, 0) :: (0, 3, 1, 0, 0) :: (4, 0, 0, 0, 0) :: (6, 0, 7, 2, 0) :: []) (by decide +kernel) h
  exact h2
theorem eg54_137_84_0 {n : Nat} {w : px_W} {r : Option Value × px_W} {x1 x2 : Int} (h : ec_E hb_X n 54 84 [(0, .inr (.inl 201)), (1, .inl x1), (2, .inl x2)] [] w r) : ec_tw (ec_fd w 137 0) ≤ ec_tw x2 → True ∧ ∃ (v : Option Value) (w1 : px_W), ec_E hb_X n 58 0 [(0, .inr (.inl 201)), (1, .inl x1), (2, .inl x2)] [] w (v, w1) ∧ ∀ zz : Int, v = ec_R zz → ec_W hb_A w1 → ec_E hb_X n 54 121 [(0, .inr (.inl 201)), (1, .inl x1), (2, .inl x2)] [.inl zz, .inl x1, .inl 301, .inr (.inl 201)] w1 r := by
  have h2 := hb_ecw ((0, 0, 2, 0, 0) :: (0, 1, 0, 0, 0) :: (5, 0, 137, 0, 0) :: (4, 2, 3, 1, 0) :: (0, 1, 0, 0, 0) :: (0, 2, 0, 0, 301) :: (0, 0, 1, 0, 0) :: (0, 1, 0, 0, 0) :: (0, 0, 1, 0, 0) :: (0, 0, 2, 0, 0) :: (6, 1, 58, 3, 121) :: []) (by decide +kernel) h
  exact h2
theorem eg54_137_84_1 {n : Nat} {w : px_W} {r : Option Value × px_W} {x1 x2 : Int} (h : ec_E hb_X n 54 84 [(0, .inr (.inl 201)), (1, .inl x1), (2, .inl x2)] [] w r) : ec_tw x2 < ec_tw (ec_fd w 137 0) → (True ∧ 0 ≤ ec_tw x2 ∧ ec_tw x2 < 200) ∧ ∃ (v : Option Value) (w1 : px_W), ec_E hb_X n 57 0 [(0, .inl (ec_rd w 138 (ec_tw x2)))] [] w (v, w1) ∧ ∀ zz : Int, v = ec_R zz → ec_W hb_A w1 → ec_E hb_X n 54 101 [(0, .inr (.inl 201)), (1, .inl x1), (2, .inl x2)] [.inl zz] w1 r := by
  have h2 := hb_ecw ((0, 0, 2, 0, 0) :: (0, 1, 0, 0, 0) :: (5, 0, 137, 0, 0) :: (4, 2, 2, 0, 0) :: (0, 1, 0, 0, 0) :: (5, 1, 137, 202, 0) :: (0, 0, 2, 0, 0) :: (5, 2, 138, 0, 200) :: (6, 1, 57, 1, 101) :: []) (by decide +kernel) h
  exact h2
theorem eg54_137_64_0 {n : Nat} {w : px_W} {r : Option Value × px_W} {x1 x2 s1 : Int} (h : ec_E hb_X n 54 64 [(0, .inr (.inl 201)), (1, .inl x1), (2, .inl x2)] [.inl s1, .inr (.inl 201)] w r) : True ∧ ∃ (v : Option Value) (w1 : px_W), ec_E hb_X n 55 0 [(0, .inr (.inl 201)), (1, .inl s1), (2, .inl x1), (3, .inl 0)] [] w (v, w1) ∧ (v = none → ec_W hb_A w1 → ec_E hb_X n 54 69 [(0, .inr (.inl 201)), (1, .inl x1), (2, .inl x2)] [] w1 r) := by
  have h2 := hb_ecw ((0, 0, 1, 0, 0) :: (0, 2, 0, 0, 0) :: (6, 2, 55, 4, 69) :: []) (by decide +kernel) h
  exact h2
theorem eg54_137_48_0 {n : Nat} {w : px_W} {r : Option Value × px_W} {x1 x2 s0 : Int} (h : ec_E hb_X n 54 48 [(0, .inr (.inl 201)), (1, .inl x1), (2, .inl x2)] [.inl s0] w r) : ec_tw s0 = ec_tw 0 → True ∧ ∃ (v : Option Value) (w1 : px_W), ec_E hb_X n 59 0 [(0, .inr (.inl 201)), (1, .inl x1), (2, .inl x2)] [] w (v, w1) ∧ ∀ zz : Int, v = ec_R zz → ec_W hb_A w1 → ec_E hb_X n 54 64 [(0, .inr (.inl 201)), (1, .inl x1), (2, .inl x2)] [.inl zz, .inr (.inl 201)] w1 r := by
  have h2 := hb_ecw ((4, 1, 0, 1, 0) :: (0, 1, 0, 0, 0) :: (0, 1, 0, 0, 0) :: (0, 0, 1, 0, 0) :: (0, 0, 2, 0, 0) :: (6, 1, 59, 3, 64) :: []) (by decide +kernel) h
  exact h2
theorem eg54_137_48_1 {n : Nat} {w : px_W} {r : Option Value × px_W} {x1 x2 s0 : Int} (h : ec_E hb_X n 54 48 [(0, .inr (.inl 201)), (1, .inl x1), (2, .inl x2)] [.inl s0] w r) : ec_tw s0 ≠ ec_tw 0 → True ∧ ec_E hb_X n 54 31 [(0, .inr (.inl 201)), (1, .inl x1), (2, .inl (x2 + 1))] [] w r := by
  have h2 := hb_ecw ((4, 1, 1, 0, 0) :: (0, 5, 2, 0, 1) :: (4, 0, 0, 0, 0) :: (6, 0, 31, 3, 0) :: []) (by decide +kernel) h
  exact h2
theorem eg54_137_121_0 {n : Nat} {w : px_W} {r : Option Value × px_W} {x1 x2 s1 s2 s3 : Int} (h : ec_E hb_X n 54 121 [(0, .inr (.inl 201)), (1, .inl x1), (2, .inl x2)] [.inl s3, .inl s2, .inl s1, .inr (.inl 201)] w r) : True ∧ ∃ (v : Option Value) (w1 : px_W), ec_E hb_X n 55 0 [(0, .inr (.inl 201)), (1, .inl s1), (2, .inl s2), (3, .inl s3)] [] w (v, w1) ∧ (v = none → ec_W hb_A w1 → ec_E hb_X n 54 124 [(0, .inr (.inl 201)), (1, .inl x1), (2, .inl x2)] [] w1 r) := by
  have h2 := hb_ecw ((6, 2, 55, 4, 124) :: []) (by decide +kernel) h
  exact h2
theorem eg54_137_101_0 {n : Nat} {w : px_W} {r : Option Value × px_W} {x1 x2 s0 : Int} (h : ec_E hb_X n 54 101 [(0, .inr (.inl 201)), (1, .inl x1), (2, .inl x2)] [.inl s0] w r) : ec_tw s0 = ec_tw 0 → True ∧ ∃ (v : Option Value) (w1 : px_W), ec_E hb_X n 58 0 [(0, .inr (.inl 201)), (1, .inl x1), (2, .inl x2)] [] w (v, w1) ∧ ∀ zz : Int, v = ec_R zz → ec_W hb_A w1 → ec_E hb_X n 54 121 [(0, .inr (.inl 201)), (1, .inl x1), (2, .inl x2)] [.inl zz, .inl x1, .inl 301, .inr (.inl 201)] w1 r := by
  have h2 := hb_ecw ((4, 1, 0, 1, 0) :: (0, 1, 0, 0, 0) :: (0, 2, 0, 0, 301) :: (0, 0, 1, 0, 0) :: (0, 1, 0, 0, 0) :: (0, 0, 1, 0, 0) :: (0, 0, 2, 0, 0) :: (6, 1, 58, 3, 121) :: []) (by decide +kernel) h
  exact h2
theorem eg54_137_101_1 {n : Nat} {w : px_W} {r : Option Value × px_W} {x1 x2 s0 : Int} (h : ec_E hb_X n 54 101 [(0, .inr (.inl 201)), (1, .inl x1), (2, .inl x2)] [.inl s0] w r) : ec_tw s0 ≠ ec_tw 0 → True ∧ ec_E hb_X n 54 84 [(0, .inr (.inl 201)), (1, .inl x1), (2, .inl (x2 + 1))] [] w r := by
  have h2 := hb_ecw ((4, 1, 1, 0, 0) :: (0, 5, 2, 0, 1) :: (4, 0, 0, 0, 0) :: (6, 0, 84, 3, 0) :: []) (by decide +kernel) h
  exact h2
theorem eg54_137_69_0 {n : Nat} {w : px_W} {r : Option Value × px_W} {x1 x2 : Int} (h : ec_E hb_X n 54 69 [(0, .inr (.inl 201)), (1, .inl x1), (2, .inl x2)] [] w r) : True ∧ ec_E hb_X n 54 7 [(0, .inr (.inl 201)), (1, .inl x2)] [] w r := by
  have h2 := hb_ecw ((4, 0, 0, 0, 0) :: (0, 0, 2, 0, 0) :: (0, 3, 1, 0, 0) :: (4, 0, 0, 0, 0) :: (6, 0, 7, 2, 0) :: []) (by decide +kernel) h
  exact h2
theorem eg54_137_124_0 {n : Nat} {w : px_W} {r : Option Value × px_W} {x1 x2 : Int} (h : ec_E hb_X n 54 124 [(0, .inr (.inl 201)), (1, .inl x1), (2, .inl x2)] [] w r) : True ∧ ec_E hb_X n 54 7 [(0, .inr (.inl 201)), (1, .inl x2)] [] w r := by
  have h2 := hb_ecw ((4, 0, 0, 0, 0) :: (0, 0, 2, 0, 0) :: (0, 3, 1, 0, 0) :: (4, 0, 0, 0, 0) :: (6, 0, 7, 2, 0) :: []) (by decide +kernel) h
  exact h2
/-! X5_is -/
theorem eg60_137_t1_0_0 {n : Nat} {w : px_W} {r : Option Value × px_W} {x2 : Int} (h : ec_E hb_X n 60 0 [(0, .inr (.inl 201)), (1, .inr (.inl 1)), (2, .inl x2)] [] w r) : True ∧ ec_E hb_X n 60 2 [(0, .inr (.inl 201)), (1, .inr (.inl 1)), (2, .inl x2), (3, .inl 0)] [] w r := by
  have h2 := hb_ecw ((0, 2, 0, 0, 0) :: (0, 3, 3, 0, 0) :: (6, 0, 2, 4, 0) :: []) (by decide +kernel) h
  exact h2
theorem eg60_137_t1_2_0 {n : Nat} {w : px_W} {r : Option Value × px_W} {x2 x3 : Int} (h : ec_E hb_X n 60 2 [(0, .inr (.inl 201)), (1, .inr (.inl 1)), (2, .inl x2), (3, .inl x3)] [] w r) : True ∧ ∃ (v : Option Value) (w1 : px_W), ec_E hb_X n 295 0 [(0, .inr (.inl 1))] [] w (v, w1) ∧ ∀ zz : Int, v = ec_R zz → ec_W hb_A w1 → ec_E hb_X n 60 7 [(0, .inr (.inl 201)), (1, .inr (.inl 1)), (2, .inl x2), (3, .inl x3)] [.inl zz, .inl x3] w1 r := by
  have h2 := hb_ecw ((0, 0, 3, 0, 0) :: (0, 1, 1, 0, 0) :: (6, 1, 295, 1, 7) :: []) (by decide +kernel) h
  exact h2
theorem eg60_137_t1_7_0 {n : Nat} {w : px_W} {r : Option Value × px_W} {x2 x3 s0 s1 : Int} (h : ec_E hb_X n 60 7 [(0, .inr (.inl 201)), (1, .inr (.inl 1)), (2, .inl x2), (3, .inl x3)] [.inl s1, .inl s0] w r) : ec_tw s1 ≤ ec_tw s0 → True ∧ r = (ec_R 1, w) ∧ ec_W hb_A w := by
  have h2 := hb_ecw ((4, 2, 3, 1, 0) :: (0, 2, 0, 0, 1) :: (6, 3, 0, 0, 0) :: []) (by decide +kernel) h
  exact h2
theorem eg60_137_t1_7_1 {n : Nat} {w : px_W} {r : Option Value × px_W} {x2 x3 s0 s1 : Int} (h : ec_E hb_X n 60 7 [(0, .inr (.inl 201)), (1, .inr (.inl 1)), (2, .inl x2), (3, .inl x3)] [.inl s1, .inl s0] w r) : ec_tw s0 < ec_tw s1 → ec_tw (ec_fd w 137 0) ≤ ec_tw (x2 + x3) → True ∧ r = (ec_R 0, w) ∧ ec_W hb_A w := by
  have h2 := hb_ecw ((4, 2, 2, 0, 0) :: (0, 0, 2, 0, 0) :: (0, 0, 3, 0, 0) :: (1, 0, 0, 0, 0) :: (0, 1, 0, 0, 0) :: (5, 0, 137, 0, 0) :: (4, 2, 3, 1, 0) :: (0, 2, 0, 0, 0) :: (6, 3, 0, 0, 0) :: []) (by decide +kernel) h
  exact h2
theorem eg60_137_t1_7_2 {n : Nat} {w : px_W} {r : Option Value × px_W} {x2 x3 s0 s1 : Int} (h : ec_E hb_X n 60 7 [(0, .inr (.inl 201)), (1, .inr (.inl 1)), (2, .inl x2), (3, .inl x3)] [.inl s1, .inl s0] w r) : ec_tw s0 < ec_tw s1 → ec_tw (x2 + x3) < ec_tw (ec_fd w 137 0) → (True ∧ 0 ≤ ec_tw (x2 + x3) ∧ ec_tw (x2 + x3) < 200) ∧ ∃ (v : Option Value) (w1 : px_W), ec_E hb_X n 296 0 [(0, .inr (.inl 1)), (1, .inl x3)] [] w (v, w1) ∧ ∀ zz : Int, v = ec_R zz → ec_W hb_A w1 → ec_E hb_X n 60 33 [(0, .inr (.inl 201)), (1, .inr (.inl 1)), (2, .inl x2), (3, .inl x3)] [.inl zz, .inl (ec_rd w 138 (ec_tw (x2 + x3)))] w1 r := by
  have h2 := hb_ecw ((4, 2, 2, 0, 0) :: (0, 0, 2, 0, 0) :: (0, 0, 3, 0, 0) :: (1, 0, 0, 0, 0) :: (0, 1, 0, 0, 0) :: (5, 0, 137, 0, 0) :: (4, 2, 2, 0, 0) :: (0, 1, 0, 0, 0) :: (5, 1, 137, 202, 0) :: (0, 0, 2, 0, 0) :: (0, 0, 3, 0, 0) :: (1, 0, 0, 0, 0) :: (5, 2, 138, 0, 200) :: (0, 1, 1, 0, 0) :: (0, 0, 3, 0, 0) :: (6, 1, 296, 2, 33) :: []) (by decide +kernel) h
  exact h2
theorem eg60_137_t1_33_0 {n : Nat} {w : px_W} {r : Option Value × px_W} {x2 x3 s0 s1 : Int} (h : ec_E hb_X n 60 33 [(0, .inr (.inl 201)), (1, .inr (.inl 1)), (2, .inl x2), (3, .inl x3)] [.inl s1, .inl s0] w r) : ec_tw s0 = ec_tw s1 → True ∧ ec_E hb_X n 60 2 [(0, .inr (.inl 201)), (1, .inr (.inl 1)), (2, .inl x2), (3, .inl (x3 + 1))] [] w r := by
  have h2 := hb_ecw ((4, 2, 0, 1, 0) :: (0, 5, 3, 0, 1) :: (4, 0, 0, 0, 0) :: (6, 0, 2, 4, 0) :: []) (by decide +kernel) h
  exact h2
theorem eg60_137_t1_33_1 {n : Nat} {w : px_W} {r : Option Value × px_W} {x2 x3 s0 s1 : Int} (h : ec_E hb_X n 60 33 [(0, .inr (.inl 201)), (1, .inr (.inl 1)), (2, .inl x2), (3, .inl x3)] [.inl s1, .inl s0] w r) : ec_tw s0 ≠ ec_tw s1 → True ∧ r = (ec_R 0, w) ∧ ec_W hb_A w := by
  have h2 := hb_ecw ((4, 2, 1, 0, 0) :: (0, 2, 0, 0, 0) :: (6, 3, 0, 0, 0) :: []) (by decide +kernel) h
  exact h2
/-! X5_is -/
theorem eg60_137_t2_0_0 {n : Nat} {w : px_W} {r : Option Value × px_W} {x2 : Int} (h : ec_E hb_X n 60 0 [(0, .inr (.inl 201)), (1, .inr (.inl 2)), (2, .inl x2)] [] w r) : True ∧ ec_E hb_X n 60 2 [(0, .inr (.inl 201)), (1, .inr (.inl 2)), (2, .inl x2), (3, .inl 0)] [] w r := by
  have h2 := hb_ecw ((0, 2, 0, 0, 0) :: (0, 3, 3, 0, 0) :: (6, 0, 2, 4, 0) :: []) (by decide +kernel) h
  exact h2
theorem eg60_137_t2_2_0 {n : Nat} {w : px_W} {r : Option Value × px_W} {x2 x3 : Int} (h : ec_E hb_X n 60 2 [(0, .inr (.inl 201)), (1, .inr (.inl 2)), (2, .inl x2), (3, .inl x3)] [] w r) : True ∧ ∃ (v : Option Value) (w1 : px_W), ec_E hb_X n 295 0 [(0, .inr (.inl 2))] [] w (v, w1) ∧ ∀ zz : Int, v = ec_R zz → ec_W hb_A w1 → ec_E hb_X n 60 7 [(0, .inr (.inl 201)), (1, .inr (.inl 2)), (2, .inl x2), (3, .inl x3)] [.inl zz, .inl x3] w1 r := by
  have h2 := hb_ecw ((0, 0, 3, 0, 0) :: (0, 1, 1, 0, 0) :: (6, 1, 295, 1, 7) :: []) (by decide +kernel) h
  exact h2
theorem eg60_137_t2_7_0 {n : Nat} {w : px_W} {r : Option Value × px_W} {x2 x3 s0 s1 : Int} (h : ec_E hb_X n 60 7 [(0, .inr (.inl 201)), (1, .inr (.inl 2)), (2, .inl x2), (3, .inl x3)] [.inl s1, .inl s0] w r) : ec_tw s1 ≤ ec_tw s0 → True ∧ r = (ec_R 1, w) ∧ ec_W hb_A w := by
  have h2 := hb_ecw ((4, 2, 3, 1, 0) :: (0, 2, 0, 0, 1) :: (6, 3, 0, 0, 0) :: []) (by decide +kernel) h
  exact h2
theorem eg60_137_t2_7_1 {n : Nat} {w : px_W} {r : Option Value × px_W} {x2 x3 s0 s1 : Int} (h : ec_E hb_X n 60 7 [(0, .inr (.inl 201)), (1, .inr (.inl 2)), (2, .inl x2), (3, .inl x3)] [.inl s1, .inl s0] w r) : ec_tw s0 < ec_tw s1 → ec_tw (ec_fd w 137 0) ≤ ec_tw (x2 + x3) → True ∧ r = (ec_R 0, w) ∧ ec_W hb_A w := by
  have h2 := hb_ecw ((4, 2, 2, 0, 0) :: (0, 0, 2, 0, 0) :: (0, 0, 3, 0, 0) :: (1, 0, 0, 0, 0) :: (0, 1, 0, 0, 0) :: (5, 0, 137, 0, 0) :: (4, 2, 3, 1, 0) :: (0, 2, 0, 0, 0) :: (6, 3, 0, 0, 0) :: []) (by decide +kernel) h
  exact h2
theorem eg60_137_t2_7_2 {n : Nat} {w : px_W} {r : Option Value × px_W} {x2 x3 s0 s1 : Int} (h : ec_E hb_X n 60 7 [(0, .inr (.inl 201)), (1, .inr (.inl 2)), (2, .inl x2), (3, .inl x3)] [.inl s1, .inl s0] w r) : ec_tw s0 < ec_tw s1 → ec_tw (x2 + x3) < ec_tw (ec_fd w 137 0) → (True ∧ 0 ≤ ec_tw (x2 + x3) ∧ ec_tw (x2 + x3) < 200) ∧ ∃ (v : Option Value) (w1 : px_W), ec_E hb_X n 296 0 [(0, .inr (.inl 2)), (1, .inl x3)] [] w (v, w1) ∧ ∀ zz : Int, v = ec_R zz → ec_W hb_A w1 → ec_E hb_X n 60 33 [(0, .inr (.inl 201)), (1, .inr (.inl 2)), (2, .inl x2), (3, .inl x3)] [.inl zz, .inl (ec_rd w 138 (ec_tw (x2 + x3)))] w1 r := by
  have h2 := hb_ecw ((4, 2, 2, 0, 0) :: (0, 0, 2, 0, 0) :: (0, 0, 3, 0, 0) :: (1, 0, 0, 0, 0) :: (0, 1, 0, 0, 0) :: (5, 0, 137, 0, 0) :: (4, 2, 2, 0, 0) :: (0, 1, 0, 0, 0) :: (5, 1, 137, 202, 0) :: (0, 0, 2, 0, 0) :: (0, 0, 3, 0, 0) :: (1, 0, 0, 0, 0) :: (5, 2, 138, 0, 200) :: (0, 1, 1, 0, 0) :: (0, 0, 3, 0, 0) :: (6, 1, 296, 2, 33) :: []) (by decide +kernel) h
  exact h2
theorem eg60_137_t2_33_0 {n : Nat} {w : px_W} {r : Option Value × px_W} {x2 x3 s0 s1 : Int} (h : ec_E hb_X n 60 33 [(0, .inr (.inl 201)), (1, .inr (.inl 2)), (2, .inl x2), (3, .inl x3)] [.inl s1, .inl s0] w r) : ec_tw s0 = ec_tw s1 → True ∧ ec_E hb_X n 60 2 [(0, .inr (.inl 201)), (1, .inr (.inl 2)), (2, .inl x2), (3, .inl (x3 + 1))] [] w r := by
  have h2 := hb_ecw ((4, 2, 0, 1, 0) :: (0, 5, 3, 0, 1) :: (4, 0, 0, 0, 0) :: (6, 0, 2, 4, 0) :: []) (by decide +kernel) h
  exact h2
theorem eg60_137_t2_33_1 {n : Nat} {w : px_W} {r : Option Value × px_W} {x2 x3 s0 s1 : Int} (h : ec_E hb_X n 60 33 [(0, .inr (.inl 201)), (1, .inr (.inl 2)), (2, .inl x2), (3, .inl x3)] [.inl s1, .inl s0] w r) : ec_tw s0 ≠ ec_tw s1 → True ∧ r = (ec_R 0, w) ∧ ec_W hb_A w := by
  have h2 := hb_ecw ((4, 2, 1, 0, 0) :: (0, 2, 0, 0, 0) :: (6, 3, 0, 0, 0) :: []) (by decide +kernel) h
  exact h2
/-! X5_is -/
theorem eg60_137_t3_0_0 {n : Nat} {w : px_W} {r : Option Value × px_W} {x2 : Int} (h : ec_E hb_X n 60 0 [(0, .inr (.inl 201)), (1, .inr (.inl 3)), (2, .inl x2)] [] w r) : True ∧ ec_E hb_X n 60 2 [(0, .inr (.inl 201)), (1, .inr (.inl 3)), (2, .inl x2), (3, .inl 0)] [] w r := by
  have h2 := hb_ecw ((0, 2, 0, 0, 0) :: (0, 3, 3, 0, 0) :: (6, 0, 2, 4, 0) :: []) (by decide +kernel) h
  exact h2
theorem eg60_137_t3_2_0 {n : Nat} {w : px_W} {r : Option Value × px_W} {x2 x3 : Int} (h : ec_E hb_X n 60 2 [(0, .inr (.inl 201)), (1, .inr (.inl 3)), (2, .inl x2), (3, .inl x3)] [] w r) : True ∧ ∃ (v : Option Value) (w1 : px_W), ec_E hb_X n 295 0 [(0, .inr (.inl 3))] [] w (v, w1) ∧ ∀ zz : Int, v = ec_R zz → ec_W hb_A w1 → ec_E hb_X n 60 7 [(0, .inr (.inl 201)), (1, .inr (.inl 3)), (2, .inl x2), (3, .inl x3)] [.inl zz, .inl x3] w1 r := by
  have h2 := hb_ecw ((0, 0, 3, 0, 0) :: (0, 1, 1, 0, 0) :: (6, 1, 295, 1, 7) :: []) (by decide +kernel) h
  exact h2
theorem eg60_137_t3_7_0 {n : Nat} {w : px_W} {r : Option Value × px_W} {x2 x3 s0 s1 : Int} (h : ec_E hb_X n 60 7 [(0, .inr (.inl 201)), (1, .inr (.inl 3)), (2, .inl x2), (3, .inl x3)] [.inl s1, .inl s0] w r) : ec_tw s1 ≤ ec_tw s0 → True ∧ r = (ec_R 1, w) ∧ ec_W hb_A w := by
  have h2 := hb_ecw ((4, 2, 3, 1, 0) :: (0, 2, 0, 0, 1) :: (6, 3, 0, 0, 0) :: []) (by decide +kernel) h
  exact h2
theorem eg60_137_t3_7_1 {n : Nat} {w : px_W} {r : Option Value × px_W} {x2 x3 s0 s1 : Int} (h : ec_E hb_X n 60 7 [(0, .inr (.inl 201)), (1, .inr (.inl 3)), (2, .inl x2), (3, .inl x3)] [.inl s1, .inl s0] w r) : ec_tw s0 < ec_tw s1 → ec_tw (ec_fd w 137 0) ≤ ec_tw (x2 + x3) → True ∧ r = (ec_R 0, w) ∧ ec_W hb_A w := by
  have h2 := hb_ecw ((4, 2, 2, 0, 0) :: (0, 0, 2, 0, 0) :: (0, 0, 3, 0, 0) :: (1, 0, 0, 0, 0) :: (0, 1, 0, 0, 0) :: (5, 0, 137, 0, 0) :: (4, 2, 3, 1, 0) :: (0, 2, 0, 0, 0) :: (6, 3, 0, 0, 0) :: []) (by decide +kernel) h
  exact h2
theorem eg60_137_t3_7_2 {n : Nat} {w : px_W} {r : Option Value × px_W} {x2 x3 s0 s1 : Int} (h : ec_E hb_X n 60 7 [(0, .inr (.inl 201)), (1, .inr (.inl 3)), (2, .inl x2), (3, .inl x3)] [.inl s1, .inl s0] w r) : ec_tw s0 < ec_tw s1 → ec_tw (x2 + x3) < ec_tw (ec_fd w 137 0) → (True ∧ 0 ≤ ec_tw (x2 + x3) ∧ ec_tw (x2 + x3) < 200) ∧ ∃ (v : Option Value) (w1 : px_W), ec_E hb_X n 296 0 [(0, .inr (.inl 3)), (1, .inl x3)] [] w (v, w1) ∧ ∀ zz : Int, v = ec_R zz → ec_W hb_A w1 → ec_E hb_X n 60 33 [(0, .inr (.inl 201)), (1, .inr (.inl 3)), (2, .inl x2), (3, .inl x3)] [.inl zz, .inl (ec_rd w 138 (ec_tw (x2 + x3)))] w1 r := by
  have h2 := hb_ecw ((4, 2, 2, 0, 0) :: (0, 0, 2, 0, 0) :: (0, 0, 3, 0, 0) :: (1, 0, 0, 0, 0) :: (0, 1, 0, 0, 0) :: (5, 0, 137, 0, 0) :: (4, 2, 2, 0, 0) :: (0, 1, 0, 0, 0) :: (5, 1, 137, 202, 0) :: (0, 0, 2, 0, 0) :: (0, 0, 3, 0, 0) :: (1, 0, 0, 0, 0) :: (5, 2, 138, 0, 200) :: (0, 1, 1, 0, 0) :: (0, 0, 3, 0, 0) :: (6, 1, 296, 2, 33) :: []) (by decide +kernel) h
  exact h2
theorem eg60_137_t3_33_0 {n : Nat} {w : px_W} {r : Option Value × px_W} {x2 x3 s0 s1 : Int} (h : ec_E hb_X n 60 33 [(0, .inr (.inl 201)), (1, .inr (.inl 3)), (2, .inl x2), (3, .inl x3)] [.inl s1, .inl s0] w r) : ec_tw s0 = ec_tw s1 → True ∧ ec_E hb_X n 60 2 [(0, .inr (.inl 201)), (1, .inr (.inl 3)), (2, .inl x2), (3, .inl (x3 + 1))] [] w r := by
  have h2 := hb_ecw ((4, 2, 0, 1, 0) :: (0, 5, 3, 0, 1) :: (4, 0, 0, 0, 0) :: (6, 0, 2, 4, 0) :: []) (by decide +kernel) h
  exact h2
theorem eg60_137_t3_33_1 {n : Nat} {w : px_W} {r : Option Value × px_W} {x2 x3 s0 s1 : Int} (h : ec_E hb_X n 60 33 [(0, .inr (.inl 201)), (1, .inr (.inl 3)), (2, .inl x2), (3, .inl x3)] [.inl s1, .inl s0] w r) : ec_tw s0 ≠ ec_tw s1 → True ∧ r = (ec_R 0, w) ∧ ec_W hb_A w := by
  have h2 := hb_ecw ((4, 2, 1, 0, 0) :: (0, 2, 0, 0, 0) :: (6, 3, 0, 0, 0) :: []) (by decide +kernel) h
  exact h2
/-! X5_is -/
theorem eg60_137_t4_0_0 {n : Nat} {w : px_W} {r : Option Value × px_W} {x2 : Int} (h : ec_E hb_X n 60 0 [(0, .inr (.inl 201)), (1, .inr (.inl 4)), (2, .inl x2)] [] w r) : True ∧ ec_E hb_X n 60 2 [(0, .inr (.inl 201)), (1, .inr (.inl 4)), (2, .inl x2), (3, .inl 0)] [] w r := by
  have h2 := hb_ecw ((0, 2, 0, 0, 0) :: (0, 3, 3, 0, 0) :: (6, 0, 2, 4, 0) :: []) (by decide +kernel) h
  exact h2
theorem eg60_137_t4_2_0 {n : Nat} {w : px_W} {r : Option Value × px_W} {x2 x3 : Int} (h : ec_E hb_X n 60 2 [(0, .inr (.inl 201)), (1, .inr (.inl 4)), (2, .inl x2), (3, .inl x3)] [] w r) : True ∧ ∃ (v : Option Value) (w1 : px_W), ec_E hb_X n 295 0 [(0, .inr (.inl 4))] [] w (v, w1) ∧ ∀ zz : Int, v = ec_R zz → ec_W hb_A w1 → ec_E hb_X n 60 7 [(0, .inr (.inl 201)), (1, .inr (.inl 4)), (2, .inl x2), (3, .inl x3)] [.inl zz, .inl x3] w1 r := by
  have h2 := hb_ecw ((0, 0, 3, 0, 0) :: (0, 1, 1, 0, 0) :: (6, 1, 295, 1, 7) :: []) (by decide +kernel) h
  exact h2
theorem eg60_137_t4_7_0 {n : Nat} {w : px_W} {r : Option Value × px_W} {x2 x3 s0 s1 : Int} (h : ec_E hb_X n 60 7 [(0, .inr (.inl 201)), (1, .inr (.inl 4)), (2, .inl x2), (3, .inl x3)] [.inl s1, .inl s0] w r) : ec_tw s1 ≤ ec_tw s0 → True ∧ r = (ec_R 1, w) ∧ ec_W hb_A w := by
  have h2 := hb_ecw ((4, 2, 3, 1, 0) :: (0, 2, 0, 0, 1) :: (6, 3, 0, 0, 0) :: []) (by decide +kernel) h
  exact h2
theorem eg60_137_t4_7_1 {n : Nat} {w : px_W} {r : Option Value × px_W} {x2 x3 s0 s1 : Int} (h : ec_E hb_X n 60 7 [(0, .inr (.inl 201)), (1, .inr (.inl 4)), (2, .inl x2), (3, .inl x3)] [.inl s1, .inl s0] w r) : ec_tw s0 < ec_tw s1 → ec_tw (ec_fd w 137 0) ≤ ec_tw (x2 + x3) → True ∧ r = (ec_R 0, w) ∧ ec_W hb_A w := by
  have h2 := hb_ecw ((4, 2, 2, 0, 0) :: (0, 0, 2, 0, 0) :: (0, 0, 3, 0, 0) :: (1, 0, 0, 0, 0) :: (0, 1, 0, 0, 0) :: (5, 0, 137, 0, 0) :: (4, 2, 3, 1, 0) :: (0, 2, 0, 0, 0) :: (6, 3, 0, 0, 0) :: []) (by decide +kernel) h
  exact h2
theorem eg60_137_t4_7_2 {n : Nat} {w : px_W} {r : Option Value × px_W} {x2 x3 s0 s1 : Int} (h : ec_E hb_X n 60 7 [(0, .inr (.inl 201)), (1, .inr (.inl 4)), (2, .inl x2), (3, .inl x3)] [.inl s1, .inl s0] w r) : ec_tw s0 < ec_tw s1 → ec_tw (x2 + x3) < ec_tw (ec_fd w 137 0) → (True ∧ 0 ≤ ec_tw (x2 + x3) ∧ ec_tw (x2 + x3) < 200) ∧ ∃ (v : Option Value) (w1 : px_W), ec_E hb_X n 296 0 [(0, .inr (.inl 4)), (1, .inl x3)] [] w (v, w1) ∧ ∀ zz : Int, v = ec_R zz → ec_W hb_A w1 → ec_E hb_X n 60 33 [(0, .inr (.inl 201)), (1, .inr (.inl 4)), (2, .inl x2), (3, .inl x3)] [.inl zz, .inl (ec_rd w 138 (ec_tw (x2 + x3)))] w1 r := by
  have h2 := hb_ecw ((4, 2, 2, 0, 0) :: (0, 0, 2, 0, 0) :: (0, 0, 3, 0, 0) :: (1, 0, 0, 0, 0) :: (0, 1, 0, 0, 0) :: (5, 0, 137, 0, 0) :: (4, 2, 2, 0, 0) :: (0, 1, 0, 0, 0) :: (5, 1, 137, 202, 0) :: (0, 0, 2, 0, 0) :: (0, 0, 3, 0, 0) :: (1, 0, 0, 0, 0) :: (5, 2, 138, 0, 200) :: (0, 1, 1, 0, 0) :: (0, 0, 3, 0, 0) :: (6, 1, 296, 2, 33) :: []) (by decide +kernel) h
  exact h2
theorem eg60_137_t4_33_0 {n : Nat} {w : px_W} {r : Option Value × px_W} {x2 x3 s0 s1 : Int} (h : ec_E hb_X n 60 33 [(0, .inr (.inl 201)), (1, .inr (.inl 4)), (2, .inl x2), (3, .inl x3)] [.inl s1, .inl s0] w r) : ec_tw s0 = ec_tw s1 → True ∧ ec_E hb_X n 60 2 [(0, .inr (.inl 201)), (1, .inr (.inl 4)), (2, .inl x2), (3, .inl (x3 + 1))] [] w r := by
  have h2 := hb_ecw ((4, 2, 0, 1, 0) :: (0, 5, 3, 0, 1) :: (4, 0, 0, 0, 0) :: (6, 0, 2, 4, 0) :: []) (by decide +kernel) h
  exact h2
theorem eg60_137_t4_33_1 {n : Nat} {w : px_W} {r : Option Value × px_W} {x2 x3 s0 s1 : Int} (h : ec_E hb_X n 60 33 [(0, .inr (.inl 201)), (1, .inr (.inl 4)), (2, .inl x2), (3, .inl x3)] [.inl s1, .inl s0] w r) : ec_tw s0 ≠ ec_tw s1 → True ∧ r = (ec_R 0, w) ∧ ec_W hb_A w := by
  have h2 := hb_ecw ((4, 2, 1, 0, 0) :: (0, 2, 0, 0, 0) :: (6, 3, 0, 0, 0) :: []) (by decide +kernel) h
  exact h2
/-! X5_is -/
theorem eg60_137_t5_0_0 {n : Nat} {w : px_W} {r : Option Value × px_W} {x2 : Int} (h : ec_E hb_X n 60 0 [(0, .inr (.inl 201)), (1, .inr (.inl 5)), (2, .inl x2)] [] w r) : True ∧ ec_E hb_X n 60 2 [(0, .inr (.inl 201)), (1, .inr (.inl 5)), (2, .inl x2), (3, .inl 0)] [] w r := by
  have h2 := hb_ecw ((0, 2, 0, 0, 0) :: (0, 3, 3, 0, 0) :: (6, 0, 2, 4, 0) :: []) (by decide +kernel) h
  exact h2
theorem eg60_137_t5_2_0 {n : Nat} {w : px_W} {r : Option Value × px_W} {x2 x3 : Int} (h : ec_E hb_X n 60 2 [(0, .inr (.inl 201)), (1, .inr (.inl 5)), (2, .inl x2), (3, .inl x3)] [] w r) : True ∧ ∃ (v : Option Value) (w1 : px_W), ec_E hb_X n 295 0 [(0, .inr (.inl 5))] [] w (v, w1) ∧ ∀ zz : Int, v = ec_R zz → ec_W hb_A w1 → ec_E hb_X n 60 7 [(0, .inr (.inl 201)), (1, .inr (.inl 5)), (2, .inl x2), (3, .inl x3)] [.inl zz, .inl x3] w1 r := by
  have h2 := hb_ecw ((0, 0, 3, 0, 0) :: (0, 1, 1, 0, 0) :: (6, 1, 295, 1, 7) :: []) (by decide +kernel) h
  exact h2
theorem eg60_137_t5_7_0 {n : Nat} {w : px_W} {r : Option Value × px_W} {x2 x3 s0 s1 : Int} (h : ec_E hb_X n 60 7 [(0, .inr (.inl 201)), (1, .inr (.inl 5)), (2, .inl x2), (3, .inl x3)] [.inl s1, .inl s0] w r) : ec_tw s1 ≤ ec_tw s0 → True ∧ r = (ec_R 1, w) ∧ ec_W hb_A w := by
  have h2 := hb_ecw ((4, 2, 3, 1, 0) :: (0, 2, 0, 0, 1) :: (6, 3, 0, 0, 0) :: []) (by decide +kernel) h
  exact h2
theorem eg60_137_t5_7_1 {n : Nat} {w : px_W} {r : Option Value × px_W} {x2 x3 s0 s1 : Int} (h : ec_E hb_X n 60 7 [(0, .inr (.inl 201)), (1, .inr (.inl 5)), (2, .inl x2), (3, .inl x3)] [.inl s1, .inl s0] w r) : ec_tw s0 < ec_tw s1 → ec_tw (ec_fd w 137 0) ≤ ec_tw (x2 + x3) → True ∧ r = (ec_R 0, w) ∧ ec_W hb_A w := by
  have h2 := hb_ecw ((4, 2, 2, 0, 0) :: (0, 0, 2, 0, 0) :: (0, 0, 3, 0, 0) :: (1, 0, 0, 0, 0) :: (0, 1, 0, 0, 0) :: (5, 0, 137, 0, 0) :: (4, 2, 3, 1, 0) :: (0, 2, 0, 0, 0) :: (6, 3, 0, 0, 0) :: []) (by decide +kernel) h
  exact h2
theorem eg60_137_t5_7_2 {n : Nat} {w : px_W} {r : Option Value × px_W} {x2 x3 s0 s1 : Int} (h : ec_E hb_X n 60 7 [(0, .inr (.inl 201)), (1, .inr (.inl 5)), (2, .inl x2), (3, .inl x3)] [.inl s1, .inl s0] w r) : ec_tw s0 < ec_tw s1 → ec_tw (x2 + x3) < ec_tw (ec_fd w 137 0) → (True ∧ 0 ≤ ec_tw (x2 + x3) ∧ ec_tw (x2 + x3) < 200) ∧ ∃ (v : Option Value) (w1 : px_W), ec_E hb_X n 296 0 [(0, .inr (.inl 5)), (1, .inl x3)] [] w (v, w1) ∧ ∀ zz : Int, v = ec_R zz → ec_W hb_A w1 → ec_E hb_X n 60 33 [(0, .inr (.inl 201)), (1, .inr (.inl 5)), (2, .inl x2), (3, .inl x3)] [.inl zz, .inl (ec_rd w 138 (ec_tw (x2 + x3)))] w1 r := by
  have h2 := hb_ecw ((4, 2, 2, 0, 0) :: (0, 0, 2, 0, 0) :: (0, 0, 3, 0, 0) :: (1, 0, 0, 0, 0) :: (0, 1, 0, 0, 0) :: (5, 0, 137, 0, 0) :: (4, 2, 2, 0, 0) :: (0, 1, 0, 0, 0) :: (5, 1, 137, 202, 0) :: (0, 0, 2, 0, 0) :: (0, 0, 3, 0, 0) :: (1, 0, 0, 0, 0) :: (5, 2, 138, 0, 200) :: (0, 1, 1, 0, 0) :: (0, 0, 3, 0, 0) :: (6, 1, 296, 2, 33) :: []) (by decide +kernel) h
  exact h2
theorem eg60_137_t5_33_0 {n : Nat} {w : px_W} {r : Option Value × px_W} {x2 x3 s0 s1 : Int} (h : ec_E hb_X n 60 33 [(0, .inr (.inl 201)), (1, .inr (.inl 5)), (2, .inl x2), (3, .inl x3)] [.inl s1, .inl s0] w r) : ec_tw s0 = ec_tw s1 → True ∧ ec_E hb_X n 60 2 [(0, .inr (.inl 201)), (1, .inr (.inl 5)), (2, .inl x2), (3, .inl (x3 + 1))] [] w r := by
  have h2 := hb_ecw ((4, 2, 0, 1, 0) :: (0, 5, 3, 0, 1) :: (4, 0, 0, 0, 0) :: (6, 0, 2, 4, 0) :: []) (by decide +kernel) h
  exact h2
theorem eg60_137_t5_33_1 {n : Nat} {w : px_W} {r : Option Value × px_W} {x2 x3 s0 s1 : Int} (h : ec_E hb_X n 60 33 [(0, .inr (.inl 201)), (1, .inr (.inl 5)), (2, .inl x2), (3, .inl x3)] [.inl s1, .inl s0] w r) : ec_tw s0 ≠ ec_tw s1 → True ∧ r = (ec_R 0, w) ∧ ec_W hb_A w := by
  have h2 := hb_ecw ((4, 2, 1, 0, 0) :: (0, 2, 0, 0, 0) :: (6, 3, 0, 0, 0) :: []) (by decide +kernel) h
  exact h2
/-! X5_is -/
theorem eg60_137_t6_0_0 {n : Nat} {w : px_W} {r : Option Value × px_W} {x2 : Int} (h : ec_E hb_X n 60 0 [(0, .inr (.inl 201)), (1, .inr (.inl 6)), (2, .inl x2)] [] w r) : True ∧ ec_E hb_X n 60 2 [(0, .inr (.inl 201)), (1, .inr (.inl 6)), (2, .inl x2), (3, .inl 0)] [] w r := by
  have h2 := hb_ecw ((0, 2, 0, 0, 0) :: (0, 3, 3, 0, 0) :: (6, 0, 2, 4, 0) :: []) (by decide +kernel) h
  exact h2
theorem eg60_137_t6_2_0 {n : Nat} {w : px_W} {r : Option Value × px_W} {x2 x3 : Int} (h : ec_E hb_X n 60 2 [(0, .inr (.inl 201)), (1, .inr (.inl 6)), (2, .inl x2), (3, .inl x3)] [] w r) : True ∧ ∃ (v : Option Value) (w1 : px_W), ec_E hb_X n 295 0 [(0, .inr (.inl 6))] [] w (v, w1) ∧ ∀ zz : Int, v = ec_R zz → ec_W hb_A w1 → ec_E hb_X n 60 7 [(0, .inr (.inl 201)), (1, .inr (.inl 6)), (2, .inl x2), (3, .inl x3)] [.inl zz, .inl x3] w1 r := by
  have h2 := hb_ecw ((0, 0, 3, 0, 0) :: (0, 1, 1, 0, 0) :: (6, 1, 295, 1, 7) :: []) (by decide +kernel) h
  exact h2
theorem eg60_137_t6_7_0 {n : Nat} {w : px_W} {r : Option Value × px_W} {x2 x3 s0 s1 : Int} (h : ec_E hb_X n 60 7 [(0, .inr (.inl 201)), (1, .inr (.inl 6)), (2, .inl x2), (3, .inl x3)] [.inl s1, .inl s0] w r) : ec_tw s1 ≤ ec_tw s0 → True ∧ r = (ec_R 1, w) ∧ ec_W hb_A w := by
  have h2 := hb_ecw ((4, 2, 3, 1, 0) :: (0, 2, 0, 0, 1) :: (6, 3, 0, 0, 0) :: []) (by decide +kernel) h
  exact h2
theorem eg60_137_t6_7_1 {n : Nat} {w : px_W} {r : Option Value × px_W} {x2 x3 s0 s1 : Int} (h : ec_E hb_X n 60 7 [(0, .inr (.inl 201)), (1, .inr (.inl 6)), (2, .inl x2), (3, .inl x3)] [.inl s1, .inl s0] w r) : ec_tw s0 < ec_tw s1 → ec_tw (ec_fd w 137 0) ≤ ec_tw (x2 + x3) → True ∧ r = (ec_R 0, w) ∧ ec_W hb_A w := by
  have h2 := hb_ecw ((4, 2, 2, 0, 0) :: (0, 0, 2, 0, 0) :: (0, 0, 3, 0, 0) :: (1, 0, 0, 0, 0) :: (0, 1, 0, 0, 0) :: (5, 0, 137, 0, 0) :: (4, 2, 3, 1, 0) :: (0, 2, 0, 0, 0) :: (6, 3, 0, 0, 0) :: []) (by decide +kernel) h
  exact h2
theorem eg60_137_t6_7_2 {n : Nat} {w : px_W} {r : Option Value × px_W} {x2 x3 s0 s1 : Int} (h : ec_E hb_X n 60 7 [(0, .inr (.inl 201)), (1, .inr (.inl 6)), (2, .inl x2), (3, .inl x3)] [.inl s1, .inl s0] w r) : ec_tw s0 < ec_tw s1 → ec_tw (x2 + x3) < ec_tw (ec_fd w 137 0) → (True ∧ 0 ≤ ec_tw (x2 + x3) ∧ ec_tw (x2 + x3) < 200) ∧ ∃ (v : Option Value) (w1 : px_W), ec_E hb_X n 296 0 [(0, .inr (.inl 6)), (1, .inl x3)] [] w (v, w1) ∧ ∀ zz : Int, v = ec_R zz → ec_W hb_A w1 → ec_E hb_X n 60 33 [(0, .inr (.inl 201)), (1, .inr (.inl 6)), (2, .inl x2), (3, .inl x3)] [.inl zz, .inl (ec_rd w 138 (ec_tw (x2 + x3)))] w1 r := by
  have h2 := hb_ecw ((4, 2, 2, 0, 0) :: (0, 0, 2, 0, 0) :: (0, 0, 3, 0, 0) :: (1, 0, 0, 0, 0) :: (0, 1, 0, 0, 0) :: (5, 0, 137, 0, 0) :: (4, 2, 2, 0, 0) :: (0, 1, 0, 0, 0) :: (5, 1, 137, 202, 0) :: (0, 0, 2, 0, 0) :: (0, 0, 3, 0, 0) :: (1, 0, 0, 0, 0) :: (5, 2, 138, 0, 200) :: (0, 1, 1, 0, 0) :: (0, 0, 3, 0, 0) :: (6, 1, 296, 2, 33) :: []) (by decide +kernel) h
  exact h2
theorem eg60_137_t6_33_0 {n : Nat} {w : px_W} {r : Option Value × px_W} {x2 x3 s0 s1 : Int} (h : ec_E hb_X n 60 33 [(0, .inr (.inl 201)), (1, .inr (.inl 6)), (2, .inl x2), (3, .inl x3)] [.inl s1, .inl s0] w r) : ec_tw s0 = ec_tw s1 → True ∧ ec_E hb_X n 60 2 [(0, .inr (.inl 201)), (1, .inr (.inl 6)), (2, .inl x2), (3, .inl (x3 + 1))] [] w r := by
  have h2 := hb_ecw ((4, 2, 0, 1, 0) :: (0, 5, 3, 0, 1) :: (4, 0, 0, 0, 0) :: (6, 0, 2, 4, 0) :: []) (by decide +kernel) h
  exact h2
theorem eg60_137_t6_33_1 {n : Nat} {w : px_W} {r : Option Value × px_W} {x2 x3 s0 s1 : Int} (h : ec_E hb_X n 60 33 [(0, .inr (.inl 201)), (1, .inr (.inl 6)), (2, .inl x2), (3, .inl x3)] [.inl s1, .inl s0] w r) : ec_tw s0 ≠ ec_tw s1 → True ∧ r = (ec_R 0, w) ∧ ec_W hb_A w := by
  have h2 := hb_ecw ((4, 2, 1, 0, 0) :: (0, 2, 0, 0, 0) :: (6, 3, 0, 0, 0) :: []) (by decide +kernel) h
  exact h2
/-! X5_is -/
theorem eg60_137_t7_0_0 {n : Nat} {w : px_W} {r : Option Value × px_W} {x2 : Int} (h : ec_E hb_X n 60 0 [(0, .inr (.inl 201)), (1, .inr (.inl 7)), (2, .inl x2)] [] w r) : True ∧ ec_E hb_X n 60 2 [(0, .inr (.inl 201)), (1, .inr (.inl 7)), (2, .inl x2), (3, .inl 0)] [] w r := by
  have h2 := hb_ecw ((0, 2, 0, 0, 0) :: (0, 3, 3, 0, 0) :: (6, 0, 2, 4, 0) :: []) (by decide +kernel) h
  exact h2
theorem eg60_137_t7_2_0 {n : Nat} {w : px_W} {r : Option Value × px_W} {x2 x3 : Int} (h : ec_E hb_X n 60 2 [(0, .inr (.inl 201)), (1, .inr (.inl 7)), (2, .inl x2), (3, .inl x3)] [] w r) : True ∧ ∃ (v : Option Value) (w1 : px_W), ec_E hb_X n 295 0 [(0, .inr (.inl 7))] [] w (v, w1) ∧ ∀ zz : Int, v = ec_R zz → ec_W hb_A w1 → ec_E hb_X n 60 7 [(0, .inr (.inl 201)), (1, .inr (.inl 7)), (2, .inl x2), (3, .inl x3)] [.inl zz, .inl x3] w1 r := by
  have h2 := hb_ecw ((0, 0, 3, 0, 0) :: (0, 1, 1, 0, 0) :: (6, 1, 295, 1, 7) :: []) (by decide +kernel) h
  exact h2
theorem eg60_137_t7_7_0 {n : Nat} {w : px_W} {r : Option Value × px_W} {x2 x3 s0 s1 : Int} (h : ec_E hb_X n 60 7 [(0, .inr (.inl 201)), (1, .inr (.inl 7)), (2, .inl x2), (3, .inl x3)] [.inl s1, .inl s0] w r) : ec_tw s1 ≤ ec_tw s0 → True ∧ r = (ec_R 1, w) ∧ ec_W hb_A w := by
  have h2 := hb_ecw ((4, 2, 3, 1, 0) :: (0, 2, 0, 0, 1) :: (6, 3, 0, 0, 0) :: []) (by decide +kernel) h
  exact h2
theorem eg60_137_t7_7_1 {n : Nat} {w : px_W} {r : Option Value × px_W} {x2 x3 s0 s1 : Int} (h : ec_E hb_X n 60 7 [(0, .inr (.inl 201)), (1, .inr (.inl 7)), (2, .inl x2), (3, .inl x3)] [.inl s1, .inl s0] w r) : ec_tw s0 < ec_tw s1 → ec_tw (ec_fd w 137 0) ≤ ec_tw (x2 + x3) → True ∧ r = (ec_R 0, w) ∧ ec_W hb_A w := by
  have h2 := hb_ecw ((4, 2, 2, 0, 0) :: (0, 0, 2, 0, 0) :: (0, 0, 3, 0, 0) :: (1, 0, 0, 0, 0) :: (0, 1, 0, 0, 0) :: (5, 0, 137, 0, 0) :: (4, 2, 3, 1, 0) :: (0, 2, 0, 0, 0) :: (6, 3, 0, 0, 0) :: []) (by decide +kernel) h
  exact h2
theorem eg60_137_t7_7_2 {n : Nat} {w : px_W} {r : Option Value × px_W} {x2 x3 s0 s1 : Int} (h : ec_E hb_X n 60 7 [(0, .inr (.inl 201)), (1, .inr (.inl 7)), (2, .inl x2), (3, .inl x3)] [.inl s1, .inl s0] w r) : ec_tw s0 < ec_tw s1 → ec_tw (x2 + x3) < ec_tw (ec_fd w 137 0) → (True ∧ 0 ≤ ec_tw (x2 + x3) ∧ ec_tw (x2 + x3) < 200) ∧ ∃ (v : Option Value) (w1 : px_W), ec_E hb_X n 296 0 [(0, .inr (.inl 7)), (1, .inl x3)] [] w (v, w1) ∧ ∀ zz : Int, v = ec_R zz → ec_W hb_A w1 → ec_E hb_X n 60 33 [(0, .inr (.inl 201)), (1, .inr (.inl 7)), (2, .inl x2), (3, .inl x3)] [.inl zz, .inl (ec_rd w 138 (ec_tw (x2 + x3)))] w1 r := by
  have h2 := hb_ecw ((4, 2, 2, 0, 0) :: (0, 0, 2, 0, 0) :: (0, 0, 3, 0, 0) :: (1, 0, 0, 0, 0) :: (0, 1, 0, 0, 0) :: (5, 0, 137, 0, 0) :: (4, 2, 2, 0, 0) :: (0, 1, 0, 0, 0) :: (5, 1, 137, 202, 0) :: (0, 0, 2, 0, 0) :: (0, 0, 3, 0, 0) :: (1, 0, 0, 0, 0) :: (5, 2, 138, 0, 200) :: (0, 1, 1, 0, 0) :: (0, 0, 3, 0, 0) :: (6, 1, 296, 2, 33) :: []) (by decide +kernel) h
  exact h2
theorem eg60_137_t7_33_0 {n : Nat} {w : px_W} {r : Option Value × px_W} {x2 x3 s0 s1 : Int} (h : ec_E hb_X n 60 33 [(0, .inr (.inl 201)), (1, .inr (.inl 7)), (2, .inl x2), (3, .inl x3)] [.inl s1, .inl s0] w r) : ec_tw s0 = ec_tw s1 → True ∧ ec_E hb_X n 60 2 [(0, .inr (.inl 201)), (1, .inr (.inl 7)), (2, .inl x2), (3, .inl (x3 + 1))] [] w r := by
  have h2 := hb_ecw ((4, 2, 0, 1, 0) :: (0, 5, 3, 0, 1) :: (4, 0, 0, 0, 0) :: (6, 0, 2, 4, 0) :: []) (by decide +kernel) h
  exact h2
theorem eg60_137_t7_33_1 {n : Nat} {w : px_W} {r : Option Value × px_W} {x2 x3 s0 s1 : Int} (h : ec_E hb_X n 60 33 [(0, .inr (.inl 201)), (1, .inr (.inl 7)), (2, .inl x2), (3, .inl x3)] [.inl s1, .inl s0] w r) : ec_tw s0 ≠ ec_tw s1 → True ∧ r = (ec_R 0, w) ∧ ec_W hb_A w := by
  have h2 := hb_ecw ((4, 2, 1, 0, 0) :: (0, 2, 0, 0, 0) :: (6, 3, 0, 0, 0) :: []) (by decide +kernel) h
  exact h2
/-! X5_is -/
theorem eg60_137_t8_0_0 {n : Nat} {w : px_W} {r : Option Value × px_W} {x2 : Int} (h : ec_E hb_X n 60 0 [(0, .inr (.inl 201)), (1, .inr (.inl 8)), (2, .inl x2)] [] w r) : True ∧ ec_E hb_X n 60 2 [(0, .inr (.inl 201)), (1, .inr (.inl 8)), (2, .inl x2), (3, .inl 0)] [] w r := by
  have h2 := hb_ecw ((0, 2, 0, 0, 0) :: (0, 3, 3, 0, 0) :: (6, 0, 2, 4, 0) :: []) (by decide +kernel) h
  exact h2
theorem eg60_137_t8_2_0 {n : Nat} {w : px_W} {r : Option Value × px_W} {x2 x3 : Int} (h : ec_E hb_X n 60 2 [(0, .inr (.inl 201)), (1, .inr (.inl 8)), (2, .inl x2), (3, .inl x3)] [] w r) : True ∧ ∃ (v : Option Value) (w1 : px_W), ec_E hb_X n 295 0 [(0, .inr (.inl 8))] [] w (v, w1) ∧ ∀ zz : Int, v = ec_R zz → ec_W hb_A w1 → ec_E hb_X n 60 7 [(0, .inr (.inl 201)), (1, .inr (.inl 8)), (2, .inl x2), (3, .inl x3)] [.inl zz, .inl x3] w1 r := by
  have h2 := hb_ecw ((0, 0, 3, 0, 0) :: (0, 1, 1, 0, 0) :: (6, 1, 295, 1, 7) :: []) (by decide +kernel) h
  exact h2
theorem eg60_137_t8_7_0 {n : Nat} {w : px_W} {r : Option Value × px_W} {x2 x3 s0 s1 : Int} (h : ec_E hb_X n 60 7 [(0, .inr (.inl 201)), (1, .inr (.inl 8)), (2, .inl x2), (3, .inl x3)] [.inl s1, .inl s0] w r) : ec_tw s1 ≤ ec_tw s0 → True ∧ r = (ec_R 1, w) ∧ ec_W hb_A w := by
  have h2 := hb_ecw ((4, 2, 3, 1, 0) :: (0, 2, 0, 0, 1) :: (6, 3, 0, 0, 0) :: []) (by decide +kernel) h
  exact h2
theorem eg60_137_t8_7_1 {n : Nat} {w : px_W} {r : Option Value × px_W} {x2 x3 s0 s1 : Int} (h : ec_E hb_X n 60 7 [(0, .inr (.inl 201)), (1, .inr (.inl 8)), (2, .inl x2), (3, .inl x3)] [.inl s1, .inl s0] w r) : ec_tw s0 < ec_tw s1 → ec_tw (ec_fd w 137 0) ≤ ec_tw (x2 + x3) → True ∧ r = (ec_R 0, w) ∧ ec_W hb_A w := by
  have h2 := hb_ecw ((4, 2, 2, 0, 0) :: (0, 0, 2, 0, 0) :: (0, 0, 3, 0, 0) :: (1, 0, 0, 0, 0) :: (0, 1, 0, 0, 0) :: (5, 0, 137, 0, 0) :: (4, 2, 3, 1, 0) :: (0, 2, 0, 0, 0) :: (6, 3, 0, 0, 0) :: []) (by decide +kernel) h
  exact h2
theorem eg60_137_t8_7_2 {n : Nat} {w : px_W} {r : Option Value × px_W} {x2 x3 s0 s1 : Int} (h : ec_E hb_X n 60 7 [(0, .inr (.inl 201)), (1, .inr (.inl 8)), (2, .inl x2), (3, .inl x3)] [.inl s1, .inl s0] w r) : ec_tw s0 < ec_tw s1 → ec_tw (x2 + x3) < ec_tw (ec_fd w 137 0) → (True ∧ 0 ≤ ec_tw (x2 + x3) ∧ ec_tw (x2 + x3) < 200) ∧ ∃ (v : Option Value) (w1 : px_W), ec_E hb_X n 296 0 [(0, .inr (.inl 8)), (1, .inl x3)] [] w (v, w1) ∧ ∀ zz : Int, v = ec_R zz → ec_W hb_A w1 → ec_E hb_X n 60 33 [(0, .inr (.inl 201)), (1, .inr (.inl 8)), (2, .inl x2), (3, .inl x3)] [.inl zz, .inl (ec_rd w 138 (ec_tw (x2 + x3)))] w1 r := by
  have h2 := hb_ecw ((4, 2, 2, 0, 0) :: (0, 0, 2, 0, 0) :: (0, 0, 3, 0, 0) :: (1, 0, 0, 0, 0) :: (0, 1, 0, 0, 0) :: (5, 0, 137, 0, 0) :: (4, 2, 2, 0, 0) :: (0, 1, 0, 0, 0) :: (5, 1, 137, 202, 0) :: (0, 0, 2, 0, 0) :: (0, 0, 3, 0, 0) :: (1, 0, 0, 0, 0) :: (5, 2, 138, 0, 200) :: (0, 1, 1, 0, 0) :: (0, 0, 3, 0, 0) :: (6, 1, 296, 2, 33) :: []) (by decide +kernel) h
  exact h2
theorem eg60_137_t8_33_0 {n : Nat} {w : px_W} {r : Option Value × px_W} {x2 x3 s0 s1 : Int} (h : ec_E hb_X n 60 33 [(0, .inr (.inl 201)), (1, .inr (.inl 8)), (2, .inl x2), (3, .inl x3)] [.inl s1, .inl s0] w r) : ec_tw s0 = ec_tw s1 → True ∧ ec_E hb_X n 60 2 [(0, .inr (.inl 201)), (1, .inr (.inl 8)), (2, .inl x2), (3, .inl (x3 + 1))] [] w r := by
  have h2 := hb_ecw ((4, 2, 0, 1, 0) :: (0, 5, 3, 0, 1) :: (4, 0, 0, 0, 0) :: (6, 0, 2, 4, 0) :: []) (by decide +kernel) h
  exact h2
theorem eg60_137_t8_33_1 {n : Nat} {w : px_W} {r : Option Value × px_W} {x2 x3 s0 s1 : Int} (h : ec_E hb_X n 60 33 [(0, .inr (.inl 201)), (1, .inr (.inl 8)), (2, .inl x2), (3, .inl x3)] [.inl s1, .inl s0] w r) : ec_tw s0 ≠ ec_tw s1 → True ∧ r = (ec_R 0, w) ∧ ec_W hb_A w := by
  have h2 := hb_ecw ((4, 2, 1, 0, 0) :: (0, 2, 0, 0, 0) :: (6, 3, 0, 0, 0) :: []) (by decide +kernel) h
  exact h2
/-! X5_is -/
theorem eg60_137_t9_0_0 {n : Nat} {w : px_W} {r : Option Value × px_W} {x2 : Int} (h : ec_E hb_X n 60 0 [(0, .inr (.inl 201)), (1, .inr (.inl 9)), (2, .inl x2)] [] w r) : True ∧ ec_E hb_X n 60 2 [(0, .inr (.inl 201)), (1, .inr (.inl 9)), (2, .inl x2), (3, .inl 0)] [] w r := by
  have h2 := hb_ecw ((0, 2, 0, 0, 0) :: (0, 3, 3, 0, 0) :: (6, 0, 2, 4, 0) :: []) (by decide +kernel) h
  exact h2
theorem eg60_137_t9_2_0 {n : Nat} {w : px_W} {r : Option Value × px_W} {x2 x3 : Int} (h : ec_E hb_X n 60 2 [(0, .inr (.inl 201)), (1, .inr (.inl 9)), (2, .inl x2), (3, .inl x3)] [] w r) : True ∧ ∃ (v : Option Value) (w1 : px_W), ec_E hb_X n 295 0 [(0, .inr (.inl 9))] [] w (v, w1) ∧ ∀ zz : Int, v = ec_R zz → ec_W hb_A w1 → ec_E hb_X n 60 7 [(0, .inr (.inl 201)), (1, .inr (.inl 9)), (2, .inl x2), (3, .inl x3)] [.inl zz, .inl x3] w1 r := by
  have h2 := hb_ecw ((0, 0, 3, 0, 0) :: (0, 1, 1, 0, 0) :: (6, 1, 295, 1, 7) :: []) (by decide +kernel) h
  exact h2
theorem eg60_137_t9_7_0 {n : Nat} {w : px_W} {r : Option Value × px_W} {x2 x3 s0 s1 : Int} (h : ec_E hb_X n 60 7 [(0, .inr (.inl 201)), (1, .inr (.inl 9)), (2, .inl x2), (3, .inl x3)] [.inl s1, .inl s0] w r) : ec_tw s1 ≤ ec_tw s0 → True ∧ r = (ec_R 1, w) ∧ ec_W hb_A w := by
  have h2 := hb_ecw ((4, 2, 3, 1, 0) :: (0, 2, 0, 0, 1) :: (6, 3, 0, 0, 0) :: []) (by decide +kernel) h
  exact h2
theorem eg60_137_t9_7_1 {n : Nat} {w : px_W} {r : Option Value × px_W} {x2 x3 s0 s1 : Int} (h : ec_E hb_X n 60 7 [(0, .inr (.inl 201)), (1, .inr (.inl 9)), (2, .inl x2), (3, .inl x3)] [.inl s1, .inl s0] w r) : ec_tw s0 < ec_tw s1 → ec_tw (ec_fd w 137 0) ≤ ec_tw (x2 + x3) → True ∧ r = (ec_R 0, w) ∧ ec_W hb_A w := by
  have h2 := hb_ecw ((4, 2, 2, 0, 0) :: (0, 0, 2, 0, 0) :: (0, 0, 3, 0, 0) :: (1, 0, 0, 0, 0) :: (0, 1, 0, 0, 0) :: (5, 0, 137, 0, 0) :: (4, 2, 3, 1, 0) :: (0, 2, 0, 0, 0) :: (6, 3, 0, 0, 0) :: []) (by decide +kernel) h
  exact h2
theorem eg60_137_t9_7_2 {n : Nat} {w : px_W} {r : Option Value × px_W} {x2 x3 s0 s1 : Int} (h : ec_E hb_X n 60 7 [(0, .inr (.inl 201)), (1, .inr (.inl 9)), (2, .inl x2), (3, .inl x3)] [.inl s1, .inl s0] w r) : ec_tw s0 < ec_tw s1 → ec_tw (x2 + x3) < ec_tw (ec_fd w 137 0) → (True ∧ 0 ≤ ec_tw (x2 + x3) ∧ ec_tw (x2 + x3) < 200) ∧ ∃ (v : Option Value) (w1 : px_W), ec_E hb_X n 296 0 [(0, .inr (.inl 9)), (1, .inl x3)] [] w (v, w1) ∧ ∀ zz : Int, v = ec_R zz → ec_W hb_A w1 → ec_E hb_X n 60 33 [(0, .inr (.inl 201)), (1, .inr (.inl 9)), (2, .inl x2), (3, .inl x3)] [.inl zz, .inl (ec_rd w 138 (ec_tw (x2 + x3)))] w1 r := by
  have h2 := hb_ecw ((4, 2, 2, 0, 0) :: (0, 0, 2, 0, 0) :: (0, 0, 3, 0, 0) :: (1, 0, 0, 0, 0) :: (0, 1, 0, 0, 0) :: (5, 0, 137, 0, 0) :: (4, 2, 2, 0, 0) :: (0, 1, 0, 0, 0) :: (5, 1, 137, 202, 0) :: (0, 0, 2, 0, 0) :: (0, 0, 3, 0, 0) :: (1, 0, 0, 0, 0) :: (5, 2, 138, 0, 200) :: (0, 1, 1, 0, 0) :: (0, 0, 3, 0, 0) :: (6, 1, 296, 2, 33) :: []) (by decide +kernel) h
  exact h2
theorem eg60_137_t9_33_0 {n : Nat} {w : px_W} {r : Option Value × px_W} {x2 x3 s0 s1 : Int} (h : ec_E hb_X n 60 33 [(0, .inr (.inl 201)), (1, .inr (.inl 9)), (2, .inl x2), (3, .inl x3)] [.inl s1, .inl s0] w r) : ec_tw s0 = ec_tw s1 → True ∧ ec_E hb_X n 60 2 [(0, .inr (.inl 201)), (1, .inr (.inl 9)), (2, .inl x2), (3, .inl (x3 + 1))] [] w r := by
  have h2 := hb_ecw ((4, 2, 0, 1, 0) :: (0, 5, 3, 0, 1) :: (4, 0, 0, 0, 0) :: (6, 0, 2, 4, 0) :: []) (by decide +kernel) h
  exact h2
theorem eg60_137_t9_33_1 {n : Nat} {w : px_W} {r : Option Value × px_W} {x2 x3 s0 s1 : Int} (h : ec_E hb_X n 60 33 [(0, .inr (.inl 201)), (1, .inr (.inl 9)), (2, .inl x2), (3, .inl x3)] [.inl s1, .inl s0] w r) : ec_tw s0 ≠ ec_tw s1 → True ∧ r = (ec_R 0, w) ∧ ec_W hb_A w := by
  have h2 := hb_ecw ((4, 2, 1, 0, 0) :: (0, 2, 0, 0, 0) :: (6, 3, 0, 0, 0) :: []) (by decide +kernel) h
  exact h2
/-! X5_is -/
theorem eg60_137_t10_0_0 {n : Nat} {w : px_W} {r : Option Value × px_W} {x2 : Int} (h : ec_E hb_X n 60 0 [(0, .inr (.inl 201)), (1, .inr (.inl 10)), (2, .inl x2)] [] w r) : True ∧ ec_E hb_X n 60 2 [(0, .inr (.inl 201)), (1, .inr (.inl 10)), (2, .inl x2), (3, .inl 0)] [] w r := by
  have h2 := hb_ecw ((0, 2, 0, 0, 0) :: (0, 3, 3, 0, 0) :: (6, 0, 2, 4, 0) :: []) (by decide +kernel) h
  exact h2
theorem eg60_137_t10_2_0 {n : Nat} {w : px_W} {r : Option Value × px_W} {x2 x3 : Int} (h : ec_E hb_X n 60 2 [(0, .inr (.inl 201)), (1, .inr (.inl 10)), (2, .inl x2), (3, .inl x3)] [] w r) : True ∧ ∃ (v : Option Value) (w1 : px_W), ec_E hb_X n 295 0 [(0, .inr (.inl 10))] [] w (v, w1) ∧ ∀ zz : Int, v = ec_R zz → ec_W hb_A w1 → ec_E hb_X n 60 7 [(0, .inr (.inl 201)), (1, .inr (.inl 10)), (2, .inl x2), (3, .inl x3)] [.inl zz, .inl x3] w1 r := by
  have h2 := hb_ecw ((0, 0, 3, 0, 0) :: (0, 1, 1, 0, 0) :: (6, 1, 295, 1, 7) :: []) (by decide +kernel) h
  exact h2
theorem eg60_137_t10_7_0 {n : Nat} {w : px_W} {r : Option Value × px_W} {x2 x3 s0 s1 : Int} (h : ec_E hb_X n 60 7 [(0, .inr (.inl 201)), (1, .inr (.inl 10)), (2, .inl x2), (3, .inl x3)] [.inl s1, .inl s0] w r) : ec_tw s1 ≤ ec_tw s0 → True ∧ r = (ec_R 1, w) ∧ ec_W hb_A w := by
  have h2 := hb_ecw ((4, 2, 3, 1, 0) :: (0, 2, 0, 0, 1) :: (6, 3, 0, 0, 0) :: []) (by decide +kernel) h
  exact h2
theorem eg60_137_t10_7_1 {n : Nat} {w : px_W} {r : Option Value × px_W} {x2 x3 s0 s1 : Int} (h : ec_E hb_X n 60 7 [(0, .inr (.inl 201)), (1, .inr (.inl 10)), (2, .inl x2), (3, .inl x3)] [.inl s1, .inl s0] w r) : ec_tw s0 < ec_tw s1 → ec_tw (ec_fd w 137 0) ≤ ec_tw (x2 + x3) → True ∧ r = (ec_R 0, w) ∧ ec_W hb_A w := by
  have h2 := hb_ecw ((4, 2, 2, 0, 0) :: (0, 0, 2, 0, 0) :: (0, 0, 3, 0, 0) :: (1, 0, 0, 0, 0) :: (0, 1, 0, 0, 0) :: (5, 0, 137, 0, 0) :: (4, 2, 3, 1, 0) :: (0, 2, 0, 0, 0) :: (6, 3, 0, 0, 0) :: []) (by decide +kernel) h
  exact h2
theorem eg60_137_t10_7_2 {n : Nat} {w : px_W} {r : Option Value × px_W} {x2 x3 s0 s1 : Int} (h : ec_E hb_X n 60 7 [(0, .inr (.inl 201)), (1, .inr (.inl 10)), (2, .inl x2), (3, .inl x3)] [.inl s1, .inl s0] w r) : ec_tw s0 < ec_tw s1 → ec_tw (x2 + x3) < ec_tw (ec_fd w 137 0) → (True ∧ 0 ≤ ec_tw (x2 + x3) ∧ ec_tw (x2 + x3) < 200) ∧ ∃ (v : Option Value) (w1 : px_W), ec_E hb_X n 296 0 [(0, .inr (.inl 10)), (1, .inl x3)] [] w (v, w1) ∧ ∀ zz : Int, v = ec_R zz → ec_W hb_A w1 → ec_E hb_X n 60 33 [(0, .inr (.inl 201)), (1, .inr (.inl 10)), (2, .inl x2), (3, .inl x3)] [.inl zz, .inl (ec_rd w 138 (ec_tw (x2 + x3)))] w1 r := by
  have h2 := hb_ecw ((4, 2, 2, 0, 0) :: (0, 0, 2, 0, 0) :: (0, 0, 3, 0, 0) :: (1, 0, 0, 0, 0) :: (0, 1, 0, 0, 0) :: (5, 0, 137, 0, 0) :: (4, 2, 2, 0, 0) :: (0, 1, 0, 0, 0) :: (5, 1, 137, 202, 0) :: (0, 0, 2, 0, 0) :: (0, 0, 3, 0, 0) :: (1, 0, 0, 0, 0) :: (5, 2, 138, 0, 200) :: (0, 1, 1, 0, 0) :: (0, 0, 3, 0, 0) :: (6, 1, 296, 2, 33) :: []) (by decide +kernel) h
  exact h2
theorem eg60_137_t10_33_0 {n : Nat} {w : px_W} {r : Option Value × px_W} {x2 x3 s0 s1 : Int} (h : ec_E hb_X n 60 33 [(0, .inr (.inl 201)), (1, .inr (.inl 10)), (2, .inl x2), (3, .inl x3)] [.inl s1, .inl s0] w r) : ec_tw s0 = ec_tw s1 → True ∧ ec_E hb_X n 60 2 [(0, .inr (.inl 201)), (1, .inr (.inl 10)), (2, .inl x2), (3, .inl (x3 + 1))] [] w r := by
  have h2 := hb_ecw ((4, 2, 0, 1, 0) :: (0, 5, 3, 0, 1) :: (4, 0, 0, 0, 0) :: (6, 0, 2, 4, 0) :: []) (by decide +kernel) h
  exact h2
theorem eg60_137_t10_33_1 {n : Nat} {w : px_W} {r : Option Value × px_W} {x2 x3 s0 s1 : Int} (h : ec_E hb_X n 60 33 [(0, .inr (.inl 201)), (1, .inr (.inl 10)), (2, .inl x2), (3, .inl x3)] [.inl s1, .inl s0] w r) : ec_tw s0 ≠ ec_tw s1 → True ∧ r = (ec_R 0, w) ∧ ec_W hb_A w := by
  have h2 := hb_ecw ((4, 2, 1, 0, 0) :: (0, 2, 0, 0, 0) :: (6, 3, 0, 0, 0) :: []) (by decide +kernel) h
  exact h2
/-! X5_is -/
theorem eg60_137_t11_0_0 {n : Nat} {w : px_W} {r : Option Value × px_W} {x2 : Int} (h : ec_E hb_X n 60 0 [(0, .inr (.inl 201)), (1, .inr (.inl 11)), (2, .inl x2)] [] w r) : True ∧ ec_E hb_X n 60 2 [(0, .inr (.inl 201)), (1, .inr (.inl 11)), (2, .inl x2), (3, .inl 0)] [] w r := by
  have h2 := hb_ecw ((0, 2, 0, 0, 0) :: (0, 3, 3, 0, 0) :: (6, 0, 2, 4, 0) :: []) (by decide +kernel) h
  exact h2
theorem eg60_137_t11_2_0 {n : Nat} {w : px_W} {r : Option Value × px_W} {x2 x3 : Int} (h : ec_E hb_X n 60 2 [(0, .inr (.inl 201)), (1, .inr (.inl 11)), (2, .inl x2), (3, .inl x3)] [] w r) : True ∧ ∃ (v : Option Value) (w1 : px_W), ec_E hb_X n 295 0 [(0, .inr (.inl 11))] [] w (v, w1) ∧ ∀ zz : Int, v = ec_R zz → ec_W hb_A w1 → ec_E hb_X n 60 7 [(0, .inr (.inl 201)), (1, .inr (.inl 11)), (2, .inl x2), (3, .inl x3)] [.inl zz, .inl x3] w1 r := by
  have h2 := hb_ecw ((0, 0, 3, 0, 0) :: (0, 1, 1, 0, 0) :: (6, 1, 295, 1, 7) :: []) (by decide +kernel) h
  exact h2
theorem eg60_137_t11_7_0 {n : Nat} {w : px_W} {r : Option Value × px_W} {x2 x3 s0 s1 : Int} (h : ec_E hb_X n 60 7 [(0, .inr (.inl 201)), (1, .inr (.inl 11)), (2, .inl x2), (3, .inl x3)] [.inl s1, .inl s0] w r) : ec_tw s1 ≤ ec_tw s0 → True ∧ r = (ec_R 1, w) ∧ ec_W hb_A w := by
  have h2 := hb_ecw ((4, 2, 3, 1, 0) :: (0, 2, 0, 0, 1) :: (6, 3, 0, 0, 0) :: []) (by decide +kernel) h
  exact h2
theorem eg60_137_t11_7_1 {n : Nat} {w : px_W} {r : Option Value × px_W} {x2 x3 s0 s1 : Int} (h : ec_E hb_X n 60 7 [(0, .inr (.inl 201)), (1, .inr (.inl 11)), (2, .inl x2), (3, .inl x3)] [.inl s1, .inl s0] w r) : ec_tw s0 < ec_tw s1 → ec_tw (ec_fd w 137 0) ≤ ec_tw (x2 + x3) → True ∧ r = (ec_R 0, w) ∧ ec_W hb_A w := by
  have h2 := hb_ecw ((4, 2, 2, 0, 0) :: (0, 0, 2, 0, 0) :: (0, 0, 3, 0, 0) :: (1, 0, 0, 0, 0) :: (0, 1, 0, 0, 0) :: (5, 0, 137, 0, 0) :: (4, 2, 3, 1, 0) :: (0, 2, 0, 0, 0) :: (6, 3, 0, 0, 0) :: []) (by decide +kernel) h
  exact h2
theorem eg60_137_t11_7_2 {n : Nat} {w : px_W} {r : Option Value × px_W} {x2 x3 s0 s1 : Int} (h : ec_E hb_X n 60 7 [(0, .inr (.inl 201)), (1, .inr (.inl 11)), (2, .inl x2), (3, .inl x3)] [.inl s1, .inl s0] w r) : ec_tw s0 < ec_tw s1 → ec_tw (x2 + x3) < ec_tw (ec_fd w 137 0) → (True ∧ 0 ≤ ec_tw (x2 + x3) ∧ ec_tw (x2 + x3) < 200) ∧ ∃ (v : Option Value) (w1 : px_W), ec_E hb_X n 296 0 [(0, .inr (.inl 11)), (1, .inl x3)] [] w (v, w1) ∧ ∀ zz : Int, v = ec_R zz → ec_W hb_A w1 → ec_E hb_X n 60 33 [(0, .inr (.inl 201)), (1, .inr (.inl 11)), (2, .inl x2), (3, .inl x3)] [.inl zz, .inl (ec_rd w 138 (ec_tw (x2 + x3)))] w1 r := by
  have h2 := hb_ecw ((4, 2, 2, 0, 0) :: (0, 0, 2, 0, 0) :: (0, 0, 3, 0, 0) :: (1, 0, 0, 0, 0) :: (0, 1, 0, 0, 0) :: (5, 0, 137, 0, 0) :: (4, 2, 2, 0, 0) :: (0, 1, 0, 0, 0) :: (5, 1, 137, 202, 0) :: (0, 0, 2, 0, 0) :: (0, 0, 3, 0, 0) :: (1, 0, 0, 0, 0) :: (5, 2, 138, 0, 200) :: (0, 1, 1, 0, 0) :: (0, 0, 3, 0, 0) :: (6, 1, 296, 2, 33) :: []) (by decide +kernel) h
  exact h2
theorem eg60_137_t11_33_0 {n : Nat} {w : px_W} {r : Option Value × px_W} {x2 x3 s0 s1 : Int} (h : ec_E hb_X n 60 33 [(0, .inr (.inl 201)), (1, .inr (.inl 11)), (2, .inl x2), (3, .inl x3)] [.inl s1, .inl s0] w r) : ec_tw s0 = ec_tw s1 → True ∧ ec_E hb_X n 60 2 [(0, .inr (.inl 201)), (1, .inr (.inl 11)), (2, .inl x2), (3, .inl (x3 + 1))] [] w r := by
  have h2 := hb_ecw ((4, 2, 0, 1, 0) :: (0, 5, 3, 0, 1) :: (4, 0, 0, 0, 0) :: (6, 0, 2, 4, 0) :: []) (by decide +kernel) h
  exact h2
theorem eg60_137_t11_33_1 {n : Nat} {w : px_W} {r : Option Value × px_W} {x2 x3 s0 s1 : Int} (h : ec_E hb_X n 60 33 [(0, .inr (.inl 201)), (1, .inr (.inl 11)), (2, .inl x2), (3, .inl x3)] [.inl s1, .inl s0] w r) : ec_tw s0 ≠ ec_tw s1 → True ∧ r = (ec_R 0, w) ∧ ec_W hb_A w := by
  have h2 := hb_ecw ((4, 2, 1, 0, 0) :: (0, 2, 0, 0, 0) :: (6, 3, 0, 0, 0) :: []) (by decide +kernel) h
  exact h2
/-! X5_is -/
theorem eg60_137_t12_0_0 {n : Nat} {w : px_W} {r : Option Value × px_W} {x2 : Int} (h : ec_E hb_X n 60 0 [(0, .inr (.inl 201)), (1, .inr (.inl 12)), (2, .inl x2)] [] w r) : True ∧ ec_E hb_X n 60 2 [(0, .inr (.inl 201)), (1, .inr (.inl 12)), (2, .inl x2), (3, .inl 0)] [] w r := by
  have h2 := hb_ecw ((0, 2, 0, 0, 0) :: (0, 3, 3, 0, 0) :: (6, 0, 2, 4, 0) :: []) (by decide +kernel) h
  exact h2
theorem eg60_137_t12_2_0 {n : Nat} {w : px_W} {r : Option Value × px_W} {x2 x3 : Int} (h : ec_E hb_X n 60 2 [(0, .inr (.inl 201)), (1, .inr (.inl 12)), (2, .inl x2), (3, .inl x3)] [] w r) : True ∧ ∃ (v : Option Value) (w1 : px_W), ec_E hb_X n 295 0 [(0, .inr (.inl 12))] [] w (v, w1) ∧ ∀ zz : Int, v = ec_R zz → ec_W hb_A w1 → ec_E hb_X n 60 7 [(0, .inr (.inl 201)), (1, .inr (.inl 12)), (2, .inl x2), (3, .inl x3)] [.inl zz, .inl x3] w1 r := by
  have h2 := hb_ecw ((0, 0, 3, 0, 0) :: (0, 1, 1, 0, 0) :: (6, 1, 295, 1, 7) :: []) (by decide +kernel) h
  exact h2
theorem eg60_137_t12_7_0 {n : Nat} {w : px_W} {r : Option Value × px_W} {x2 x3 s0 s1 : Int} (h : ec_E hb_X n 60 7 [(0, .inr (.inl 201)), (1, .inr (.inl 12)), (2, .inl x2), (3, .inl x3)] [.inl s1, .inl s0] w r) : ec_tw s1 ≤ ec_tw s0 → True ∧ r = (ec_R 1, w) ∧ ec_W hb_A w := by
  have h2 := hb_ecw ((4, 2, 3, 1, 0) :: (0, 2, 0, 0, 1) :: (6, 3, 0, 0, 0) :: []) (by decide +kernel) h
  exact h2
theorem eg60_137_t12_7_1 {n : Nat} {w : px_W} {r : Option Value × px_W} {x2 x3 s0 s1 : Int} (h : ec_E hb_X n 60 7 [(0, .inr (.inl 201)), (1, .inr (.inl 12)), (2, .inl x2), (3, .inl x3)] [.inl s1, .inl s0] w r) : ec_tw s0 < ec_tw s1 → ec_tw (ec_fd w 137 0) ≤ ec_tw (x2 + x3) → True ∧ r = (ec_R 0, w) ∧ ec_W hb_A w := by
  have h2 := hb_ecw ((4, 2, 2, 0, 0) :: (0, 0, 2, 0, 0) :: (0, 0, 3, 0, 0) :: (1, 0, 0, 0, 0) :: (0, 1, 0, 0, 0) :: (5, 0, 137, 0, 0) :: (4, 2, 3, 1, 0) :: (0, 2, 0, 0, 0) :: (6, 3, 0, 0, 0) :: []) (by decide +kernel) h
  exact h2
theorem eg60_137_t12_7_2 {n : Nat} {w : px_W} {r : Option Value × px_W} {x2 x3 s0 s1 : Int} (h : ec_E hb_X n 60 7 [(0, .inr (.inl 201)), (1, .inr (.inl 12)), (2, .inl x2), (3, .inl x3)] [.inl s1, .inl s0] w r) : ec_tw s0 < ec_tw s1 → ec_tw (x2 + x3) < ec_tw (ec_fd w 137 0) → (True ∧ 0 ≤ ec_tw (x2 + x3) ∧ ec_tw (x2 + x3) < 200) ∧ ∃ (v : Option Value) (w1 : px_W), ec_E hb_X n 296 0 [(0, .inr (.inl 12)), (1, .inl x3)] [] w (v, w1) ∧ ∀ zz : Int, v = ec_R zz → ec_W hb_A w1 → ec_E hb_X n 60 33 [(0, .inr (.inl 201)), (1, .inr (.inl 12)), (2, .inl x2), (3, .inl x3)] [.inl zz, .inl (ec_rd w 138 (ec_tw (x2 + x3)))] w1 r := by
  have h2 := hb_ecw ((4, 2, 2, 0, 0) :: (0, 0, 2, 0, 0) :: (0, 0, 3, 0, 0) :: (1, 0, 0, 0, 0) :: (0, 1, 0, 0, 0) :: (5, 0, 137, 0, 0) :: (4, 2, 2, 0, 0) :: (0, 1, 0, 0, 0) :: (5, 1, 137, 202, 0) :: (0, 0, 2, 0, 0) :: (0, 0, 3, 0, 0) :: (1, 0, 0, 0, 0) :: (5, 2, 138, 0, 200) :: (0, 1, 1, 0, 0) :: (0, 0, 3, 0, 0) :: (6, 1, 296, 2, 33) :: []) (by decide +kernel) h
  exact h2
theorem eg60_137_t12_33_0 {n : Nat} {w : px_W} {r : Option Value × px_W} {x2 x3 s0 s1 : Int} (h : ec_E hb_X n 60 33 [(0, .inr (.inl 201)), (1, .inr (.inl 12)), (2, .inl x2), (3, .inl x3)] [.inl s1, .inl s0] w r) : ec_tw s0 = ec_tw s1 → True ∧ ec_E hb_X n 60 2 [(0, .inr (.inl 201)), (1, .inr (.inl 12)), (2, .inl x2), (3, .inl (x3 + 1))] [] w r := by
  have h2 := hb_ecw ((4, 2, 0, 1, 0) :: (0, 5, 3, 0, 1) :: (4, 0, 0, 0, 0) :: (6, 0, 2, 4, 0) :: []) (by decide +kernel) h
  exact h2
theorem eg60_137_t12_33_1 {n : Nat} {w : px_W} {r : Option Value × px_W} {x2 x3 s0 s1 : Int} (h : ec_E hb_X n 60 33 [(0, .inr (.inl 201)), (1, .inr (.inl 12)), (2, .inl x2), (3, .inl x3)] [.inl s1, .inl s0] w r) : ec_tw s0 ≠ ec_tw s1 → True ∧ r = (ec_R 0, w) ∧ ec_W hb_A w := by
  have h2 := hb_ecw ((4, 2, 1, 0, 0) :: (0, 2, 0, 0, 0) :: (6, 3, 0, 0, 0) :: []) (by decide +kernel) h
  exact h2
/-! X5_is -/
theorem eg60_137_t13_0_0 {n : Nat} {w : px_W} {r : Option Value × px_W} {x2 : Int} (h : ec_E hb_X n 60 0 [(0, .inr (.inl 201)), (1, .inr (.inl 13)), (2, .inl x2)] [] w r) : True ∧ ec_E hb_X n 60 2 [(0, .inr (.inl 201)), (1, .inr (.inl 13)), (2, .inl x2), (3, .inl 0)] [] w r := by
  have h2 := hb_ecw ((0, 2, 0, 0, 0) :: (0, 3, 3, 0, 0) :: (6, 0, 2, 4, 0) :: []) (by decide +kernel) h
  exact h2
theorem eg60_137_t13_2_0 {n : Nat} {w : px_W} {r : Option Value × px_W} {x2 x3 : Int} (h : ec_E hb_X n 60 2 [(0, .inr (.inl 201)), (1, .inr (.inl 13)), (2, .inl x2), (3, .inl x3)] [] w r) : True ∧ ∃ (v : Option Value) (w1 : px_W), ec_E hb_X n 295 0 [(0, .inr (.inl 13))] [] w (v, w1) ∧ ∀ zz : Int, v = ec_R zz → ec_W hb_A w1 → ec_E hb_X n 60 7 [(0, .inr (.inl 201)), (1, .inr (.inl 13)), (2, .inl x2), (3, .inl x3)] [.inl zz, .inl x3] w1 r := by
  have h2 := hb_ecw ((0, 0, 3, 0, 0) :: (0, 1, 1, 0, 0) :: (6, 1, 295, 1, 7) :: []) (by decide +kernel) h
  exact h2
theorem eg60_137_t13_7_0 {n : Nat} {w : px_W} {r : Option Value × px_W} {x2 x3 s0 s1 : Int} (h : ec_E hb_X n 60 7 [(0, .inr (.inl 201)), (1, .inr (.inl 13)), (2, .inl x2), (3, .inl x3)] [.inl s1, .inl s0] w r) : ec_tw s1 ≤ ec_tw s0 → True ∧ r = (ec_R 1, w) ∧ ec_W hb_A w := by
  have h2 := hb_ecw ((4, 2, 3, 1, 0) :: (0, 2, 0, 0, 1) :: (6, 3, 0, 0, 0) :: []) (by decide +kernel) h
  exact h2
theorem eg60_137_t13_7_1 {n : Nat} {w : px_W} {r : Option Value × px_W} {x2 x3 s0 s1 : Int} (h : ec_E hb_X n 60 7 [(0, .inr (.inl 201)), (1, .inr (.inl 13)), (2, .inl x2), (3, .inl x3)] [.inl s1, .inl s0] w r) : ec_tw s0 < ec_tw s1 → ec_tw (ec_fd w 137 0) ≤ ec_tw (x2 + x3) → True ∧ r = (ec_R 0, w) ∧ ec_W hb_A w := by
  have h2 := hb_ecw ((4, 2, 2, 0, 0) :: (0, 0, 2, 0, 0) :: (0, 0, 3, 0, 0) :: (1, 0, 0, 0, 0) :: (0, 1, 0, 0, 0) :: (5, 0, 137, 0, 0) :: (4, 2, 3, 1, 0) :: (0, 2, 0, 0, 0) :: (6, 3, 0, 0, 0) :: []) (by decide +kernel) h
  exact h2
theorem eg60_137_t13_7_2 {n : Nat} {w : px_W} {r : Option Value × px_W} {x2 x3 s0 s1 : Int} (h : ec_E hb_X n 60 7 [(0, .inr (.inl 201)), (1, .inr (.inl 13)), (2, .inl x2), (3, .inl x3)] [.inl s1, .inl s0] w r) : ec_tw s0 < ec_tw s1 → ec_tw (x2 + x3) < ec_tw (ec_fd w 137 0) → (True ∧ 0 ≤ ec_tw (x2 + x3) ∧ ec_tw (x2 + x3) < 200) ∧ ∃ (v : Option Value) (w1 : px_W), ec_E hb_X n 296 0 [(0, .inr (.inl 13)), (1, .inl x3)] [] w (v, w1) ∧ ∀ zz : Int, v = ec_R zz → ec_W hb_A w1 → ec_E hb_X n 60 33 [(0, .inr (.inl 201)), (1, .inr (.inl 13)), (2, .inl x2), (3, .inl x3)] [.inl zz, .inl (ec_rd w 138 (ec_tw (x2 + x3)))] w1 r := by
  have h2 := hb_ecw ((4, 2, 2, 0, 0) :: (0, 0, 2, 0, 0) :: (0, 0, 3, 0, 0) :: (1, 0, 0, 0, 0) :: (0, 1, 0, 0, 0) :: (5, 0, 137, 0, 0) :: (4, 2, 2, 0, 0) :: (0, 1, 0, 0, 0) :: (5, 1, 137, 202, 0) :: (0, 0, 2, 0, 0) :: (0, 0, 3, 0, 0) :: (1, 0, 0, 0, 0) :: (5, 2, 138, 0, 200) :: (0, 1, 1, 0, 0) :: (0, 0, 3, 0, 0) :: (6, 1, 296, 2, 33) :: []) (by decide +kernel) h
  exact h2
theorem eg60_137_t13_33_0 {n : Nat} {w : px_W} {r : Option Value × px_W} {x2 x3 s0 s1 : Int} (h : ec_E hb_X n 60 33 [(0, .inr (.inl 201)), (1, .inr (.inl 13)), (2, .inl x2), (3, .inl x3)] [.inl s1, .inl s0] w r) : ec_tw s0 = ec_tw s1 → True ∧ ec_E hb_X n 60 2 [(0, .inr (.inl 201)), (1, .inr (.inl 13)), (2, .inl x2), (3, .inl (x3 + 1))] [] w r := by
  have h2 := hb_ecw ((4, 2, 0, 1, 0) :: (0, 5, 3, 0, 1) :: (4, 0, 0, 0, 0) :: (6, 0, 2, 4, 0) :: []) (by decide +kernel) h
  exact h2
theorem eg60_137_t13_33_1 {n : Nat} {w : px_W} {r : Option Value × px_W} {x2 x3 s0 s1 : Int} (h : ec_E hb_X n 60 33 [(0, .inr (.inl 201)), (1, .inr (.inl 13)), (2, .inl x2), (3, .inl x3)] [.inl s1, .inl s0] w r) : ec_tw s0 ≠ ec_tw s1 → True ∧ r = (ec_R 0, w) ∧ ec_W hb_A w := by
  have h2 := hb_ecw ((4, 2, 1, 0, 0) :: (0, 2, 0, 0, 0) :: (6, 3, 0, 0, 0) :: []) (by decide +kernel) h
  exact h2
/-! X5_is -/
theorem eg60_137_t14_0_0 {n : Nat} {w : px_W} {r : Option Value × px_W} {x2 : Int} (h : ec_E hb_X n 60 0 [(0, .inr (.inl 201)), (1, .inr (.inl 14)), (2, .inl x2)] [] w r) : True ∧ ec_E hb_X n 60 2 [(0, .inr (.inl 201)), (1, .inr (.inl 14)), (2, .inl x2), (3, .inl 0)] [] w r := by
  have h2 := hb_ecw ((0, 2, 0, 0, 0) :: (0, 3, 3, 0, 0) :: (6, 0, 2, 4, 0) :: []) (by decide +kernel) h
  exact h2
theorem eg60_137_t14_2_0 {n : Nat} {w : px_W} {r : Option Value × px_W} {x2 x3 : Int} (h : ec_E hb_X n 60 2 [(0, .inr (.inl 201)), (1, .inr (.inl 14)), (2, .inl x2), (3, .inl x3)] [] w r) : True ∧ ∃ (v : Option Value) (w1 : px_W), ec_E hb_X n 295 0 [(0, .inr (.inl 14))] [] w (v, w1) ∧ ∀ zz : Int, v = ec_R zz → ec_W hb_A w1 → ec_E hb_X n 60 7 [(0, .inr (.inl 201)), (1, .inr (.inl 14)), (2, .inl x2), (3, .inl x3)] [.inl zz, .inl x3] w1 r := by
  have h2 := hb_ecw ((0, 0, 3, 0, 0) :: (0, 1, 1, 0, 0) :: (6, 1, 295, 1, 7) :: []) (by decide +kernel) h
  exact h2
theorem eg60_137_t14_7_0 {n : Nat} {w : px_W} {r : Option Value × px_W} {x2 x3 s0 s1 : Int} (h : ec_E hb_X n 60 7 [(0, .inr (.inl 201)), (1, .inr (.inl 14)), (2, .inl x2), (3, .inl x3)] [.inl s1, .inl s0] w r) : ec_tw s1 ≤ ec_tw s0 → True ∧ r = (ec_R 1, w) ∧ ec_W hb_A w := by
  have h2 := hb_ecw ((4, 2, 3, 1, 0) :: (0, 2, 0, 0, 1) :: (6, 3, 0, 0, 0) :: []) (by decide +kernel) h
  exact h2
theorem eg60_137_t14_7_1 {n : Nat} {w : px_W} {r : Option Value × px_W} {x2 x3 s0 s1 : Int} (h : ec_E hb_X n 60 7 [(0, .inr (.inl 201)), (1, .inr (.inl 14)), (2, .inl x2), (3, .inl x3)] [.inl s1, .inl s0] w r) : ec_tw s0 < ec_tw s1 → ec_tw (ec_fd w 137 0) ≤ ec_tw (x2 + x3) → True ∧ r = (ec_R 0, w) ∧ ec_W hb_A w := by
  have h2 := hb_ecw ((4, 2, 2, 0, 0) :: (0, 0, 2, 0, 0) :: (0, 0, 3, 0, 0) :: (1, 0, 0, 0, 0) :: (0, 1, 0, 0, 0) :: (5, 0, 137, 0, 0) :: (4, 2, 3, 1, 0) :: (0, 2, 0, 0, 0) :: (6, 3, 0, 0, 0) :: []) (by decide +kernel) h
  exact h2
theorem eg60_137_t14_7_2 {n : Nat} {w : px_W} {r : Option Value × px_W} {x2 x3 s0 s1 : Int} (h : ec_E hb_X n 60 7 [(0, .inr (.inl 201)), (1, .inr (.inl 14)), (2, .inl x2), (3, .inl x3)] [.inl s1, .inl s0] w r) : ec_tw s0 < ec_tw s1 → ec_tw (x2 + x3) < ec_tw (ec_fd w 137 0) → (True ∧ 0 ≤ ec_tw (x2 + x3) ∧ ec_tw (x2 + x3) < 200) ∧ ∃ (v : Option Value) (w1 : px_W), ec_E hb_X n 296 0 [(0, .inr (.inl 14)), (1, .inl x3)] [] w (v, w1) ∧ ∀ zz : Int, v = ec_R zz → ec_W hb_A w1 → ec_E hb_X n 60 33 [(0, .inr (.inl 201)), (1, .inr (.inl 14)), (2, .inl x2), (3, .inl x3)] [.inl zz, .inl (ec_rd w 138 (ec_tw (x2 + x3)))] w1 r := by
  have h2 := hb_ecw ((4, 2, 2, 0, 0) :: (0, 0, 2, 0, 0) :: (0, 0, 3, 0, 0) :: (1, 0, 0, 0, 0) :: (0, 1, 0, 0, 0) :: (5, 0, 137, 0, 0) :: (4, 2, 2, 0, 0) :: (0, 1, 0, 0, 0) :: (5, 1, 137, 202, 0) :: (0, 0, 2, 0, 0) :: (0, 0, 3, 0, 0) :: (1, 0, 0, 0, 0) :: (5, 2, 138, 0, 200) :: (0, 1, 1, 0, 0) :: (0, 0, 3, 0, 0) :: (6, 1, 296, 2, 33) :: []) (by decide +kernel) h
  exact h2
theorem eg60_137_t14_33_0 {n : Nat} {w : px_W} {r : Option Value × px_W} {x2 x3 s0 s1 : Int} (h : ec_E hb_X n 60 33 [(0, .inr (.inl 201)), (1, .inr (.inl 14)), (2, .inl x2), (3, .inl x3)] [.inl s1, .inl s0] w r) : ec_tw s0 = ec_tw s1 → True ∧ ec_E hb_X n 60 2 [(0, .inr (.inl 201)), (1, .inr (.inl 14)), (2, .inl x2), (3, .inl (x3 + 1))] [] w r := by
  have h2 := hb_ecw ((4, 2, 0, 1, 0) :: (0, 5, 3, 0, 1) :: (4, 0, 0, 0, 0) :: (6, 0, 2, 4, 0) :: []) (by decide +kernel) h
  exact h2
theorem eg60_137_t14_33_1 {n : Nat} {w : px_W} {r : Option Value × px_W} {x2 x3 s0 s1 : Int} (h : ec_E hb_X n 60 33 [(0, .inr (.inl 201)), (1, .inr (.inl 14)), (2, .inl x2), (3, .inl x3)] [.inl s1, .inl s0] w r) : ec_tw s0 ≠ ec_tw s1 → True ∧ r = (ec_R 0, w) ∧ ec_W hb_A w := by
  have h2 := hb_ecw ((4, 2, 1, 0, 0) :: (0, 2, 0, 0, 0) :: (6, 3, 0, 0, 0) :: []) (by decide +kernel) h
  exact h2
/-! X5_is -/
theorem eg60_137_t15_0_0 {n : Nat} {w : px_W} {r : Option Value × px_W} {x2 : Int} (h : ec_E hb_X n 60 0 [(0, .inr (.inl 201)), (1, .inr (.inl 15)), (2, .inl x2)] [] w r) : True ∧ ec_E hb_X n 60 2 [(0, .inr (.inl 201)), (1, .inr (.inl 15)), (2, .inl x2), (3, .inl 0)] [] w r := by
  have h2 := hb_ecw ((0, 2, 0, 0, 0) :: (0, 3, 3, 0, 0) :: (6, 0, 2, 4, 0) :: []) (by decide +kernel) h
  exact h2
theorem eg60_137_t15_2_0 {n : Nat} {w : px_W} {r : Option Value × px_W} {x2 x3 : Int} (h : ec_E hb_X n 60 2 [(0, .inr (.inl 201)), (1, .inr (.inl 15)), (2, .inl x2), (3, .inl x3)] [] w r) : True ∧ ∃ (v : Option Value) (w1 : px_W), ec_E hb_X n 295 0 [(0, .inr (.inl 15))] [] w (v, w1) ∧ ∀ zz : Int, v = ec_R zz → ec_W hb_A w1 → ec_E hb_X n 60 7 [(0, .inr (.inl 201)), (1, .inr (.inl 15)), (2, .inl x2), (3, .inl x3)] [.inl zz, .inl x3] w1 r := by
  have h2 := hb_ecw ((0, 0, 3, 0, 0) :: (0, 1, 1, 0, 0) :: (6, 1, 295, 1, 7) :: []) (by decide +kernel) h
  exact h2
theorem eg60_137_t15_7_0 {n : Nat} {w : px_W} {r : Option Value × px_W} {x2 x3 s0 s1 : Int} (h : ec_E hb_X n 60 7 [(0, .inr (.inl 201)), (1, .inr (.inl 15)), (2, .inl x2), (3, .inl x3)] [.inl s1, .inl s0] w r) : ec_tw s1 ≤ ec_tw s0 → True ∧ r = (ec_R 1, w) ∧ ec_W hb_A w := by
  have h2 := hb_ecw ((4, 2, 3, 1, 0) :: (0, 2, 0, 0, 1) :: (6, 3, 0, 0, 0) :: []) (by decide +kernel) h
  exact h2
theorem eg60_137_t15_7_1 {n : Nat} {w : px_W} {r : Option Value × px_W} {x2 x3 s0 s1 : Int} (h : ec_E hb_X n 60 7 [(0, .inr (.inl 201)), (1, .inr (.inl 15)), (2, .inl x2), (3, .inl x3)] [.inl s1, .inl s0] w r) : ec_tw s0 < ec_tw s1 → ec_tw (ec_fd w 137 0) ≤ ec_tw (x2 + x3) → True ∧ r = (ec_R 0, w) ∧ ec_W hb_A w := by
  have h2 := hb_ecw ((4, 2, 2, 0, 0) :: (0, 0, 2, 0, 0) :: (0, 0, 3, 0, 0) :: (1, 0, 0, 0, 0) :: (0, 1, 0, 0, 0) :: (5, 0, 137, 0, 0) :: (4, 2, 3, 1, 0) :: (0, 2, 0, 0, 0) :: (6, 3, 0, 0, 0) :: []) (by decide +kernel) h
  exact h2
theorem eg60_137_t15_7_2 {n : Nat} {w : px_W} {r : Option Value × px_W} {x2 x3 s0 s1 : Int} (h : ec_E hb_X n 60 7 [(0, .inr (.inl 201)), (1, .inr (.inl 15)), (2, .inl x2), (3, .inl x3)] [.inl s1, .inl s0] w r) : ec_tw s0 < ec_tw s1 → ec_tw (x2 + x3) < ec_tw (ec_fd w 137 0) → (True ∧ 0 ≤ ec_tw (x2 + x3) ∧ ec_tw (x2 + x3) < 200) ∧ ∃ (v : Option Value) (w1 : px_W), ec_E hb_X n 296 0 [(0, .inr (.inl 15)), (1, .inl x3)] [] w (v, w1) ∧ ∀ zz : Int, v = ec_R zz → ec_W hb_A w1 → ec_E hb_X n 60 33 [(0, .inr (.inl 201)), (1, .inr (.inl 15)), (2, .inl x2), (3, .inl x3)] [.inl zz, .inl (ec_rd w 138 (ec_tw (x2 + x3)))] w1 r := by
  have h2 := hb_ecw ((4, 2, 2, 0, 0) :: (0, 0, 2, 0, 0) :: (0, 0, 3, 0, 0) :: (1, 0, 0, 0, 0) :: (0, 1, 0, 0, 0) :: (5, 0, 137, 0, 0) :: (4, 2, 2, 0, 0) :: (0, 1, 0, 0, 0) :: (5, 1, 137, 202, 0) :: (0, 0, 2, 0, 0) :: (0, 0, 3, 0, 0) :: (1, 0, 0, 0, 0) :: (5, 2, 138, 0, 200) :: (0, 1, 1, 0, 0) :: (0, 0, 3, 0, 0) :: (6, 1, 296, 2, 33) :: []) (by decide +kernel) h
  exact h2
theorem eg60_137_t15_33_0 {n : Nat} {w : px_W} {r : Option Value × px_W} {x2 x3 s0 s1 : Int} (h : ec_E hb_X n 60 33 [(0, .inr (.inl 201)), (1, .inr (.inl 15)), (2, .inl x2), (3, .inl x3)] [.inl s1, .inl s0] w r) : ec_tw s0 = ec_tw s1 → True ∧ ec_E hb_X n 60 2 [(0, .inr (.inl 201)), (1, .inr (.inl 15)), (2, .inl x2), (3, .inl (x3 + 1))] [] w r := by
  have h2 := hb_ecw ((4, 2, 0, 1, 0) :: (0, 5, 3, 0, 1) :: (4, 0, 0, 0, 0) :: (6, 0, 2, 4, 0) :: []) (by decide +kernel) h
  exact h2
theorem eg60_137_t15_33_1 {n : Nat} {w : px_W} {r : Option Value × px_W} {x2 x3 s0 s1 : Int} (h : ec_E hb_X n 60 33 [(0, .inr (.inl 201)), (1, .inr (.inl 15)), (2, .inl x2), (3, .inl x3)] [.inl s1, .inl s0] w r) : ec_tw s0 ≠ ec_tw s1 → True ∧ r = (ec_R 0, w) ∧ ec_W hb_A w := by
  have h2 := hb_ecw ((4, 2, 1, 0, 0) :: (0, 2, 0, 0, 0) :: (6, 3, 0, 0, 0) :: []) (by decide +kernel) h
  exact h2
/-! X5_is -/
theorem eg60_137_t16_0_0 {n : Nat} {w : px_W} {r : Option Value × px_W} {x2 : Int} (h : ec_E hb_X n 60 0 [(0, .inr (.inl 201)), (1, .inr (.inl 16)), (2, .inl x2)] [] w r) : True ∧ ec_E hb_X n 60 2 [(0, .inr (.inl 201)), (1, .inr (.inl 16)), (2, .inl x2), (3, .inl 0)] [] w r := by
  have h2 := hb_ecw ((0, 2, 0, 0, 0) :: (0, 3, 3, 0, 0) :: (6, 0, 2, 4, 0) :: []) (by decide +kernel) h
  exact h2
theorem eg60_137_t16_2_0 {n : Nat} {w : px_W} {r : Option Value × px_W} {x2 x3 : Int} (h : ec_E hb_X n 60 2 [(0, .inr (.inl 201)), (1, .inr (.inl 16)), (2, .inl x2), (3, .inl x3)] [] w r) : True ∧ ∃ (v : Option Value) (w1 : px_W), ec_E hb_X n 295 0 [(0, .inr (.inl 16))] [] w (v, w1) ∧ ∀ zz : Int, v = ec_R zz → ec_W hb_A w1 → ec_E hb_X n 60 7 [(0, .inr (.inl 201)), (1, .inr (.inl 16)), (2, .inl x2), (3, .inl x3)] [.inl zz, .inl x3] w1 r := by
  have h2 := hb_ecw ((0, 0, 3, 0, 0) :: (0, 1, 1, 0, 0) :: (6, 1, 295, 1, 7) :: []) (by decide +kernel) h
  exact h2
theorem eg60_137_t16_7_0 {n : Nat} {w : px_W} {r : Option Value × px_W} {x2 x3 s0 s1 : Int} (h : ec_E hb_X n 60 7 [(0, .inr (.inl 201)), (1, .inr (.inl 16)), (2, .inl x2), (3, .inl x3)] [.inl s1, .inl s0] w r) : ec_tw s1 ≤ ec_tw s0 → True ∧ r = (ec_R 1, w) ∧ ec_W hb_A w := by
  have h2 := hb_ecw ((4, 2, 3, 1, 0) :: (0, 2, 0, 0, 1) :: (6, 3, 0, 0, 0) :: []) (by decide +kernel) h
  exact h2
theorem eg60_137_t16_7_1 {n : Nat} {w : px_W} {r : Option Value × px_W} {x2 x3 s0 s1 : Int} (h : ec_E hb_X n 60 7 [(0, .inr (.inl 201)), (1, .inr (.inl 16)), (2, .inl x2), (3, .inl x3)] [.inl s1, .inl s0] w r) : ec_tw s0 < ec_tw s1 → ec_tw (ec_fd w 137 0) ≤ ec_tw (x2 + x3) → True ∧ r = (ec_R 0, w) ∧ ec_W hb_A w := by
  have h2 := hb_ecw ((4, 2, 2, 0, 0) :: (0, 0, 2, 0, 0) :: (0, 0, 3, 0, 0) :: (1, 0, 0, 0, 0) :: (0, 1, 0, 0, 0) :: (5, 0, 137, 0, 0) :: (4, 2, 3, 1, 0) :: (0, 2, 0, 0, 0) :: (6, 3, 0, 0, 0) :: []) (by decide +kernel) h
  exact h2
theorem eg60_137_t16_7_2 {n : Nat} {w : px_W} {r : Option Value × px_W} {x2 x3 s0 s1 : Int} (h : ec_E hb_X n 60 7 [(0, .inr (.inl 201)), (1, .inr (.inl 16)), (2, .inl x2), (3, .inl x3)] [.inl s1, .inl s0] w r) : ec_tw s0 < ec_tw s1 → ec_tw (x2 + x3) < ec_tw (ec_fd w 137 0) → (True ∧ 0 ≤ ec_tw (x2 + x3) ∧ ec_tw (x2 + x3) < 200) ∧ ∃ (v : Option Value) (w1 : px_W), ec_E hb_X n 296 0 [(0, .inr (.inl 16)), (1, .inl x3)] [] w (v, w1) ∧ ∀ zz : Int, v = ec_R zz → ec_W hb_A w1 → ec_E hb_X n 60 33 [(0, .inr (.inl 201)), (1, .inr (.inl 16)), (2, .inl x2), (3, .inl x3)] [.inl zz, .inl (ec_rd w 138 (ec_tw (x2 + x3)))] w1 r := by
  have h2 := hb_ecw ((4, 2, 2, 0, 0) :: (0, 0, 2, 0, 0) :: (0, 0, 3, 0, 0) :: (1, 0, 0, 0, 0) :: (0, 1, 0, 0, 0) :: (5, 0, 137, 0, 0) :: (4, 2, 2, 0, 0) :: (0, 1, 0, 0, 0) :: (5, 1, 137, 202, 0) :: (0, 0, 2, 0, 0) :: (0, 0, 3, 0, 0) :: (1, 0, 0, 0, 0) :: (5, 2, 138, 0, 200) :: (0, 1, 1, 0, 0) :: (0, 0, 3, 0, 0) :: (6, 1, 296, 2, 33) :: []) (by decide +kernel) h
  exact h2
theorem eg60_137_t16_33_0 {n : Nat} {w : px_W} {r : Option Value × px_W} {x2 x3 s0 s1 : Int} (h : ec_E hb_X n 60 33 [(0, .inr (.inl 201)), (1, .inr (.inl 16)), (2, .inl x2), (3, .inl x3)] [.inl s1, .inl s0] w r) : ec_tw s0 = ec_tw s1 → True ∧ ec_E hb_X n 60 2 [(0, .inr (.inl 201)), (1, .inr (.inl 16)), (2, .inl x2), (3, .inl (x3 + 1))] [] w r := by
  have h2 := hb_ecw ((4, 2, 0, 1, 0) :: (0, 5, 3, 0, 1) :: (4, 0, 0, 0, 0) :: (6, 0, 2, 4, 0) :: []) (by decide +kernel) h
  exact h2
theorem eg60_137_t16_33_1 {n : Nat} {w : px_W} {r : Option Value × px_W} {x2 x3 s0 s1 : Int} (h : ec_E hb_X n 60 33 [(0, .inr (.inl 201)), (1, .inr (.inl 16)), (2, .inl x2), (3, .inl x3)] [.inl s1, .inl s0] w r) : ec_tw s0 ≠ ec_tw s1 → True ∧ r = (ec_R 0, w) ∧ ec_W hb_A w := by
  have h2 := hb_ecw ((4, 2, 1, 0, 0) :: (0, 2, 0, 0, 0) :: (6, 3, 0, 0, 0) :: []) (by decide +kernel) h
  exact h2

end

noncomputable section
/-! paths of what is copied -/
theorem eg40_1_0_0 {n : Nat} {w : px_W} {r : Option Value × px_W} (h : ec_E hb_X n 40 0 [(0, .inr (.inl 65))] [] w r) : True ∧ ec_E hb_X n 40 9 [(0, .inr (.inl 65)), (1, .inl 0), (2, .inl 0)] [] (ec_pf w 1 8 0) r := by
  have h2 := hb_ecw ((0, 2, 0, 0, 0) :: (0, 3, 1, 0, 0) :: (0, 1, 0, 0, 0) :: (0, 2, 0, 0, 0) :: (5, 4, 1, 8, 0) :: (0, 2, 0, 0, 0) :: (0, 3, 2, 0, 0) :: (6, 0, 9, 3, 0) :: []) (by decide +kernel) h
  exact h2
theorem eg40_1_9_0 {n : Nat} {w : px_W} {r : Option Value × px_W} {x1 x2 : Int} (h : ec_E hb_X n 40 9 [(0, .inr (.inl 65)), (1, .inl x1), (2, .inl x2)] [] w r) : ec_tw 8 ≤ ec_tw x2 → (True ∧ ec_tw 100 ≠ 0) ∧ r = (none, ec_pf w 1 9 (ec_dv x1 100)) ∧ ec_W hb_A (ec_pf w 1 9 (ec_dv x1 100)) := by
  have h2 := hb_ecw ((0, 0, 2, 0, 0) :: (0, 2, 0, 0, 8) :: (4, 2, 3, 1, 0) :: (0, 1, 0, 0, 0) :: (0, 0, 1, 0, 0) :: (0, 2, 0, 0, 100) :: (2, 0, 0, 0, 0) :: (5, 4, 1, 9, 0) :: (6, 4, 0, 0, 0) :: []) (by decide +kernel) h
  exact h2
theorem eg40_1_9_1 {n : Nat} {w : px_W} {r : Option Value × px_W} {x1 x2 : Int} (h : ec_E hb_X n 40 9 [(0, .inr (.inl 65)), (1, .inl x1), (2, .inl x2)] [] w r) : ec_tw x2 < ec_tw 8 → ((True ∧ 0 ≤ ec_tw x2 ∧ ec_tw x2 < 8) ∧ 0 ≤ ec_tw x2 ∧ ec_tw x2 < 8) ∧ ec_E hb_X n 40 9 [(0, .inr (.inl 65)), (1, .inl (x1 + ((ec_rd (ec_pf w 1 8 ((ec_fd w 1 8) + (ec_rd w 3 (ec_tw x2)))) 3 (ec_tw x2)) * (7 - (2 * x2))))), (2, .inl (x2 + 1))] [] (ec_pf w 1 8 ((ec_fd w 1 8) + (ec_rd w 3 (ec_tw x2)))) r := by
  have h2 := hb_ecw ((0, 0, 2, 0, 0) :: (0, 2, 0, 0, 8) :: (4, 2, 2, 0, 0) :: (0, 1, 0, 0, 0) :: (3, 0, 0, 0, 0) :: (5, 0, 1, 8, 0) :: (0, 1, 0, 0, 0) :: (5, 1, 1, 67, 0) :: (0, 0, 2, 0, 0) :: (5, 2, 3, 0, 8) :: (1, 0, 0, 0, 0) :: (5, 4, 1, 8, 0) :: (0, 0, 1, 0, 0) :: (0, 1, 0, 0, 0) :: (5, 1, 1, 67, 0) :: (0, 0, 2, 0, 0) :: (5, 2, 3, 0, 8) :: (0, 2, 0, 0, 7) :: (0, 2, 0, 0, 2) :: (0, 0, 2, 0, 0) :: (1, 2, 0, 0, 0) :: (1, 1, 0, 0, 0) :: (1, 2, 0, 0, 0) :: (1, 0, 0, 0, 0) :: (0, 3, 1, 0, 0) :: (0, 5, 2, 0, 1) :: (4, 0, 0, 0, 0) :: (6, 0, 9, 3, 0) :: []) (by decide +kernel) h
  exact h2
theorem eg40_59_0_0 {n : Nat} {w : px_W} {r : Option Value × px_W} (h : ec_E hb_X n 40 0 [(0, .inr (.inl 123))] [] w r) : True ∧ ec_E hb_X n 40 9 [(0, .inr (.inl 123)), (1, .inl 0), (2, .inl 0)] [] (ec_pf w 59 8 0) r := by
  have h2 := hb_ecw ((0, 2, 0, 0, 0) :: (0, 3, 1, 0, 0) :: (0, 1, 0, 0, 0) :: (0, 2, 0, 0, 0) :: (5, 4, 59, 8, 0) :: (0, 2, 0, 0, 0) :: (0, 3, 2, 0, 0) :: (6, 0, 9, 3, 0) :: []) (by decide +kernel) h
  exact h2
theorem eg40_59_9_0 {n : Nat} {w : px_W} {r : Option Value × px_W} {x1 x2 : Int} (h : ec_E hb_X n 40 9 [(0, .inr (.inl 123)), (1, .inl x1), (2, .inl x2)] [] w r) : ec_tw 8 ≤ ec_tw x2 → (True ∧ ec_tw 100 ≠ 0) ∧ r = (none, ec_pf w 59 9 (ec_dv x1 100)) ∧ ec_W hb_A (ec_pf w 59 9 (ec_dv x1 100)) := by
  have h2 := hb_ecw ((0, 0, 2, 0, 0) :: (0, 2, 0, 0, 8) :: (4, 2, 3, 1, 0) :: (0, 1, 0, 0, 0) :: (0, 0, 1, 0, 0) :: (0, 2, 0, 0, 100) :: (2, 0, 0, 0, 0) :: (5, 4, 59, 9, 0) :: (6, 4, 0, 0, 0) :: []) (by decide +kernel) h
  exact h2
theorem eg40_59_9_1 {n : Nat} {w : px_W} {r : Option Value × px_W} {x1 x2 : Int} (h : ec_E hb_X n 40 9 [(0, .inr (.inl 123)), (1, .inl x1), (2, .inl x2)] [] w r) : ec_tw x2 < ec_tw 8 → ((True ∧ 0 ≤ ec_tw x2 ∧ ec_tw x2 < 8) ∧ 0 ≤ ec_tw x2 ∧ ec_tw x2 < 8) ∧ ec_E hb_X n 40 9 [(0, .inr (.inl 123)), (1, .inl (x1 + ((ec_rd (ec_pf w 59 8 ((ec_fd w 59 8) + (ec_rd w 61 (ec_tw x2)))) 61 (ec_tw x2)) * (7 - (2 * x2))))), (2, .inl (x2 + 1))] [] (ec_pf w 59 8 ((ec_fd w 59 8) + (ec_rd w 61 (ec_tw x2)))) r := by
  have h2 := hb_ecw ((0, 0, 2, 0, 0) :: (0, 2, 0, 0, 8) :: (4, 2, 2, 0, 0) :: (0, 1, 0, 0, 0) :: (3, 0, 0, 0, 0) :: (5, 0, 59, 8, 0) :: (0, 1, 0, 0, 0) :: (5, 1, 59, 125, 0) :: (0, 0, 2, 0, 0) :: (5, 2, 61, 0, 8) :: (1, 0, 0, 0, 0) :: (5, 4, 59, 8, 0) :: (0, 0, 1, 0, 0) :: (0, 1, 0, 0, 0) :: (5, 1, 59, 125, 0) :: (0, 0, 2, 0, 0) :: (5, 2, 61, 0, 8) :: (0, 2, 0, 0, 7) :: (0, 2, 0, 0, 2) :: (0, 0, 2, 0, 0) :: (1, 2, 0, 0, 0) :: (1, 1, 0, 0, 0) :: (1, 2, 0, 0, 0) :: (1, 0, 0, 0, 0) :: (0, 3, 1, 0, 0) :: (0, 5, 2, 0, 1) :: (4, 0, 0, 0, 0) :: (6, 0, 9, 3, 0) :: []) (by decide +kernel) h
  exact h2
theorem eg32_59_0_0 {n : Nat} {w : px_W} {r : Option Value × px_W} (h : ec_E hb_X n 32 0 [(0, .inr (.inl 123)), (1, .inr (.inl 65))] [] w r) : True ∧ ∃ (v : Option Value) (w1 : px_W), ec_E hb_X n 176 0 [(0, .inr (.inl 66)), (1, .inr (.inl 124))] [] (ec_pf (ec_pf w 59 0 (ec_fd w 1 0)) 59 1 (ec_fd (ec_pf w 59 0 (ec_fd w 1 0)) 1 1)) (v, w1) ∧ (v = none → ec_W hb_A w1 → ec_E hb_X n 32 27 [(0, .inr (.inl 123)), (1, .inr (.inl 65))] [] w1 r) := by
  have h2 := hb_ecw ((0, 1, 0, 0, 0) :: (0, 1, 1, 0, 0) :: (5, 0, 1, 0, 0) :: (5, 4, 59, 0, 0) :: (0, 1, 0, 0, 0) :: (0, 1, 1, 0, 0) :: (5, 0, 1, 1, 0) :: (5, 4, 59, 1, 0) :: (0, 1, 1, 0, 0) :: (5, 1, 1, 66, 0) :: (0, 1, 0, 0, 0) :: (5, 1, 59, 124, 0) :: (6, 2, 176, 2, 27) :: []) (by decide +kernel) h
  exact h2
theorem eg32_59_27_0 {n : Nat} {w : px_W} {r : Option Value × px_W} (h : ec_E hb_X n 32 27 [(0, .inr (.inl 123)), (1, .inr (.inl 65))] [] w r) : True ∧ ∃ (v : Option Value) (w1 : px_W), ec_E hb_X n 176 0 [(0, .inr (.inl 67)), (1, .inr (.inl 125))] [] w (v, w1) ∧ (v = none → ec_W hb_A w1 → ec_E hb_X n 32 38 [(0, .inr (.inl 123)), (1, .inr (.inl 65))] [] w1 r) := by
  have h2 := hb_ecw ((0, 1, 1, 0, 0) :: (5, 1, 1, 67, 0) :: (0, 1, 0, 0, 0) :: (5, 1, 59, 125, 0) :: (6, 2, 176, 2, 38) :: []) (by decide +kernel) h
  exact h2
theorem eg32_59_38_0 {n : Nat} {w : px_W} {r : Option Value × px_W} (h : ec_E hb_X n 32 38 [(0, .inr (.inl 123)), (1, .inr (.inl 65))] [] w r) : True ∧ ∃ (v : Option Value) (w1 : px_W), ec_E hb_X n 176 0 [(0, .inr (.inl 68)), (1, .inr (.inl 126))] [] w (v, w1) ∧ (v = none → ec_W hb_A w1 → ec_E hb_X n 32 49 [(0, .inr (.inl 123)), (1, .inr (.inl 65))] [] w1 r) := by
  have h2 := hb_ecw ((0, 1, 1, 0, 0) :: (5, 1, 1, 68, 0) :: (0, 1, 0, 0, 0) :: (5, 1, 59, 126, 0) :: (6, 2, 176, 2, 49) :: []) (by decide +kernel) h
  exact h2
theorem eg32_59_49_0 {n : Nat} {w : px_W} {r : Option Value × px_W} (h : ec_E hb_X n 32 49 [(0, .inr (.inl 123)), (1, .inr (.inl 65))] [] w r) : True ∧ ∃ (v : Option Value) (w1 : px_W), ec_E hb_X n 176 0 [(0, .inr (.inl 69)), (1, .inr (.inl 127))] [] w (v, w1) ∧ (v = none → ec_W hb_A w1 → ec_E hb_X n 32 60 [(0, .inr (.inl 123)), (1, .inr (.inl 65))] [] w1 r) := by
  have h2 := hb_ecw ((0, 1, 1, 0, 0) :: (5, 1, 1, 69, 0) :: (0, 1, 0, 0, 0) :: (5, 1, 59, 127, 0) :: (6, 2, 176, 2, 60) :: []) (by decide +kernel) h
  exact h2
theorem eg32_59_60_0 {n : Nat} {w : px_W} {r : Option Value × px_W} (h : ec_E hb_X n 32 60 [(0, .inr (.inl 123)), (1, .inr (.inl 65))] [] w r) : True ∧ ∃ (v : Option Value) (w1 : px_W), ec_E hb_X n 176 0 [(0, .inr (.inl 70)), (1, .inr (.inl 128))] [] w (v, w1) ∧ (v = none → ec_W hb_A w1 → ec_E hb_X n 32 71 [(0, .inr (.inl 123)), (1, .inr (.inl 65))] [] w1 r) := by
  have h2 := hb_ecw ((0, 1, 1, 0, 0) :: (5, 1, 1, 70, 0) :: (0, 1, 0, 0, 0) :: (5, 1, 59, 128, 0) :: (6, 2, 176, 2, 71) :: []) (by decide +kernel) h
  exact h2
theorem eg32_59_71_0 {n : Nat} {w : px_W} {r : Option Value × px_W} (h : ec_E hb_X n 32 71 [(0, .inr (.inl 123)), (1, .inr (.inl 65))] [] w r) : True ∧ ∃ (v : Option Value) (w1 : px_W), ec_E hb_X n 176 0 [(0, .inr (.inl 71)), (1, .inr (.inl 129))] [] w (v, w1) ∧ (v = none → ec_W hb_A w1 → ec_E hb_X n 32 82 [(0, .inr (.inl 123)), (1, .inr (.inl 65))] [] w1 r) := by
  have h2 := hb_ecw ((0, 1, 1, 0, 0) :: (5, 1, 1, 71, 0) :: (0, 1, 0, 0, 0) :: (5, 1, 59, 129, 0) :: (6, 2, 176, 2, 82) :: []) (by decide +kernel) h
  exact h2
theorem eg32_59_82_0 {n : Nat} {w : px_W} {r : Option Value × px_W} (h : ec_E hb_X n 32 82 [(0, .inr (.inl 123)), (1, .inr (.inl 65))] [] w r) : True ∧ ∃ (v : Option Value) (w1 : px_W), ec_E hb_X n 40 0 [(0, .inr (.inl 123))] [] w (v, w1) ∧ (v = none → ec_W hb_A w1 → ec_E hb_X n 32 86 [(0, .inr (.inl 123)), (1, .inr (.inl 65))] [] w1 r) := by
  have h2 := hb_ecw ((0, 1, 0, 0, 0) :: (6, 2, 40, 1, 86) :: []) (by decide +kernel) h
  exact h2
theorem eg32_59_86_0 {n : Nat} {w : px_W} {r : Option Value × px_W} (h : ec_E hb_X n 32 86 [(0, .inr (.inl 123)), (1, .inr (.inl 65))] [] w r) : True ∧ r = (none, w) ∧ ec_W hb_A w := by
  have h2 := hb_ecw ((6, 4, 0, 0, 0) :: []) (by decide +kernel) h
  exact h2
theorem egk2_60 {n : Nat} {w : px_W} {r : Option Value × px_W} (h : ec_E hb_X n 176 0 [(0, .inr (.inl 66)), (1, .inr (.inl 124))] [] w r) : True ∧ r = (none, ec_cp w 2 60 (ec_tw 0) (ec_tw 0) (ec_tw (ec_mn 8 8))) ∧ ec_W hb_A (ec_cp w 2 60 (ec_tw 0) (ec_tw 0) (ec_tw (ec_mn 8 8))) := by
  have h2 := hb_ecw ((0, 1, 0, 0, 0) :: (0, 2, 0, 0, 0) :: (0, 1, 1, 0, 0) :: (0, 2, 0, 0, 0) :: (0, 1, 0, 0, 0) :: (5, 5, 2, 0, 8) :: (0, 1, 1, 0, 0) :: (5, 5, 60, 0, 8) :: (3, 6, 0, 0, 0) :: (5, 6, 2, 60, 0) :: (6, 4, 0, 0, 0) :: []) (by decide +kernel) h
  exact h2
theorem egk3_61 {n : Nat} {w : px_W} {r : Option Value × px_W} (h : ec_E hb_X n 176 0 [(0, .inr (.inl 67)), (1, .inr (.inl 125))] [] w r) : True ∧ r = (none, ec_cp w 3 61 (ec_tw 0) (ec_tw 0) (ec_tw (ec_mn 8 8))) ∧ ec_W hb_A (ec_cp w 3 61 (ec_tw 0) (ec_tw 0) (ec_tw (ec_mn 8 8))) := by
  have h2 := hb_ecw ((0, 1, 0, 0, 0) :: (0, 2, 0, 0, 0) :: (0, 1, 1, 0, 0) :: (0, 2, 0, 0, 0) :: (0, 1, 0, 0, 0) :: (5, 5, 3, 0, 8) :: (0, 1, 1, 0, 0) :: (5, 5, 61, 0, 8) :: (3, 6, 0, 0, 0) :: (5, 6, 3, 61, 0) :: (6, 4, 0, 0, 0) :: []) (by decide +kernel) h
  exact h2
theorem egk4_62 {n : Nat} {w : px_W} {r : Option Value × px_W} (h : ec_E hb_X n 176 0 [(0, .inr (.inl 68)), (1, .inr (.inl 126))] [] w r) : True ∧ r = (none, ec_cp w 4 62 (ec_tw 0) (ec_tw 0) (ec_tw (ec_mn 8 8))) ∧ ec_W hb_A (ec_cp w 4 62 (ec_tw 0) (ec_tw 0) (ec_tw (ec_mn 8 8))) := by
  have h2 := hb_ecw ((0, 1, 0, 0, 0) :: (0, 2, 0, 0, 0) :: (0, 1, 1, 0, 0) :: (0, 2, 0, 0, 0) :: (0, 1, 0, 0, 0) :: (5, 5, 4, 0, 8) :: (0, 1, 1, 0, 0) :: (5, 5, 62, 0, 8) :: (3, 6, 0, 0, 0) :: (5, 6, 4, 62, 0) :: (6, 4, 0, 0, 0) :: []) (by decide +kernel) h
  exact h2
theorem egk5_63 {n : Nat} {w : px_W} {r : Option Value × px_W} (h : ec_E hb_X n 176 0 [(0, .inr (.inl 69)), (1, .inr (.inl 127))] [] w r) : True ∧ r = (none, ec_cp w 5 63 (ec_tw 0) (ec_tw 0) (ec_tw (ec_mn 8 8))) ∧ ec_W hb_A (ec_cp w 5 63 (ec_tw 0) (ec_tw 0) (ec_tw (ec_mn 8 8))) := by
  have h2 := hb_ecw ((0, 1, 0, 0, 0) :: (0, 2, 0, 0, 0) :: (0, 1, 1, 0, 0) :: (0, 2, 0, 0, 0) :: (0, 1, 0, 0, 0) :: (5, 5, 5, 0, 8) :: (0, 1, 1, 0, 0) :: (5, 5, 63, 0, 8) :: (3, 6, 0, 0, 0) :: (5, 6, 5, 63, 0) :: (6, 4, 0, 0, 0) :: []) (by decide +kernel) h
  exact h2
theorem egk6_64 {n : Nat} {w : px_W} {r : Option Value × px_W} (h : ec_E hb_X n 176 0 [(0, .inr (.inl 70)), (1, .inr (.inl 128))] [] w r) : True ∧ r = (none, ec_cp w 6 64 (ec_tw 0) (ec_tw 0) (ec_tw (ec_mn 7 7))) ∧ ec_W hb_A (ec_cp w 6 64 (ec_tw 0) (ec_tw 0) (ec_tw (ec_mn 7 7))) := by
  have h2 := hb_ecw ((0, 1, 0, 0, 0) :: (0, 2, 0, 0, 0) :: (0, 1, 1, 0, 0) :: (0, 2, 0, 0, 0) :: (0, 1, 0, 0, 0) :: (5, 5, 6, 0, 7) :: (0, 1, 1, 0, 0) :: (5, 5, 64, 0, 7) :: (3, 6, 0, 0, 0) :: (5, 6, 6, 64, 0) :: (6, 4, 0, 0, 0) :: []) (by decide +kernel) h
  exact h2
theorem egk7_65 {n : Nat} {w : px_W} {r : Option Value × px_W} (h : ec_E hb_X n 176 0 [(0, .inr (.inl 71)), (1, .inr (.inl 129))] [] w r) : True ∧ r = (none, ec_cp w 7 65 (ec_tw 0) (ec_tw 0) (ec_tw (ec_mn 7 7))) ∧ ec_W hb_A (ec_cp w 7 65 (ec_tw 0) (ec_tw 0) (ec_tw (ec_mn 7 7))) := by
  have h2 := hb_ecw ((0, 1, 0, 0, 0) :: (0, 2, 0, 0, 0) :: (0, 1, 1, 0, 0) :: (0, 2, 0, 0, 0) :: (0, 1, 0, 0, 0) :: (5, 5, 7, 0, 7) :: (0, 1, 1, 0, 0) :: (5, 5, 65, 0, 7) :: (3, 6, 0, 0, 0) :: (5, 6, 7, 65, 0) :: (6, 4, 0, 0, 0) :: []) (by decide +kernel) h
  exact h2
theorem eg32_1_0_0 {n : Nat} {w : px_W} {r : Option Value × px_W} (h : ec_E hb_X n 32 0 [(0, .inr (.inl 65)), (1, .inr (.inl 123))] [] w r) : True ∧ ∃ (v : Option Value) (w1 : px_W), ec_E hb_X n 176 0 [(0, .inr (.inl 124)), (1, .inr (.inl 66))] [] (ec_pf (ec_pf w 1 0 (ec_fd w 59 0)) 1 1 (ec_fd (ec_pf w 1 0 (ec_fd w 59 0)) 59 1)) (v, w1) ∧ (v = none → ec_W hb_A w1 → ec_E hb_X n 32 27 [(0, .inr (.inl 65)), (1, .inr (.inl 123))] [] w1 r) := by
  have h2 := hb_ecw ((0, 1, 0, 0, 0) :: (0, 1, 1, 0, 0) :: (5, 0, 59, 0, 0) :: (5, 4, 1, 0, 0) :: (0, 1, 0, 0, 0) :: (0, 1, 1, 0, 0) :: (5, 0, 59, 1, 0) :: (5, 4, 1, 1, 0) :: (0, 1, 1, 0, 0) :: (5, 1, 59, 124, 0) :: (0, 1, 0, 0, 0) :: (5, 1, 1, 66, 0) :: (6, 2, 176, 2, 27) :: []) (by decide +kernel) h
  exact h2
theorem eg32_1_27_0 {n : Nat} {w : px_W} {r : Option Value × px_W} (h : ec_E hb_X n 32 27 [(0, .inr (.inl 65)), (1, .inr (.inl 123))] [] w r) : True ∧ ∃ (v : Option Value) (w1 : px_W), ec_E hb_X n 176 0 [(0, .inr (.inl 125)), (1, .inr (.inl 67))] [] w (v, w1) ∧ (v = none → ec_W hb_A w1 → ec_E hb_X n 32 38 [(0, .inr (.inl 65)), (1, .inr (.inl 123))] [] w1 r) := by
  have h2 := hb_ecw ((0, 1, 1, 0, 0) :: (5, 1, 59, 125, 0) :: (0, 1, 0, 0, 0) :: (5, 1, 1, 67, 0) :: (6, 2, 176, 2, 38) :: []) (by decide +kernel) h
  exact h2
theorem eg32_1_38_0 {n : Nat} {w : px_W} {r : Option Value × px_W} (h : ec_E hb_X n 32 38 [(0, .inr (.inl 65)), (1, .inr (.inl 123))] [] w r) : True ∧ ∃ (v : Option Value) (w1 : px_W), ec_E hb_X n 176 0 [(0, .inr (.inl 126)), (1, .inr (.inl 68))] [] w (v, w1) ∧ (v = none → ec_W hb_A w1 → ec_E hb_X n 32 49 [(0, .inr (.inl 65)), (1, .inr (.inl 123))] [] w1 r) := by
  have h2 := hb_ecw ((0, 1, 1, 0, 0) :: (5, 1, 59, 126, 0) :: (0, 1, 0, 0, 0) :: (5, 1, 1, 68, 0) :: (6, 2, 176, 2, 49) :: []) (by decide +kernel) h
  exact h2
theorem eg32_1_49_0 {n : Nat} {w : px_W} {r : Option Value × px_W} (h : ec_E hb_X n 32 49 [(0, .inr (.inl 65)), (1, .inr (.inl 123))] [] w r) : True ∧ ∃ (v : Option Value) (w1 : px_W), ec_E hb_X n 176 0 [(0, .inr (.inl 127)), (1, .inr (.inl 69))] [] w (v, w1) ∧ (v = none → ec_W hb_A w1 → ec_E hb_X n 32 60 [(0, .inr (.inl 65)), (1, .inr (.inl 123))] [] w1 r) := by
  have h2 := hb_ecw ((0, 1, 1, 0, 0) :: (5, 1, 59, 127, 0) :: (0, 1, 0, 0, 0) :: (5, 1, 1, 69, 0) :: (6, 2, 176, 2, 60) :: []) (by decide +kernel) h
  exact h2
theorem eg32_1_60_0 {n : Nat} {w : px_W} {r : Option Value × px_W} (h : ec_E hb_X n 32 60 [(0, .inr (.inl 65)), (1, .inr (.inl 123))] [] w r) : True ∧ ∃ (v : Option Value) (w1 : px_W), ec_E hb_X n 176 0 [(0, .inr (.inl 128)), (1, .inr (.inl 70))] [] w (v, w1) ∧ (v = none → ec_W hb_A w1 → ec_E hb_X n 32 71 [(0, .inr (.inl 65)), (1, .inr (.inl 123))] [] w1 r) := by
  have h2 := hb_ecw ((0, 1, 1, 0, 0) :: (5, 1, 59, 128, 0) :: (0, 1, 0, 0, 0) :: (5, 1, 1, 70, 0) :: (6, 2, 176, 2, 71) :: []) (by decide +kernel) h
  exact h2
theorem eg32_1_71_0 {n : Nat} {w : px_W} {r : Option Value × px_W} (h : ec_E hb_X n 32 71 [(0, .inr (.inl 65)), (1, .inr (.inl 123))] [] w r) : True ∧ ∃ (v : Option Value) (w1 : px_W), ec_E hb_X n 176 0 [(0, .inr (.inl 129)), (1, .inr (.inl 71))] [] w (v, w1) ∧ (v = none → ec_W hb_A w1 → ec_E hb_X n 32 82 [(0, .inr (.inl 65)), (1, .inr (.inl 123))] [] w1 r) := by
  have h2 := hb_ecw ((0, 1, 1, 0, 0) :: (5, 1, 59, 129, 0) :: (0, 1, 0, 0, 0) :: (5, 1, 1, 71, 0) :: (6, 2, 176, 2, 82) :: []) (by decide +kernel) h
  exact h2
theorem eg32_1_82_0 {n : Nat} {w : px_W} {r : Option Value × px_W} (h : ec_E hb_X n 32 82 [(0, .inr (.inl 65)), (1, .inr (.inl 123))] [] w r) : True ∧ ∃ (v : Option Value) (w1 : px_W), ec_E hb_X n 40 0 [(0, .inr (.inl 65))] [] w (v, w1) ∧ (v = none → ec_W hb_A w1 → ec_E hb_X n 32 86 [(0, .inr (.inl 65)), (1, .inr (.inl 123))] [] w1 r) := by
  have h2 := hb_ecw ((0, 1, 0, 0, 0) :: (6, 2, 40, 1, 86) :: []) (by decide +kernel) h
  exact h2
theorem eg32_1_86_0 {n : Nat} {w : px_W} {r : Option Value × px_W} (h : ec_E hb_X n 32 86 [(0, .inr (.inl 65)), (1, .inr (.inl 123))] [] w r) : True ∧ r = (none, w) ∧ ec_W hb_A w := by
  have h2 := hb_ecw ((6, 4, 0, 0, 0) :: []) (by decide +kernel) h
  exact h2
theorem egk60_2 {n : Nat} {w : px_W} {r : Option Value × px_W} (h : ec_E hb_X n 176 0 [(0, .inr (.inl 124)), (1, .inr (.inl 66))] [] w r) : True ∧ r = (none, ec_cp w 60 2 (ec_tw 0) (ec_tw 0) (ec_tw (ec_mn 8 8))) ∧ ec_W hb_A (ec_cp w 60 2 (ec_tw 0) (ec_tw 0) (ec_tw (ec_mn 8 8))) := by
  have h2 := hb_ecw ((0, 1, 0, 0, 0) :: (0, 2, 0, 0, 0) :: (0, 1, 1, 0, 0) :: (0, 2, 0, 0, 0) :: (0, 1, 0, 0, 0) :: (5, 5, 60, 0, 8) :: (0, 1, 1, 0, 0) :: (5, 5, 2, 0, 8) :: (3, 6, 0, 0, 0) :: (5, 6, 60, 2, 0) :: (6, 4, 0, 0, 0) :: []) (by decide +kernel) h
  exact h2
theorem egk61_3 {n : Nat} {w : px_W} {r : Option Value × px_W} (h : ec_E hb_X n 176 0 [(0, .inr (.inl 125)), (1, .inr (.inl 67))] [] w r) : True ∧ r = (none, ec_cp w 61 3 (ec_tw 0) (ec_tw 0) (ec_tw (ec_mn 8 8))) ∧ ec_W hb_A (ec_cp w 61 3 (ec_tw 0) (ec_tw 0) (ec_tw (ec_mn 8 8))) := by
  have h2 := hb_ecw ((0, 1, 0, 0, 0) :: (0, 2, 0, 0, 0) :: (0, 1, 1, 0, 0) :: (0, 2, 0, 0, 0) :: (0, 1, 0, 0, 0) :: (5, 5, 61, 0, 8) :: (0, 1, 1, 0, 0) :: (5, 5, 3, 0, 8) :: (3, 6, 0, 0, 0) :: (5, 6, 61, 3, 0) :: (6, 4, 0, 0, 0) :: []) (by decide +kernel) h
  exact h2
theorem egk62_4 {n : Nat} {w : px_W} {r : Option Value × px_W} (h : ec_E hb_X n 176 0 [(0, .inr (.inl 126)), (1, .inr (.inl 68))] [] w r) : True ∧ r = (none, ec_cp w 62 4 (ec_tw 0) (ec_tw 0) (ec_tw (ec_mn 8 8))) ∧ ec_W hb_A (ec_cp w 62 4 (ec_tw 0) (ec_tw 0) (ec_tw (ec_mn 8 8))) := by
  have h2 := hb_ecw ((0, 1, 0, 0, 0) :: (0, 2, 0, 0, 0) :: (0, 1, 1, 0, 0) :: (0, 2, 0, 0, 0) :: (0, 1, 0, 0, 0) :: (5, 5, 62, 0, 8) :: (0, 1, 1, 0, 0) :: (5, 5, 4, 0, 8) :: (3, 6, 0, 0, 0) :: (5, 6, 62, 4, 0) :: (6, 4, 0, 0, 0) :: []) (by decide +kernel) h
  exact h2
theorem egk63_5 {n : Nat} {w : px_W} {r : Option Value × px_W} (h : ec_E hb_X n 176 0 [(0, .inr (.inl 127)), (1, .inr (.inl 69))] [] w r) : True ∧ r = (none, ec_cp w 63 5 (ec_tw 0) (ec_tw 0) (ec_tw (ec_mn 8 8))) ∧ ec_W hb_A (ec_cp w 63 5 (ec_tw 0) (ec_tw 0) (ec_tw (ec_mn 8 8))) := by
  have h2 := hb_ecw ((0, 1, 0, 0, 0) :: (0, 2, 0, 0, 0) :: (0, 1, 1, 0, 0) :: (0, 2, 0, 0, 0) :: (0, 1, 0, 0, 0) :: (5, 5, 63, 0, 8) :: (0, 1, 1, 0, 0) :: (5, 5, 5, 0, 8) :: (3, 6, 0, 0, 0) :: (5, 6, 63, 5, 0) :: (6, 4, 0, 0, 0) :: []) (by decide +kernel) h
  exact h2
theorem egk64_6 {n : Nat} {w : px_W} {r : Option Value × px_W} (h : ec_E hb_X n 176 0 [(0, .inr (.inl 128)), (1, .inr (.inl 70))] [] w r) : True ∧ r = (none, ec_cp w 64 6 (ec_tw 0) (ec_tw 0) (ec_tw (ec_mn 7 7))) ∧ ec_W hb_A (ec_cp w 64 6 (ec_tw 0) (ec_tw 0) (ec_tw (ec_mn 7 7))) := by
  have h2 := hb_ecw ((0, 1, 0, 0, 0) :: (0, 2, 0, 0, 0) :: (0, 1, 1, 0, 0) :: (0, 2, 0, 0, 0) :: (0, 1, 0, 0, 0) :: (5, 5, 64, 0, 7) :: (0, 1, 1, 0, 0) :: (5, 5, 6, 0, 7) :: (3, 6, 0, 0, 0) :: (5, 6, 64, 6, 0) :: (6, 4, 0, 0, 0) :: []) (by decide +kernel) h
  exact h2
theorem egk65_7 {n : Nat} {w : px_W} {r : Option Value × px_W} (h : ec_E hb_X n 176 0 [(0, .inr (.inl 129)), (1, .inr (.inl 71))] [] w r) : True ∧ r = (none, ec_cp w 65 7 (ec_tw 0) (ec_tw 0) (ec_tw (ec_mn 7 7))) ∧ ec_W hb_A (ec_cp w 65 7 (ec_tw 0) (ec_tw 0) (ec_tw (ec_mn 7 7))) := by
  have h2 := hb_ecw ((0, 1, 0, 0, 0) :: (0, 2, 0, 0, 0) :: (0, 1, 1, 0, 0) :: (0, 2, 0, 0, 0) :: (0, 1, 0, 0, 0) :: (5, 5, 65, 0, 7) :: (0, 1, 1, 0, 0) :: (5, 5, 7, 0, 7) :: (3, 6, 0, 0, 0) :: (5, 6, 65, 7, 0) :: (6, 4, 0, 0, 0) :: []) (by decide +kernel) h
  exact h2
theorem eg109_68_0_0 {n : Nat} {w : px_W} {r : Option Value × px_W} (h : ec_E hb_X n 109 0 [(0, .inr (.inl 132)), (1, .inr (.inl 74))] [] w r) : True ∧ ∃ (v : Option Value) (w1 : px_W), ec_E hb_X n 176 0 [(0, .inr (.inl 75)), (1, .inr (.inl 133))] [] (ec_pf (ec_pf w 68 0 (ec_fd w 10 0)) 68 3 0) (v, w1) ∧ (v = none → ec_W hb_A w1 → ec_E hb_X n 109 24 [(0, .inr (.inl 132)), (1, .inr (.inl 74))] [] w1 r) := by
  have h2 := hb_ecw ((0, 1, 0, 0, 0) :: (0, 1, 1, 0, 0) :: (5, 0, 10, 0, 0) :: (5, 4, 68, 0, 0) :: (0, 1, 0, 0, 0) :: (0, 2, 0, 0, 0) :: (5, 4, 68, 3, 0) :: (0, 1, 1, 0, 0) :: (5, 1, 10, 75, 0) :: (0, 1, 0, 0, 0) :: (5, 1, 68, 133, 0) :: (6, 2, 176, 2, 24) :: []) (by decide +kernel) h
  exact h2
theorem eg109_68_24_0 {n : Nat} {w : px_W} {r : Option Value × px_W} (h : ec_E hb_X n 109 24 [(0, .inr (.inl 132)), (1, .inr (.inl 74))] [] w r) : True ∧ ∃ (v : Option Value) (w1 : px_W), ec_E hb_X n 176 0 [(0, .inr (.inl 76)), (1, .inr (.inl 134))] [] w (v, w1) ∧ (v = none → ec_W hb_A w1 → ec_E hb_X n 109 35 [(0, .inr (.inl 132)), (1, .inr (.inl 74))] [] w1 r) := by
  have h2 := hb_ecw ((0, 1, 1, 0, 0) :: (5, 1, 10, 76, 0) :: (0, 1, 0, 0, 0) :: (5, 1, 68, 134, 0) :: (6, 2, 176, 2, 35) :: []) (by decide +kernel) h
  exact h2
theorem eg109_68_35_0 {n : Nat} {w : px_W} {r : Option Value × px_W} (h : ec_E hb_X n 109 35 [(0, .inr (.inl 132)), (1, .inr (.inl 74))] [] w r) : True ∧ ∃ (v : Option Value) (w1 : px_W), ec_E hb_X n 176 0 [(0, .inr (.inl 77)), (1, .inr (.inl 135))] [] w (v, w1) ∧ (v = none → ec_W hb_A w1 → ec_E hb_X n 109 46 [(0, .inr (.inl 132)), (1, .inr (.inl 74))] [] w1 r) := by
  have h2 := hb_ecw ((0, 1, 1, 0, 0) :: (5, 1, 10, 77, 0) :: (0, 1, 0, 0, 0) :: (5, 1, 68, 135, 0) :: (6, 2, 176, 2, 46) :: []) (by decide +kernel) h
  exact h2
theorem eg109_68_46_0 {n : Nat} {w : px_W} {r : Option Value × px_W} (h : ec_E hb_X n 109 46 [(0, .inr (.inl 132)), (1, .inr (.inl 74))] [] w r) : True ∧ ∃ (v : Option Value) (w1 : px_W), ec_E hb_X n 176 0 [(0, .inr (.inl 78)), (1, .inr (.inl 136))] [] w (v, w1) ∧ (v = none → ec_W hb_A w1 → ec_E hb_X n 109 57 [(0, .inr (.inl 132)), (1, .inr (.inl 74))] [] w1 r) := by
  have h2 := hb_ecw ((0, 1, 1, 0, 0) :: (5, 1, 10, 78, 0) :: (0, 1, 0, 0, 0) :: (5, 1, 68, 136, 0) :: (6, 2, 176, 2, 57) :: []) (by decide +kernel) h
  exact h2
theorem eg109_68_57_0 {n : Nat} {w : px_W} {r : Option Value × px_W} (h : ec_E hb_X n 109 57 [(0, .inr (.inl 132)), (1, .inr (.inl 74))] [] w r) : True ∧ r = (none, w) ∧ ec_W hb_A w := by
  have h2 := hb_ecw ((6, 4, 0, 0, 0) :: []) (by decide +kernel) h
  exact h2
theorem egk11_69 {n : Nat} {w : px_W} {r : Option Value × px_W} (h : ec_E hb_X n 176 0 [(0, .inr (.inl 75)), (1, .inr (.inl 133))] [] w r) : True ∧ r = (none, ec_cp w 11 69 (ec_tw 0) (ec_tw 0) (ec_tw (ec_mn 16 16))) ∧ ec_W hb_A (ec_cp w 11 69 (ec_tw 0) (ec_tw 0) (ec_tw (ec_mn 16 16))) := by
  have h2 := hb_ecw ((0, 1, 0, 0, 0) :: (0, 2, 0, 0, 0) :: (0, 1, 1, 0, 0) :: (0, 2, 0, 0, 0) :: (0, 1, 0, 0, 0) :: (5, 5, 11, 0, 16) :: (0, 1, 1, 0, 0) :: (5, 5, 69, 0, 16) :: (3, 6, 0, 0, 0) :: (5, 6, 11, 69, 0) :: (6, 4, 0, 0, 0) :: []) (by decide +kernel) h
  exact h2
theorem egk12_70 {n : Nat} {w : px_W} {r : Option Value × px_W} (h : ec_E hb_X n 176 0 [(0, .inr (.inl 76)), (1, .inr (.inl 134))] [] w r) : True ∧ r = (none, ec_cp w 12 70 (ec_tw 0) (ec_tw 0) (ec_tw (ec_mn 16 16))) ∧ ec_W hb_A (ec_cp w 12 70 (ec_tw 0) (ec_tw 0) (ec_tw (ec_mn 16 16))) := by
  have h2 := hb_ecw ((0, 1, 0, 0, 0) :: (0, 2, 0, 0, 0) :: (0, 1, 1, 0, 0) :: (0, 2, 0, 0, 0) :: (0, 1, 0, 0, 0) :: (5, 5, 12, 0, 16) :: (0, 1, 1, 0, 0) :: (5, 5, 70, 0, 16) :: (3, 6, 0, 0, 0) :: (5, 6, 12, 70, 0) :: (6, 4, 0, 0, 0) :: []) (by decide +kernel) h
  exact h2
theorem egk13_71 {n : Nat} {w : px_W} {r : Option Value × px_W} (h : ec_E hb_X n 176 0 [(0, .inr (.inl 77)), (1, .inr (.inl 135))] [] w r) : True ∧ r = (none, ec_cp w 13 71 (ec_tw 0) (ec_tw 0) (ec_tw (ec_mn 16 16))) ∧ ec_W hb_A (ec_cp w 13 71 (ec_tw 0) (ec_tw 0) (ec_tw (ec_mn 16 16))) := by
  have h2 := hb_ecw ((0, 1, 0, 0, 0) :: (0, 2, 0, 0, 0) :: (0, 1, 1, 0, 0) :: (0, 2, 0, 0, 0) :: (0, 1, 0, 0, 0) :: (5, 5, 13, 0, 16) :: (0, 1, 1, 0, 0) :: (5, 5, 71, 0, 16) :: (3, 6, 0, 0, 0) :: (5, 6, 13, 71, 0) :: (6, 4, 0, 0, 0) :: []) (by decide +kernel) h
  exact h2
theorem egk14_72 {n : Nat} {w : px_W} {r : Option Value × px_W} (h : ec_E hb_X n 176 0 [(0, .inr (.inl 78)), (1, .inr (.inl 136))] [] w r) : True ∧ r = (none, ec_cp w 14 72 (ec_tw 0) (ec_tw 0) (ec_tw (ec_mn 16 16))) ∧ ec_W hb_A (ec_cp w 14 72 (ec_tw 0) (ec_tw 0) (ec_tw (ec_mn 16 16))) := by
  have h2 := hb_ecw ((0, 1, 0, 0, 0) :: (0, 2, 0, 0, 0) :: (0, 1, 1, 0, 0) :: (0, 2, 0, 0, 0) :: (0, 1, 0, 0, 0) :: (5, 5, 14, 0, 16) :: (0, 1, 1, 0, 0) :: (5, 5, 72, 0, 16) :: (3, 6, 0, 0, 0) :: (5, 6, 14, 72, 0) :: (6, 4, 0, 0, 0) :: []) (by decide +kernel) h
  exact h2
theorem eg109_10_0_0 {n : Nat} {w : px_W} {r : Option Value × px_W} (h : ec_E hb_X n 109 0 [(0, .inr (.inl 74)), (1, .inr (.inl 132))] [] w r) : True ∧ ∃ (v : Option Value) (w1 : px_W), ec_E hb_X n 176 0 [(0, .inr (.inl 133)), (1, .inr (.inl 75))] [] (ec_pf (ec_pf w 10 0 (ec_fd w 68 0)) 10 3 0) (v, w1) ∧ (v = none → ec_W hb_A w1 → ec_E hb_X n 109 24 [(0, .inr (.inl 74)), (1, .inr (.inl 132))] [] w1 r) := by
  have h2 := hb_ecw ((0, 1, 0, 0, 0) :: (0, 1, 1, 0, 0) :: (5, 0, 68, 0, 0) :: (5, 4, 10, 0, 0) :: (0, 1, 0, 0, 0) :: (0, 2, 0, 0, 0) :: (5, 4, 10, 3, 0) :: (0, 1, 1, 0, 0) :: (5, 1, 68, 133, 0) :: (0, 1, 0, 0, 0) :: (5, 1, 10, 75, 0) :: (6, 2, 176, 2, 24) :: []) (by decide +kernel) h
  exact h2
theorem eg109_10_24_0 {n : Nat} {w : px_W} {r : Option Value × px_W} (h : ec_E hb_X n 109 24 [(0, .inr (.inl 74)), (1, .inr (.inl 132))] [] w r) : True ∧ ∃ (v : Option Value) (w1 : px_W), ec_E hb_X n 176 0 [(0, .inr (.inl 134)), (1, .inr (.inl 76))] [] w (v, w1) ∧ (v = none → ec_W hb_A w1 → ec_E hb_X n 109 35 [(0, .inr (.inl 74)), (1, .inr (.inl 132))] [] w1 r) := by
  have h2 := hb_ecw ((0, 1, 1, 0, 0) :: (5, 1, 68, 134, 0) :: (0, 1, 0, 0, 0) :: (5, 1, 10, 76, 0) :: (6, 2, 176, 2, 35) :: []) (by decide +kernel) h
  exact h2
theorem eg109_10_35_0 {n : Nat} {w : px_W} {r : Option Value × px_W} (h : ec_E hb_X n 109 35 [(0, .inr (.inl 74)), (1, .inr (.inl 132))] [] w r) : True ∧ ∃ (v : Option Value) (w1 : px_W), ec_E hb_X n 176 0 [(0, .inr (.inl 135)), (1, .inr (.inl 77))] [] w (v, w1) ∧ (v = none → ec_W hb_A w1 → ec_E hb_X n 109 46 [(0, .inr (.inl 74)), (1, .inr (.inl 132))] [] w1 r) := by
  have h2 := hb_ecw ((0, 1, 1, 0, 0) :: (5, 1, 68, 135, 0) :: (0, 1, 0, 0, 0) :: (5, 1, 10, 77, 0) :: (6, 2, 176, 2, 46) :: []) (by decide +kernel) h
  exact h2
theorem eg109_10_46_0 {n : Nat} {w : px_W} {r : Option Value × px_W} (h : ec_E hb_X n 109 46 [(0, .inr (.inl 74)), (1, .inr (.inl 132))] [] w r) : True ∧ ∃ (v : Option Value) (w1 : px_W), ec_E hb_X n 176 0 [(0, .inr (.inl 136)), (1, .inr (.inl 78))] [] w (v, w1) ∧ (v = none → ec_W hb_A w1 → ec_E hb_X n 109 57 [(0, .inr (.inl 74)), (1, .inr (.inl 132))] [] w1 r) := by
  have h2 := hb_ecw ((0, 1, 1, 0, 0) :: (5, 1, 68, 136, 0) :: (0, 1, 0, 0, 0) :: (5, 1, 10, 78, 0) :: (6, 2, 176, 2, 57) :: []) (by decide +kernel) h
  exact h2
theorem eg109_10_57_0 {n : Nat} {w : px_W} {r : Option Value × px_W} (h : ec_E hb_X n 109 57 [(0, .inr (.inl 74)), (1, .inr (.inl 132))] [] w r) : True ∧ r = (none, w) ∧ ec_W hb_A w := by
  have h2 := hb_ecw ((6, 4, 0, 0, 0) :: []) (by decide +kernel) h
  exact h2
theorem egk69_11 {n : Nat} {w : px_W} {r : Option Value × px_W} (h : ec_E hb_X n 176 0 [(0, .inr (.inl 133)), (1, .inr (.inl 75))] [] w r) : True ∧ r = (none, ec_cp w 69 11 (ec_tw 0) (ec_tw 0) (ec_tw (ec_mn 16 16))) ∧ ec_W hb_A (ec_cp w 69 11 (ec_tw 0) (ec_tw 0) (ec_tw (ec_mn 16 16))) := by
  have h2 := hb_ecw ((0, 1, 0, 0, 0) :: (0, 2, 0, 0, 0) :: (0, 1, 1, 0, 0) :: (0, 2, 0, 0, 0) :: (0, 1, 0, 0, 0) :: (5, 5, 69, 0, 16) :: (0, 1, 1, 0, 0) :: (5, 5, 11, 0, 16) :: (3, 6, 0, 0, 0) :: (5, 6, 69, 11, 0) :: (6, 4, 0, 0, 0) :: []) (by decide +kernel) h
  exact h2
theorem egk70_12 {n : Nat} {w : px_W} {r : Option Value × px_W} (h : ec_E hb_X n 176 0 [(0, .inr (.inl 134)), (1, .inr (.inl 76))] [] w r) : True ∧ r = (none, ec_cp w 70 12 (ec_tw 0) (ec_tw 0) (ec_tw (ec_mn 16 16))) ∧ ec_W hb_A (ec_cp w 70 12 (ec_tw 0) (ec_tw 0) (ec_tw (ec_mn 16 16))) := by
  have h2 := hb_ecw ((0, 1, 0, 0, 0) :: (0, 2, 0, 0, 0) :: (0, 1, 1, 0, 0) :: (0, 2, 0, 0, 0) :: (0, 1, 0, 0, 0) :: (5, 5, 70, 0, 16) :: (0, 1, 1, 0, 0) :: (5, 5, 12, 0, 16) :: (3, 6, 0, 0, 0) :: (5, 6, 70, 12, 0) :: (6, 4, 0, 0, 0) :: []) (by decide +kernel) h
  exact h2
theorem egk71_13 {n : Nat} {w : px_W} {r : Option Value × px_W} (h : ec_E hb_X n 176 0 [(0, .inr (.inl 135)), (1, .inr (.inl 77))] [] w r) : True ∧ r = (none, ec_cp w 71 13 (ec_tw 0) (ec_tw 0) (ec_tw (ec_mn 16 16))) ∧ ec_W hb_A (ec_cp w 71 13 (ec_tw 0) (ec_tw 0) (ec_tw (ec_mn 16 16))) := by
  have h2 := hb_ecw ((0, 1, 0, 0, 0) :: (0, 2, 0, 0, 0) :: (0, 1, 1, 0, 0) :: (0, 2, 0, 0, 0) :: (0, 1, 0, 0, 0) :: (5, 5, 71, 0, 16) :: (0, 1, 1, 0, 0) :: (5, 5, 13, 0, 16) :: (3, 6, 0, 0, 0) :: (5, 6, 71, 13, 0) :: (6, 4, 0, 0, 0) :: []) (by decide +kernel) h
  exact h2
theorem egk72_14 {n : Nat} {w : px_W} {r : Option Value × px_W} (h : ec_E hb_X n 176 0 [(0, .inr (.inl 136)), (1, .inr (.inl 78))] [] w r) : True ∧ r = (none, ec_cp w 72 14 (ec_tw 0) (ec_tw 0) (ec_tw (ec_mn 16 16))) ∧ ec_W hb_A (ec_cp w 72 14 (ec_tw 0) (ec_tw 0) (ec_tw (ec_mn 16 16))) := by
  have h2 := hb_ecw ((0, 1, 0, 0, 0) :: (0, 2, 0, 0, 0) :: (0, 1, 1, 0, 0) :: (0, 2, 0, 0, 0) :: (0, 1, 0, 0, 0) :: (5, 5, 72, 0, 16) :: (0, 1, 1, 0, 0) :: (5, 5, 14, 0, 16) :: (3, 6, 0, 0, 0) :: (5, 6, 72, 14, 0) :: (6, 4, 0, 0, 0) :: []) (by decide +kernel) h
  exact h2
theorem eg14_73_0_0 {n : Nat} {w : px_W} {r : Option Value × px_W} (h : ec_E hb_X n 14 0 [(0, .inr (.inl 137)), (1, .inr (.inl 79))] [] w r) : True ∧ ∃ (v : Option Value) (w1 : px_W), ec_E hb_X n 176 0 [(0, .inr (.inl 80)), (1, .inr (.inl 138))] [] (ec_pf w 73 0 (ec_fd w 15 0)) (v, w1) ∧ (v = none → ec_W hb_A w1 → ec_E hb_X n 14 19 [(0, .inr (.inl 137)), (1, .inr (.inl 79))] [] w1 r) := by
  have h2 := hb_ecw ((0, 1, 0, 0, 0) :: (0, 1, 1, 0, 0) :: (5, 0, 15, 0, 0) :: (5, 4, 73, 0, 0) :: (0, 1, 1, 0, 0) :: (5, 1, 15, 80, 0) :: (0, 1, 0, 0, 0) :: (5, 1, 73, 138, 0) :: (6, 2, 176, 2, 19) :: []) (by decide +kernel) h
  exact h2
theorem eg14_73_19_0 {n : Nat} {w : px_W} {r : Option Value × px_W} (h : ec_E hb_X n 14 19 [(0, .inr (.inl 137)), (1, .inr (.inl 79))] [] w r) : True ∧ ∃ (v : Option Value) (w1 : px_W), ec_E hb_X n 176 0 [(0, .inr (.inl 81)), (1, .inr (.inl 139))] [] w (v, w1) ∧ (v = none → ec_W hb_A w1 → ec_E hb_X n 14 30 [(0, .inr (.inl 137)), (1, .inr (.inl 79))] [] w1 r) := by
  have h2 := hb_ecw ((0, 1, 1, 0, 0) :: (5, 1, 15, 81, 0) :: (0, 1, 0, 0, 0) :: (5, 1, 73, 139, 0) :: (6, 2, 176, 2, 30) :: []) (by decide +kernel) h
  exact h2
theorem eg14_73_30_0 {n : Nat} {w : px_W} {r : Option Value × px_W} (h : ec_E hb_X n 14 30 [(0, .inr (.inl 137)), (1, .inr (.inl 79))] [] w r) : True ∧ ∃ (v : Option Value) (w1 : px_W), ec_E hb_X n 176 0 [(0, .inr (.inl 82)), (1, .inr (.inl 140))] [] w (v, w1) ∧ (v = none → ec_W hb_A w1 → ec_E hb_X n 14 41 [(0, .inr (.inl 137)), (1, .inr (.inl 79))] [] w1 r) := by
  have h2 := hb_ecw ((0, 1, 1, 0, 0) :: (5, 1, 15, 82, 0) :: (0, 1, 0, 0, 0) :: (5, 1, 73, 140, 0) :: (6, 2, 176, 2, 41) :: []) (by decide +kernel) h
  exact h2
theorem eg14_73_41_0 {n : Nat} {w : px_W} {r : Option Value × px_W} (h : ec_E hb_X n 14 41 [(0, .inr (.inl 137)), (1, .inr (.inl 79))] [] w r) : True ∧ ∃ (v : Option Value) (w1 : px_W), ec_E hb_X n 176 0 [(0, .inr (.inl 83)), (1, .inr (.inl 141))] [] w (v, w1) ∧ (v = none → ec_W hb_A w1 → ec_E hb_X n 14 52 [(0, .inr (.inl 137)), (1, .inr (.inl 79))] [] w1 r) := by
  have h2 := hb_ecw ((0, 1, 1, 0, 0) :: (5, 1, 15, 83, 0) :: (0, 1, 0, 0, 0) :: (5, 1, 73, 141, 0) :: (6, 2, 176, 2, 52) :: []) (by decide +kernel) h
  exact h2
theorem eg14_73_52_0 {n : Nat} {w : px_W} {r : Option Value × px_W} (h : ec_E hb_X n 14 52 [(0, .inr (.inl 137)), (1, .inr (.inl 79))] [] w r) : True ∧ ∃ (v : Option Value) (w1 : px_W), ec_E hb_X n 176 0 [(0, .inr (.inl 84)), (1, .inr (.inl 142))] [] (ec_pf w 73 5 (ec_fd w 15 5)) (v, w1) ∧ (v = none → ec_W hb_A w1 → ec_E hb_X n 14 71 [(0, .inr (.inl 137)), (1, .inr (.inl 79))] [] w1 r) := by
  have h2 := hb_ecw ((0, 1, 0, 0, 0) :: (0, 1, 1, 0, 0) :: (5, 0, 15, 5, 0) :: (5, 4, 73, 5, 0) :: (0, 1, 1, 0, 0) :: (5, 1, 15, 84, 0) :: (0, 1, 0, 0, 0) :: (5, 1, 73, 142, 0) :: (6, 2, 176, 2, 71) :: []) (by decide +kernel) h
  exact h2
theorem eg14_73_71_0 {n : Nat} {w : px_W} {r : Option Value × px_W} (h : ec_E hb_X n 14 71 [(0, .inr (.inl 137)), (1, .inr (.inl 79))] [] w r) : True ∧ ∃ (v : Option Value) (w1 : px_W), ec_E hb_X n 176 0 [(0, .inr (.inl 85)), (1, .inr (.inl 143))] [] w (v, w1) ∧ (v = none → ec_W hb_A w1 → ec_E hb_X n 14 82 [(0, .inr (.inl 137)), (1, .inr (.inl 79))] [] w1 r) := by
  have h2 := hb_ecw ((0, 1, 1, 0, 0) :: (5, 1, 15, 85, 0) :: (0, 1, 0, 0, 0) :: (5, 1, 73, 143, 0) :: (6, 2, 176, 2, 82) :: []) (by decide +kernel) h
  exact h2
theorem eg14_73_82_0 {n : Nat} {w : px_W} {r : Option Value × px_W} (h : ec_E hb_X n 14 82 [(0, .inr (.inl 137)), (1, .inr (.inl 79))] [] w r) : True ∧ ∃ (v : Option Value) (w1 : px_W), ec_E hb_X n 176 0 [(0, .inr (.inl 86)), (1, .inr (.inl 144))] [] w (v, w1) ∧ (v = none → ec_W hb_A w1 → ec_E hb_X n 14 93 [(0, .inr (.inl 137)), (1, .inr (.inl 79))] [] w1 r) := by
  have h2 := hb_ecw ((0, 1, 1, 0, 0) :: (5, 1, 15, 86, 0) :: (0, 1, 0, 0, 0) :: (5, 1, 73, 144, 0) :: (6, 2, 176, 2, 93) :: []) (by decide +kernel) h
  exact h2
theorem eg14_73_93_0 {n : Nat} {w : px_W} {r : Option Value × px_W} (h : ec_E hb_X n 14 93 [(0, .inr (.inl 137)), (1, .inr (.inl 79))] [] w r) : True ∧ ∃ (v : Option Value) (w1 : px_W), ec_E hb_X n 176 0 [(0, .inr (.inl 87)), (1, .inr (.inl 145))] [] w (v, w1) ∧ (v = none → ec_W hb_A w1 → ec_E hb_X n 14 104 [(0, .inr (.inl 137)), (1, .inr (.inl 79))] [] w1 r) := by
  have h2 := hb_ecw ((0, 1, 1, 0, 0) :: (5, 1, 15, 87, 0) :: (0, 1, 0, 0, 0) :: (5, 1, 73, 145, 0) :: (6, 2, 176, 2, 104) :: []) (by decide +kernel) h
  exact h2
theorem eg14_73_104_0 {n : Nat} {w : px_W} {r : Option Value × px_W} (h : ec_E hb_X n 14 104 [(0, .inr (.inl 137)), (1, .inr (.inl 79))] [] w r) : True ∧ ∃ (v : Option Value) (w1 : px_W), ec_E hb_X n 176 0 [(0, .inr (.inl 88)), (1, .inr (.inl 146))] [] (ec_pf w 73 10 (ec_fd w 15 10)) (v, w1) ∧ (v = none → ec_W hb_A w1 → ec_E hb_X n 14 123 [(0, .inr (.inl 137)), (1, .inr (.inl 79))] [] w1 r) := by
  have h2 := hb_ecw ((0, 1, 0, 0, 0) :: (0, 1, 1, 0, 0) :: (5, 0, 15, 10, 0) :: (5, 4, 73, 10, 0) :: (0, 1, 1, 0, 0) :: (5, 1, 15, 88, 0) :: (0, 1, 0, 0, 0) :: (5, 1, 73, 146, 0) :: (6, 2, 176, 2, 123) :: []) (by decide +kernel) h
  exact h2
theorem eg14_73_123_0 {n : Nat} {w : px_W} {r : Option Value × px_W} (h : ec_E hb_X n 14 123 [(0, .inr (.inl 137)), (1, .inr (.inl 79))] [] w r) : True ∧ ∃ (v : Option Value) (w1 : px_W), ec_E hb_X n 176 0 [(0, .inr (.inl 89)), (1, .inr (.inl 147))] [] w (v, w1) ∧ (v = none → ec_W hb_A w1 → ec_E hb_X n 14 134 [(0, .inr (.inl 137)), (1, .inr (.inl 79))] [] w1 r) := by
  have h2 := hb_ecw ((0, 1, 1, 0, 0) :: (5, 1, 15, 89, 0) :: (0, 1, 0, 0, 0) :: (5, 1, 73, 147, 0) :: (6, 2, 176, 2, 134) :: []) (by decide +kernel) h
  exact h2
theorem eg14_73_134_0 {n : Nat} {w : px_W} {r : Option Value × px_W} (h : ec_E hb_X n 14 134 [(0, .inr (.inl 137)), (1, .inr (.inl 79))] [] w r) : True ∧ ∃ (v : Option Value) (w1 : px_W), ec_E hb_X n 176 0 [(0, .inr (.inl 90)), (1, .inr (.inl 148))] [] w (v, w1) ∧ (v = none → ec_W hb_A w1 → ec_E hb_X n 14 145 [(0, .inr (.inl 137)), (1, .inr (.inl 79))] [] w1 r) := by
  have h2 := hb_ecw ((0, 1, 1, 0, 0) :: (5, 1, 15, 90, 0) :: (0, 1, 0, 0, 0) :: (5, 1, 73, 148, 0) :: (6, 2, 176, 2, 145) :: []) (by decide +kernel) h
  exact h2
theorem eg14_73_145_0 {n : Nat} {w : px_W} {r : Option Value × px_W} (h : ec_E hb_X n 14 145 [(0, .inr (.inl 137)), (1, .inr (.inl 79))] [] w r) : True ∧ ∃ (v : Option Value) (w1 : px_W), ec_E hb_X n 176 0 [(0, .inr (.inl 91)), (1, .inr (.inl 149))] [] w (v, w1) ∧ (v = none → ec_W hb_A w1 → ec_E hb_X n 14 156 [(0, .inr (.inl 137)), (1, .inr (.inl 79))] [] w1 r) := by
  have h2 := hb_ecw ((0, 1, 1, 0, 0) :: (5, 1, 15, 91, 0) :: (0, 1, 0, 0, 0) :: (5, 1, 73, 149, 0) :: (6, 2, 176, 2, 156) :: []) (by decide +kernel) h
  exact h2
theorem eg14_73_156_0 {n : Nat} {w : px_W} {r : Option Value × px_W} (h : ec_E hb_X n 14 156 [(0, .inr (.inl 137)), (1, .inr (.inl 79))] [] w r) : True ∧ r = (none, w) ∧ ec_W hb_A w := by
  have h2 := hb_ecw ((6, 4, 0, 0, 0) :: []) (by decide +kernel) h
  exact h2
theorem egk16_74 {n : Nat} {w : px_W} {r : Option Value × px_W} (h : ec_E hb_X n 176 0 [(0, .inr (.inl 80)), (1, .inr (.inl 138))] [] w r) : True ∧ r = (none, ec_cp w 16 74 (ec_tw 0) (ec_tw 0) (ec_tw (ec_mn 12 12))) ∧ ec_W hb_A (ec_cp w 16 74 (ec_tw 0) (ec_tw 0) (ec_tw (ec_mn 12 12))) := by
  have h2 := hb_ecw ((0, 1, 0, 0, 0) :: (0, 2, 0, 0, 0) :: (0, 1, 1, 0, 0) :: (0, 2, 0, 0, 0) :: (0, 1, 0, 0, 0) :: (5, 5, 16, 0, 12) :: (0, 1, 1, 0, 0) :: (5, 5, 74, 0, 12) :: (3, 6, 0, 0, 0) :: (5, 6, 16, 74, 0) :: (6, 4, 0, 0, 0) :: []) (by decide +kernel) h
  exact h2
theorem egk17_75 {n : Nat} {w : px_W} {r : Option Value × px_W} (h : ec_E hb_X n 176 0 [(0, .inr (.inl 81)), (1, .inr (.inl 139))] [] w r) : True ∧ r = (none, ec_cp w 17 75 (ec_tw 0) (ec_tw 0) (ec_tw (ec_mn 12 12))) ∧ ec_W hb_A (ec_cp w 17 75 (ec_tw 0) (ec_tw 0) (ec_tw (ec_mn 12 12))) := by
  have h2 := hb_ecw ((0, 1, 0, 0, 0) :: (0, 2, 0, 0, 0) :: (0, 1, 1, 0, 0) :: (0, 2, 0, 0, 0) :: (0, 1, 0, 0, 0) :: (5, 5, 17, 0, 12) :: (0, 1, 1, 0, 0) :: (5, 5, 75, 0, 12) :: (3, 6, 0, 0, 0) :: (5, 6, 17, 75, 0) :: (6, 4, 0, 0, 0) :: []) (by decide +kernel) h
  exact h2
theorem egk18_76 {n : Nat} {w : px_W} {r : Option Value × px_W} (h : ec_E hb_X n 176 0 [(0, .inr (.inl 82)), (1, .inr (.inl 140))] [] w r) : True ∧ r = (none, ec_cp w 18 76 (ec_tw 0) (ec_tw 0) (ec_tw (ec_mn 12 12))) ∧ ec_W hb_A (ec_cp w 18 76 (ec_tw 0) (ec_tw 0) (ec_tw (ec_mn 12 12))) := by
  have h2 := hb_ecw ((0, 1, 0, 0, 0) :: (0, 2, 0, 0, 0) :: (0, 1, 1, 0, 0) :: (0, 2, 0, 0, 0) :: (0, 1, 0, 0, 0) :: (5, 5, 18, 0, 12) :: (0, 1, 1, 0, 0) :: (5, 5, 76, 0, 12) :: (3, 6, 0, 0, 0) :: (5, 6, 18, 76, 0) :: (6, 4, 0, 0, 0) :: []) (by decide +kernel) h
  exact h2
theorem egk19_77 {n : Nat} {w : px_W} {r : Option Value × px_W} (h : ec_E hb_X n 176 0 [(0, .inr (.inl 83)), (1, .inr (.inl 141))] [] w r) : True ∧ r = (none, ec_cp w 19 77 (ec_tw 0) (ec_tw 0) (ec_tw (ec_mn 12 12))) ∧ ec_W hb_A (ec_cp w 19 77 (ec_tw 0) (ec_tw 0) (ec_tw (ec_mn 12 12))) := by
  have h2 := hb_ecw ((0, 1, 0, 0, 0) :: (0, 2, 0, 0, 0) :: (0, 1, 1, 0, 0) :: (0, 2, 0, 0, 0) :: (0, 1, 0, 0, 0) :: (5, 5, 19, 0, 12) :: (0, 1, 1, 0, 0) :: (5, 5, 77, 0, 12) :: (3, 6, 0, 0, 0) :: (5, 6, 19, 77, 0) :: (6, 4, 0, 0, 0) :: []) (by decide +kernel) h
  exact h2
theorem egk20_78 {n : Nat} {w : px_W} {r : Option Value × px_W} (h : ec_E hb_X n 176 0 [(0, .inr (.inl 84)), (1, .inr (.inl 142))] [] w r) : True ∧ r = (none, ec_cp w 20 78 (ec_tw 0) (ec_tw 0) (ec_tw (ec_mn 10 10))) ∧ ec_W hb_A (ec_cp w 20 78 (ec_tw 0) (ec_tw 0) (ec_tw (ec_mn 10 10))) := by
  have h2 := hb_ecw ((0, 1, 0, 0, 0) :: (0, 2, 0, 0, 0) :: (0, 1, 1, 0, 0) :: (0, 2, 0, 0, 0) :: (0, 1, 0, 0, 0) :: (5, 5, 20, 0, 10) :: (0, 1, 1, 0, 0) :: (5, 5, 78, 0, 10) :: (3, 6, 0, 0, 0) :: (5, 6, 20, 78, 0) :: (6, 4, 0, 0, 0) :: []) (by decide +kernel) h
  exact h2
theorem egk21_79 {n : Nat} {w : px_W} {r : Option Value × px_W} (h : ec_E hb_X n 176 0 [(0, .inr (.inl 85)), (1, .inr (.inl 143))] [] w r) : True ∧ r = (none, ec_cp w 21 79 (ec_tw 0) (ec_tw 0) (ec_tw (ec_mn 10 10))) ∧ ec_W hb_A (ec_cp w 21 79 (ec_tw 0) (ec_tw 0) (ec_tw (ec_mn 10 10))) := by
  have h2 := hb_ecw ((0, 1, 0, 0, 0) :: (0, 2, 0, 0, 0) :: (0, 1, 1, 0, 0) :: (0, 2, 0, 0, 0) :: (0, 1, 0, 0, 0) :: (5, 5, 21, 0, 10) :: (0, 1, 1, 0, 0) :: (5, 5, 79, 0, 10) :: (3, 6, 0, 0, 0) :: (5, 6, 21, 79, 0) :: (6, 4, 0, 0, 0) :: []) (by decide +kernel) h
  exact h2
theorem egk22_80 {n : Nat} {w : px_W} {r : Option Value × px_W} (h : ec_E hb_X n 176 0 [(0, .inr (.inl 86)), (1, .inr (.inl 144))] [] w r) : True ∧ r = (none, ec_cp w 22 80 (ec_tw 0) (ec_tw 0) (ec_tw (ec_mn 10 10))) ∧ ec_W hb_A (ec_cp w 22 80 (ec_tw 0) (ec_tw 0) (ec_tw (ec_mn 10 10))) := by
  have h2 := hb_ecw ((0, 1, 0, 0, 0) :: (0, 2, 0, 0, 0) :: (0, 1, 1, 0, 0) :: (0, 2, 0, 0, 0) :: (0, 1, 0, 0, 0) :: (5, 5, 22, 0, 10) :: (0, 1, 1, 0, 0) :: (5, 5, 80, 0, 10) :: (3, 6, 0, 0, 0) :: (5, 6, 22, 80, 0) :: (6, 4, 0, 0, 0) :: []) (by decide +kernel) h
  exact h2
theorem egk23_81 {n : Nat} {w : px_W} {r : Option Value × px_W} (h : ec_E hb_X n 176 0 [(0, .inr (.inl 87)), (1, .inr (.inl 145))] [] w r) : True ∧ r = (none, ec_cp w 23 81 (ec_tw 0) (ec_tw 0) (ec_tw (ec_mn 10 10))) ∧ ec_W hb_A (ec_cp w 23 81 (ec_tw 0) (ec_tw 0) (ec_tw (ec_mn 10 10))) := by
  have h2 := hb_ecw ((0, 1, 0, 0, 0) :: (0, 2, 0, 0, 0) :: (0, 1, 1, 0, 0) :: (0, 2, 0, 0, 0) :: (0, 1, 0, 0, 0) :: (5, 5, 23, 0, 10) :: (0, 1, 1, 0, 0) :: (5, 5, 81, 0, 10) :: (3, 6, 0, 0, 0) :: (5, 6, 23, 81, 0) :: (6, 4, 0, 0, 0) :: []) (by decide +kernel) h
  exact h2
theorem egk24_82 {n : Nat} {w : px_W} {r : Option Value × px_W} (h : ec_E hb_X n 176 0 [(0, .inr (.inl 88)), (1, .inr (.inl 146))] [] w r) : True ∧ r = (none, ec_cp w 24 82 (ec_tw 0) (ec_tw 0) (ec_tw (ec_mn 8 8))) ∧ ec_W hb_A (ec_cp w 24 82 (ec_tw 0) (ec_tw 0) (ec_tw (ec_mn 8 8))) := by
  have h2 := hb_ecw ((0, 1, 0, 0, 0) :: (0, 2, 0, 0, 0) :: (0, 1, 1, 0, 0) :: (0, 2, 0, 0, 0) :: (0, 1, 0, 0, 0) :: (5, 5, 24, 0, 8) :: (0, 1, 1, 0, 0) :: (5, 5, 82, 0, 8) :: (3, 6, 0, 0, 0) :: (5, 6, 24, 82, 0) :: (6, 4, 0, 0, 0) :: []) (by decide +kernel) h
  exact h2
theorem egk25_83 {n : Nat} {w : px_W} {r : Option Value × px_W} (h : ec_E hb_X n 176 0 [(0, .inr (.inl 89)), (1, .inr (.inl 147))] [] w r) : True ∧ r = (none, ec_cp w 25 83 (ec_tw 0) (ec_tw 0) (ec_tw (ec_mn 8 8))) ∧ ec_W hb_A (ec_cp w 25 83 (ec_tw 0) (ec_tw 0) (ec_tw (ec_mn 8 8))) := by
  have h2 := hb_ecw ((0, 1, 0, 0, 0) :: (0, 2, 0, 0, 0) :: (0, 1, 1, 0, 0) :: (0, 2, 0, 0, 0) :: (0, 1, 0, 0, 0) :: (5, 5, 25, 0, 8) :: (0, 1, 1, 0, 0) :: (5, 5, 83, 0, 8) :: (3, 6, 0, 0, 0) :: (5, 6, 25, 83, 0) :: (6, 4, 0, 0, 0) :: []) (by decide +kernel) h
  exact h2
theorem egk26_84 {n : Nat} {w : px_W} {r : Option Value × px_W} (h : ec_E hb_X n 176 0 [(0, .inr (.inl 90)), (1, .inr (.inl 148))] [] w r) : True ∧ r = (none, ec_cp w 26 84 (ec_tw 0) (ec_tw 0) (ec_tw (ec_mn 8 8))) ∧ ec_W hb_A (ec_cp w 26 84 (ec_tw 0) (ec_tw 0) (ec_tw (ec_mn 8 8))) := by
  have h2 := hb_ecw ((0, 1, 0, 0, 0) :: (0, 2, 0, 0, 0) :: (0, 1, 1, 0, 0) :: (0, 2, 0, 0, 0) :: (0, 1, 0, 0, 0) :: (5, 5, 26, 0, 8) :: (0, 1, 1, 0, 0) :: (5, 5, 84, 0, 8) :: (3, 6, 0, 0, 0) :: (5, 6, 26, 84, 0) :: (6, 4, 0, 0, 0) :: []) (by decide +kernel) h
  exact h2
theorem egk27_85 {n : Nat} {w : px_W} {r : Option Value × px_W} (h : ec_E hb_X n 176 0 [(0, .inr (.inl 91)), (1, .inr (.inl 149))] [] w r) : True ∧ r = (none, ec_cp w 27 85 (ec_tw 0) (ec_tw 0) (ec_tw (ec_mn 8 8))) ∧ ec_W hb_A (ec_cp w 27 85 (ec_tw 0) (ec_tw 0) (ec_tw (ec_mn 8 8))) := by
  have h2 := hb_ecw ((0, 1, 0, 0, 0) :: (0, 2, 0, 0, 0) :: (0, 1, 1, 0, 0) :: (0, 2, 0, 0, 0) :: (0, 1, 0, 0, 0) :: (5, 5, 27, 0, 8) :: (0, 1, 1, 0, 0) :: (5, 5, 85, 0, 8) :: (3, 6, 0, 0, 0) :: (5, 6, 27, 85, 0) :: (6, 4, 0, 0, 0) :: []) (by decide +kernel) h
  exact h2
theorem eg14_15_0_0 {n : Nat} {w : px_W} {r : Option Value × px_W} (h : ec_E hb_X n 14 0 [(0, .inr (.inl 79)), (1, .inr (.inl 137))] [] w r) : True ∧ ∃ (v : Option Value) (w1 : px_W), ec_E hb_X n 176 0 [(0, .inr (.inl 138)), (1, .inr (.inl 80))] [] (ec_pf w 15 0 (ec_fd w 73 0)) (v, w1) ∧ (v = none → ec_W hb_A w1 → ec_E hb_X n 14 19 [(0, .inr (.inl 79)), (1, .inr (.inl 137))] [] w1 r) := by
  have h2 := hb_ecw ((0, 1, 0, 0, 0) :: (0, 1, 1, 0, 0) :: (5, 0, 73, 0, 0) :: (5, 4, 15, 0, 0) :: (0, 1, 1, 0, 0) :: (5, 1, 73, 138, 0) :: (0, 1, 0, 0, 0) :: (5, 1, 15, 80, 0) :: (6, 2, 176, 2, 19) :: []) (by decide +kernel) h
  exact h2
theorem eg14_15_19_0 {n : Nat} {w : px_W} {r : Option Value × px_W} (h : ec_E hb_X n 14 19 [(0, .inr (.inl 79)), (1, .inr (.inl 137))] [] w r) : True ∧ ∃ (v : Option Value) (w1 : px_W), ec_E hb_X n 176 0 [(0, .inr (.inl 139)), (1, .inr (.inl 81))] [] w (v, w1) ∧ (v = none → ec_W hb_A w1 → ec_E hb_X n 14 30 [(0, .inr (.inl 79)), (1, .inr (.inl 137))] [] w1 r) := by
  have h2 := hb_ecw ((0, 1, 1, 0, 0) :: (5, 1, 73, 139, 0) :: (0, 1, 0, 0, 0) :: (5, 1, 15, 81, 0) :: (6, 2, 176, 2, 30) :: []) (by decide +kernel) h
  exact h2
theorem eg14_15_30_0 {n : Nat} {w : px_W} {r : Option Value × px_W} (h : ec_E hb_X n 14 30 [(0, .inr (.inl 79)), (1, .inr (.inl 137))] [] w r) : True ∧ ∃ (v : Option Value) (w1 : px_W), ec_E hb_X n 176 0 [(0, .inr (.inl 140)), (1, .inr (.inl 82))] [] w (v, w1) ∧ (v = none → ec_W hb_A w1 → ec_E hb_X n 14 41 [(0, .inr (.inl 79)), (1, .inr (.inl 137))] [] w1 r) := by
  have h2 := hb_ecw ((0, 1, 1, 0, 0) :: (5, 1, 73, 140, 0) :: (0, 1, 0, 0, 0) :: (5, 1, 15, 82, 0) :: (6, 2, 176, 2, 41) :: []) (by decide +kernel) h
  exact h2
theorem eg14_15_41_0 {n : Nat} {w : px_W} {r : Option Value × px_W} (h : ec_E hb_X n 14 41 [(0, .inr (.inl 79)), (1, .inr (.inl 137))] [] w r) : True ∧ ∃ (v : Option Value) (w1 : px_W), ec_E hb_X n 176 0 [(0, .inr (.inl 141)), (1, .inr (.inl 83))] [] w (v, w1) ∧ (v = none → ec_W hb_A w1 → ec_E hb_X n 14 52 [(0, .inr (.inl 79)), (1, .inr (.inl 137))] [] w1 r) := by
  have h2 := hb_ecw ((0, 1, 1, 0, 0) :: (5, 1, 73, 141, 0) :: (0, 1, 0, 0, 0) :: (5, 1, 15, 83, 0) :: (6, 2, 176, 2, 52) :: []) (by decide +kernel) h
  exact h2
theorem eg14_15_52_0 {n : Nat} {w : px_W} {r : Option Value × px_W} (h : ec_E hb_X n 14 52 [(0, .inr (.inl 79)), (1, .inr (.inl 137))] [] w r) : True ∧ ∃ (v : Option Value) (w1 : px_W), ec_E hb_X n 176 0 [(0, .inr (.inl 142)), (1, .inr (.inl 84))] [] (ec_pf w 15 5 (ec_fd w 73 5)) (v, w1) ∧ (v = none → ec_W hb_A w1 → ec_E hb_X n 14 71 [(0, .inr (.inl 79)), (1, .inr (.inl 137))] [] w1 r) := by
  have h2 := hb_ecw ((0, 1, 0, 0, 0) :: (0, 1, 1, 0, 0) :: (5, 0, 73, 5, 0) :: (5, 4, 15, 5, 0) :: (0, 1, 1, 0, 0) :: (5, 1, 73, 142, 0) :: (0, 1, 0, 0, 0) :: (5, 1, 15, 84, 0) :: (6, 2, 176, 2, 71) :: []) (by decide +kernel) h
  exact h2
theorem eg14_15_71_0 {n : Nat} {w : px_W} {r : Option Value × px_W} (h : ec_E hb_X n 14 71 [(0, .inr (.inl 79)), (1, .inr (.inl 137))] [] w r) : True ∧ ∃ (v : Option Value) (w1 : px_W), ec_E hb_X n 176 0 [(0, .inr (.inl 143)), (1, .inr (.inl 85))] [] w (v, w1) ∧ (v = none → ec_W hb_A w1 → ec_E hb_X n 14 82 [(0, .inr (.inl 79)), (1, .inr (.inl 137))] [] w1 r) := by
  have h2 := hb_ecw ((0, 1, 1, 0, 0) :: (5, 1, 73, 143, 0) :: (0, 1, 0, 0, 0) :: (5, 1, 15, 85, 0) :: (6, 2, 176, 2, 82) :: []) (by decide +kernel) h
  exact h2
theorem eg14_15_82_0 {n : Nat} {w : px_W} {r : Option Value × px_W} (h : ec_E hb_X n 14 82 [(0, .inr (.inl 79)), (1, .inr (.inl 137))] [] w r) : True ∧ ∃ (v : Option Value) (w1 : px_W), ec_E hb_X n 176 0 [(0, .inr (.inl 144)), (1, .inr (.inl 86))] [] w (v, w1) ∧ (v = none → ec_W hb_A w1 → ec_E hb_X n 14 93 [(0, .inr (.inl 79)), (1, .inr (.inl 137))] [] w1 r) := by
  have h2 := hb_ecw ((0, 1, 1, 0, 0) :: (5, 1, 73, 144, 0) :: (0, 1, 0, 0, 0) :: (5, 1, 15, 86, 0) :: (6, 2, 176, 2, 93) :: []) (by decide +kernel) h
  exact h2
theorem eg14_15_93_0 {n : Nat} {w : px_W} {r : Option Value × px_W} (h : ec_E hb_X n 14 93 [(0, .inr (.inl 79)), (1, .inr (.inl 137))] [] w r) : True ∧ ∃ (v : Option Value) (w1 : px_W), ec_E hb_X n 176 0 [(0, .inr (.inl 145)), (1, .inr (.inl 87))] [] w (v, w1) ∧ (v = none → ec_W hb_A w1 → ec_E hb_X n 14 104 [(0, .inr (.inl 79)), (1, .inr (.inl 137))] [] w1 r) := by
  have h2 := hb_ecw ((0, 1, 1, 0, 0) :: (5, 1, 73, 145, 0) :: (0, 1, 0, 0, 0) :: (5, 1, 15, 87, 0) :: (6, 2, 176, 2, 104) :: []) (by decide +kernel) h
  exact h2
theorem eg14_15_104_0 {n : Nat} {w : px_W} {r : Option Value × px_W} (h : ec_E hb_X n 14 104 [(0, .inr (.inl 79)), (1, .inr (.inl 137))] [] w r) : True ∧ ∃ (v : Option Value) (w1 : px_W), ec_E hb_X n 176 0 [(0, .inr (.inl 146)), (1, .inr (.inl 88))] [] (ec_pf w 15 10 (ec_fd w 73 10)) (v, w1) ∧ (v = none → ec_W hb_A w1 → ec_E hb_X n 14 123 [(0, .inr (.inl 79)), (1, .inr (.inl 137))] [] w1 r) := by
  have h2 := hb_ecw ((0, 1, 0, 0, 0) :: (0, 1, 1, 0, 0) :: (5, 0, 73, 10, 0) :: (5, 4, 15, 10, 0) :: (0, 1, 1, 0, 0) :: (5, 1, 73, 146, 0) :: (0, 1, 0, 0, 0) :: (5, 1, 15, 88, 0) :: (6, 2, 176, 2, 123) :: []) (by decide +kernel) h
  exact h2
theorem eg14_15_123_0 {n : Nat} {w : px_W} {r : Option Value × px_W} (h : ec_E hb_X n 14 123 [(0, .inr (.inl 79)), (1, .inr (.inl 137))] [] w r) : True ∧ ∃ (v : Option Value) (w1 : px_W), ec_E hb_X n 176 0 [(0, .inr (.inl 147)), (1, .inr (.inl 89))] [] w (v, w1) ∧ (v = none → ec_W hb_A w1 → ec_E hb_X n 14 134 [(0, .inr (.inl 79)), (1, .inr (.inl 137))] [] w1 r) := by
  have h2 := hb_ecw ((0, 1, 1, 0, 0) :: (5, 1, 73, 147, 0) :: (0, 1, 0, 0, 0) :: (5, 1, 15, 89, 0) :: (6, 2, 176, 2, 134) :: []) (by decide +kernel) h
  exact h2
theorem eg14_15_134_0 {n : Nat} {w : px_W} {r : Option Value × px_W} (h : ec_E hb_X n 14 134 [(0, .inr (.inl 79)), (1, .inr (.inl 137))] [] w r) : True ∧ ∃ (v : Option Value) (w1 : px_W), ec_E hb_X n 176 0 [(0, .inr (.inl 148)), (1, .inr (.inl 90))] [] w (v, w1) ∧ (v = none → ec_W hb_A w1 → ec_E hb_X n 14 145 [(0, .inr (.inl 79)), (1, .inr (.inl 137))] [] w1 r) := by
  have h2 := hb_ecw ((0, 1, 1, 0, 0) :: (5, 1, 73, 148, 0) :: (0, 1, 0, 0, 0) :: (5, 1, 15, 90, 0) :: (6, 2, 176, 2, 145) :: []) (by decide +kernel) h
  exact h2
theorem eg14_15_145_0 {n : Nat} {w : px_W} {r : Option Value × px_W} (h : ec_E hb_X n 14 145 [(0, .inr (.inl 79)), (1, .inr (.inl 137))] [] w r) : True ∧ ∃ (v : Option Value) (w1 : px_W), ec_E hb_X n 176 0 [(0, .inr (.inl 149)), (1, .inr (.inl 91))] [] w (v, w1) ∧ (v = none → ec_W hb_A w1 → ec_E hb_X n 14 156 [(0, .inr (.inl 79)), (1, .inr (.inl 137))] [] w1 r) := by
  have h2 := hb_ecw ((0, 1, 1, 0, 0) :: (5, 1, 73, 149, 0) :: (0, 1, 0, 0, 0) :: (5, 1, 15, 91, 0) :: (6, 2, 176, 2, 156) :: []) (by decide +kernel) h
  exact h2
theorem eg14_15_156_0 {n : Nat} {w : px_W} {r : Option Value × px_W} (h : ec_E hb_X n 14 156 [(0, .inr (.inl 79)), (1, .inr (.inl 137))] [] w r) : True ∧ r = (none, w) ∧ ec_W hb_A w := by
  have h2 := hb_ecw ((6, 4, 0, 0, 0) :: []) (by decide +kernel) h
  exact h2
theorem egk74_16 {n : Nat} {w : px_W} {r : Option Value × px_W} (h : ec_E hb_X n 176 0 [(0, .inr (.inl 138)), (1, .inr (.inl 80))] [] w r) : True ∧ r = (none, ec_cp w 74 16 (ec_tw 0) (ec_tw 0) (ec_tw (ec_mn 12 12))) ∧ ec_W hb_A (ec_cp w 74 16 (ec_tw 0) (ec_tw 0) (ec_tw (ec_mn 12 12))) := by
  have h2 := hb_ecw ((0, 1, 0, 0, 0) :: (0, 2, 0, 0, 0) :: (0, 1, 1, 0, 0) :: (0, 2, 0, 0, 0) :: (0, 1, 0, 0, 0) :: (5, 5, 74, 0, 12) :: (0, 1, 1, 0, 0) :: (5, 5, 16, 0, 12) :: (3, 6, 0, 0, 0) :: (5, 6, 74, 16, 0) :: (6, 4, 0, 0, 0) :: []) (by decide +kernel) h
  exact h2
theorem egk75_17 {n : Nat} {w : px_W} {r : Option Value × px_W} (h : ec_E hb_X n 176 0 [(0, .inr (.inl 139)), (1, .inr (.inl 81))] [] w r) : True ∧ r = (none, ec_cp w 75 17 (ec_tw 0) (ec_tw 0) (ec_tw (ec_mn 12 12))) ∧ ec_W hb_A (ec_cp w 75 17 (ec_tw 0) (ec_tw 0) (ec_tw (ec_mn 12 12))) := by
  have h2 := hb_ecw ((0, 1, 0, 0, 0) :: (0, 2, 0, 0, 0) :: (0, 1, 1, 0, 0) :: (0, 2, 0, 0, 0) :: (0, 1, 0, 0, 0) :: (5, 5, 75, 0, 12) :: (0, 1, 1, 0, 0) :: (5, 5, 17, 0, 12) :: (3, 6, 0, 0, 0) :: (5, 6, 75, 17, 0) :: (6, 4, 0, 0, 0) :: []) (by decide +kernel) h
  exact h2
theorem egk76_18 {n : Nat} {w : px_W} {r : Option Value × px_W} (h : ec_E hb_X n 176 0 [(0, .inr (.inl 140)), (1, .inr (.inl 82))] [] w r) : True ∧ r = (none, ec_cp w 76 18 (ec_tw 0) (ec_tw 0) (ec_tw (ec_mn 12 12))) ∧ ec_W hb_A (ec_cp w 76 18 (ec_tw 0) (ec_tw 0) (ec_tw (ec_mn 12 12))) := by
  have h2 := hb_ecw ((0, 1, 0, 0, 0) :: (0, 2, 0, 0, 0) :: (0, 1, 1, 0, 0) :: (0, 2, 0, 0, 0) :: (0, 1, 0, 0, 0) :: (5, 5, 76, 0, 12) :: (0, 1, 1, 0, 0) :: (5, 5, 18, 0, 12) :: (3, 6, 0, 0, 0) :: (5, 6, 76, 18, 0) :: (6, 4, 0, 0, 0) :: []) (by decide +kernel) h
  exact h2
theorem egk77_19 {n : Nat} {w : px_W} {r : Option Value × px_W} (h : ec_E hb_X n 176 0 [(0, .inr (.inl 141)), (1, .inr (.inl 83))] [] w r) : True ∧ r = (none, ec_cp w 77 19 (ec_tw 0) (ec_tw 0) (ec_tw (ec_mn 12 12))) ∧ ec_W hb_A (ec_cp w 77 19 (ec_tw 0) (ec_tw 0) (ec_tw (ec_mn 12 12))) := by
  have h2 := hb_ecw ((0, 1, 0, 0, 0) :: (0, 2, 0, 0, 0) :: (0, 1, 1, 0, 0) :: (0, 2, 0, 0, 0) :: (0, 1, 0, 0, 0) :: (5, 5, 77, 0, 12) :: (0, 1, 1, 0, 0) :: (5, 5, 19, 0, 12) :: (3, 6, 0, 0, 0) :: (5, 6, 77, 19, 0) :: (6, 4, 0, 0, 0) :: []) (by decide +kernel) h
  exact h2
theorem egk78_20 {n : Nat} {w : px_W} {r : Option Value × px_W} (h : ec_E hb_X n 176 0 [(0, .inr (.inl 142)), (1, .inr (.inl 84))] [] w r) : True ∧ r = (none, ec_cp w 78 20 (ec_tw 0) (ec_tw 0) (ec_tw (ec_mn 10 10))) ∧ ec_W hb_A (ec_cp w 78 20 (ec_tw 0) (ec_tw 0) (ec_tw (ec_mn 10 10))) := by
  have h2 := hb_ecw ((0, 1, 0, 0, 0) :: (0, 2, 0, 0, 0) :: (0, 1, 1, 0, 0) :: (0, 2, 0, 0, 0) :: (0, 1, 0, 0, 0) :: (5, 5, 78, 0, 10) :: (0, 1, 1, 0, 0) :: (5, 5, 20, 0, 10) :: (3, 6, 0, 0, 0) :: (5, 6, 78, 20, 0) :: (6, 4, 0, 0, 0) :: []) (by decide +kernel) h
  exact h2
theorem egk79_21 {n : Nat} {w : px_W} {r : Option Value × px_W} (h : ec_E hb_X n 176 0 [(0, .inr (.inl 143)), (1, .inr (.inl 85))] [] w r) : True ∧ r = (none, ec_cp w 79 21 (ec_tw 0) (ec_tw 0) (ec_tw (ec_mn 10 10))) ∧ ec_W hb_A (ec_cp w 79 21 (ec_tw 0) (ec_tw 0) (ec_tw (ec_mn 10 10))) := by
  have h2 := hb_ecw ((0, 1, 0, 0, 0) :: (0, 2, 0, 0, 0) :: (0, 1, 1, 0, 0) :: (0, 2, 0, 0, 0) :: (0, 1, 0, 0, 0) :: (5, 5, 79, 0, 10) :: (0, 1, 1, 0, 0) :: (5, 5, 21, 0, 10) :: (3, 6, 0, 0, 0) :: (5, 6, 79, 21, 0) :: (6, 4, 0, 0, 0) :: []) (by decide +kernel) h
  exact h2
theorem egk80_22 {n : Nat} {w : px_W} {r : Option Value × px_W} (h : ec_E hb_X n 176 0 [(0, .inr (.inl 144)), (1, .inr (.inl 86))] [] w r) : True ∧ r = (none, ec_cp w 80 22 (ec_tw 0) (ec_tw 0) (ec_tw (ec_mn 10 10))) ∧ ec_W hb_A (ec_cp w 80 22 (ec_tw 0) (ec_tw 0) (ec_tw (ec_mn 10 10))) := by
  have h2 := hb_ecw ((0, 1, 0, 0, 0) :: (0, 2, 0, 0, 0) :: (0, 1, 1, 0, 0) :: (0, 2, 0, 0, 0) :: (0, 1, 0, 0, 0) :: (5, 5, 80, 0, 10) :: (0, 1, 1, 0, 0) :: (5, 5, 22, 0, 10) :: (3, 6, 0, 0, 0) :: (5, 6, 80, 22, 0) :: (6, 4, 0, 0, 0) :: []) (by decide +kernel) h
  exact h2
theorem egk81_23 {n : Nat} {w : px_W} {r : Option Value × px_W} (h : ec_E hb_X n 176 0 [(0, .inr (.inl 145)), (1, .inr (.inl 87))] [] w r) : True ∧ r = (none, ec_cp w 81 23 (ec_tw 0) (ec_tw 0) (ec_tw (ec_mn 10 10))) ∧ ec_W hb_A (ec_cp w 81 23 (ec_tw 0) (ec_tw 0) (ec_tw (ec_mn 10 10))) := by
  have h2 := hb_ecw ((0, 1, 0, 0, 0) :: (0, 2, 0, 0, 0) :: (0, 1, 1, 0, 0) :: (0, 2, 0, 0, 0) :: (0, 1, 0, 0, 0) :: (5, 5, 81, 0, 10) :: (0, 1, 1, 0, 0) :: (5, 5, 23, 0, 10) :: (3, 6, 0, 0, 0) :: (5, 6, 81, 23, 0) :: (6, 4, 0, 0, 0) :: []) (by decide +kernel) h
  exact h2
theorem egk82_24 {n : Nat} {w : px_W} {r : Option Value × px_W} (h : ec_E hb_X n 176 0 [(0, .inr (.inl 146)), (1, .inr (.inl 88))] [] w r) : True ∧ r = (none, ec_cp w 82 24 (ec_tw 0) (ec_tw 0) (ec_tw (ec_mn 8 8))) ∧ ec_W hb_A (ec_cp w 82 24 (ec_tw 0) (ec_tw 0) (ec_tw (ec_mn 8 8))) := by
  have h2 := hb_ecw ((0, 1, 0, 0, 0) :: (0, 2, 0, 0, 0) :: (0, 1, 1, 0, 0) :: (0, 2, 0, 0, 0) :: (0, 1, 0, 0, 0) :: (5, 5, 82, 0, 8) :: (0, 1, 1, 0, 0) :: (5, 5, 24, 0, 8) :: (3, 6, 0, 0, 0) :: (5, 6, 82, 24, 0) :: (6, 4, 0, 0, 0) :: []) (by decide +kernel) h
  exact h2
theorem egk83_25 {n : Nat} {w : px_W} {r : Option Value × px_W} (h : ec_E hb_X n 176 0 [(0, .inr (.inl 147)), (1, .inr (.inl 89))] [] w r) : True ∧ r = (none, ec_cp w 83 25 (ec_tw 0) (ec_tw 0) (ec_tw (ec_mn 8 8))) ∧ ec_W hb_A (ec_cp w 83 25 (ec_tw 0) (ec_tw 0) (ec_tw (ec_mn 8 8))) := by
  have h2 := hb_ecw ((0, 1, 0, 0, 0) :: (0, 2, 0, 0, 0) :: (0, 1, 1, 0, 0) :: (0, 2, 0, 0, 0) :: (0, 1, 0, 0, 0) :: (5, 5, 83, 0, 8) :: (0, 1, 1, 0, 0) :: (5, 5, 25, 0, 8) :: (3, 6, 0, 0, 0) :: (5, 6, 83, 25, 0) :: (6, 4, 0, 0, 0) :: []) (by decide +kernel) h
  exact h2
theorem egk84_26 {n : Nat} {w : px_W} {r : Option Value × px_W} (h : ec_E hb_X n 176 0 [(0, .inr (.inl 148)), (1, .inr (.inl 90))] [] w r) : True ∧ r = (none, ec_cp w 84 26 (ec_tw 0) (ec_tw 0) (ec_tw (ec_mn 8 8))) ∧ ec_W hb_A (ec_cp w 84 26 (ec_tw 0) (ec_tw 0) (ec_tw (ec_mn 8 8))) := by
  have h2 := hb_ecw ((0, 1, 0, 0, 0) :: (0, 2, 0, 0, 0) :: (0, 1, 1, 0, 0) :: (0, 2, 0, 0, 0) :: (0, 1, 0, 0, 0) :: (5, 5, 84, 0, 8) :: (0, 1, 1, 0, 0) :: (5, 5, 26, 0, 8) :: (3, 6, 0, 0, 0) :: (5, 6, 84, 26, 0) :: (6, 4, 0, 0, 0) :: []) (by decide +kernel) h
  exact h2
theorem egk85_27 {n : Nat} {w : px_W} {r : Option Value × px_W} (h : ec_E hb_X n 176 0 [(0, .inr (.inl 149)), (1, .inr (.inl 91))] [] w r) : True ∧ r = (none, ec_cp w 85 27 (ec_tw 0) (ec_tw 0) (ec_tw (ec_mn 8 8))) ∧ ec_W hb_A (ec_cp w 85 27 (ec_tw 0) (ec_tw 0) (ec_tw (ec_mn 8 8))) := by
  have h2 := hb_ecw ((0, 1, 0, 0, 0) :: (0, 2, 0, 0, 0) :: (0, 1, 1, 0, 0) :: (0, 2, 0, 0, 0) :: (0, 1, 0, 0, 0) :: (5, 5, 85, 0, 8) :: (0, 1, 1, 0, 0) :: (5, 5, 27, 0, 8) :: (3, 6, 0, 0, 0) :: (5, 6, 85, 27, 0) :: (6, 4, 0, 0, 0) :: []) (by decide +kernel) h
  exact h2
theorem eg87_87_0_0 {n : Nat} {w : px_W} {r : Option Value × px_W} (h : ec_E hb_X n 87 0 [(0, .inr (.inl 151)), (1, .inr (.inl 93))] [] w r) : True ∧ ∃ (v : Option Value) (w1 : px_W), ec_E hb_X n 176 0 [(0, .inr (.inl 94)), (1, .inr (.inl 152))] [] (ec_pf (ec_pf w 87 0 (ec_fd w 29 0)) 87 1 (ec_fd (ec_pf w 87 0 (ec_fd w 29 0)) 29 1)) (v, w1) ∧ (v = none → ec_W hb_A w1 → ec_E hb_X n 87 27 [(0, .inr (.inl 151)), (1, .inr (.inl 93))] [] w1 r) := by
  have h2 := hb_ecw ((0, 1, 0, 0, 0) :: (0, 1, 1, 0, 0) :: (5, 0, 29, 0, 0) :: (5, 4, 87, 0, 0) :: (0, 1, 0, 0, 0) :: (0, 1, 1, 0, 0) :: (5, 0, 29, 1, 0) :: (5, 4, 87, 1, 0) :: (0, 1, 1, 0, 0) :: (5, 1, 29, 94, 0) :: (0, 1, 0, 0, 0) :: (5, 1, 87, 152, 0) :: (6, 2, 176, 2, 27) :: []) (by decide +kernel) h
  exact h2
theorem eg87_87_27_0 {n : Nat} {w : px_W} {r : Option Value × px_W} (h : ec_E hb_X n 87 27 [(0, .inr (.inl 151)), (1, .inr (.inl 93))] [] w r) : True ∧ ∃ (v : Option Value) (w1 : px_W), ec_E hb_X n 176 0 [(0, .inr (.inl 95)), (1, .inr (.inl 153))] [] w (v, w1) ∧ (v = none → ec_W hb_A w1 → ec_E hb_X n 87 38 [(0, .inr (.inl 151)), (1, .inr (.inl 93))] [] w1 r) := by
  have h2 := hb_ecw ((0, 1, 1, 0, 0) :: (5, 1, 29, 95, 0) :: (0, 1, 0, 0, 0) :: (5, 1, 87, 153, 0) :: (6, 2, 176, 2, 38) :: []) (by decide +kernel) h
  exact h2
theorem eg87_87_38_0 {n : Nat} {w : px_W} {r : Option Value × px_W} (h : ec_E hb_X n 87 38 [(0, .inr (.inl 151)), (1, .inr (.inl 93))] [] w r) : True ∧ ∃ (v : Option Value) (w1 : px_W), ec_E hb_X n 176 0 [(0, .inr (.inl 96)), (1, .inr (.inl 154))] [] w (v, w1) ∧ (v = none → ec_W hb_A w1 → ec_E hb_X n 87 49 [(0, .inr (.inl 151)), (1, .inr (.inl 93))] [] w1 r) := by
  have h2 := hb_ecw ((0, 1, 1, 0, 0) :: (5, 1, 29, 96, 0) :: (0, 1, 0, 0, 0) :: (5, 1, 87, 154, 0) :: (6, 2, 176, 2, 49) :: []) (by decide +kernel) h
  exact h2
theorem eg87_87_49_0 {n : Nat} {w : px_W} {r : Option Value × px_W} (h : ec_E hb_X n 87 49 [(0, .inr (.inl 151)), (1, .inr (.inl 93))] [] w r) : True ∧ ∃ (v : Option Value) (w1 : px_W), ec_E hb_X n 176 0 [(0, .inr (.inl 97)), (1, .inr (.inl 155))] [] w (v, w1) ∧ (v = none → ec_W hb_A w1 → ec_E hb_X n 87 60 [(0, .inr (.inl 151)), (1, .inr (.inl 93))] [] w1 r) := by
  have h2 := hb_ecw ((0, 1, 1, 0, 0) :: (5, 1, 29, 97, 0) :: (0, 1, 0, 0, 0) :: (5, 1, 87, 155, 0) :: (6, 2, 176, 2, 60) :: []) (by decide +kernel) h
  exact h2
theorem eg87_87_60_0 {n : Nat} {w : px_W} {r : Option Value × px_W} (h : ec_E hb_X n 87 60 [(0, .inr (.inl 151)), (1, .inr (.inl 93))] [] w r) : True ∧ ∃ (v : Option Value) (w1 : px_W), ec_E hb_X n 176 0 [(0, .inr (.inl 98)), (1, .inr (.inl 156))] [] w (v, w1) ∧ (v = none → ec_W hb_A w1 → ec_E hb_X n 87 71 [(0, .inr (.inl 151)), (1, .inr (.inl 93))] [] w1 r) := by
  have h2 := hb_ecw ((0, 1, 1, 0, 0) :: (5, 1, 29, 98, 0) :: (0, 1, 0, 0, 0) :: (5, 1, 87, 156, 0) :: (6, 2, 176, 2, 71) :: []) (by decide +kernel) h
  exact h2
theorem eg87_87_71_0 {n : Nat} {w : px_W} {r : Option Value × px_W} (h : ec_E hb_X n 87 71 [(0, .inr (.inl 151)), (1, .inr (.inl 93))] [] w r) : True ∧ ∃ (v : Option Value) (w1 : px_W), ec_E hb_X n 176 0 [(0, .inr (.inl 99)), (1, .inr (.inl 157))] [] (ec_pf w 87 7 (ec_fd w 29 7)) (v, w1) ∧ (v = none → ec_W hb_A w1 → ec_E hb_X n 87 90 [(0, .inr (.inl 151)), (1, .inr (.inl 93))] [] w1 r) := by
  have h2 := hb_ecw ((0, 1, 0, 0, 0) :: (0, 1, 1, 0, 0) :: (5, 0, 29, 7, 0) :: (5, 4, 87, 7, 0) :: (0, 1, 1, 0, 0) :: (5, 1, 29, 99, 0) :: (0, 1, 0, 0, 0) :: (5, 1, 87, 157, 0) :: (6, 2, 176, 2, 90) :: []) (by decide +kernel) h
  exact h2
theorem eg87_87_90_0 {n : Nat} {w : px_W} {r : Option Value × px_W} (h : ec_E hb_X n 87 90 [(0, .inr (.inl 151)), (1, .inr (.inl 93))] [] w r) : True ∧ ∃ (v : Option Value) (w1 : px_W), ec_E hb_X n 176 0 [(0, .inr (.inl 100)), (1, .inr (.inl 158))] [] (ec_pf w 87 9 (ec_fd w 29 9)) (v, w1) ∧ (v = none → ec_W hb_A w1 → ec_E hb_X n 87 109 [(0, .inr (.inl 151)), (1, .inr (.inl 93))] [] w1 r) := by
  have h2 := hb_ecw ((0, 1, 0, 0, 0) :: (0, 1, 1, 0, 0) :: (5, 0, 29, 9, 0) :: (5, 4, 87, 9, 0) :: (0, 1, 1, 0, 0) :: (5, 1, 29, 100, 0) :: (0, 1, 0, 0, 0) :: (5, 1, 87, 158, 0) :: (6, 2, 176, 2, 109) :: []) (by decide +kernel) h
  exact h2
theorem eg87_87_109_0 {n : Nat} {w : px_W} {r : Option Value × px_W} (h : ec_E hb_X n 87 109 [(0, .inr (.inl 151)), (1, .inr (.inl 93))] [] w r) : True ∧ ∃ (v : Option Value) (w1 : px_W), ec_E hb_X n 176 0 [(0, .inr (.inl 101)), (1, .inr (.inl 159))] [] w (v, w1) ∧ (v = none → ec_W hb_A w1 → ec_E hb_X n 87 120 [(0, .inr (.inl 151)), (1, .inr (.inl 93))] [] w1 r) := by
  have h2 := hb_ecw ((0, 1, 1, 0, 0) :: (5, 1, 29, 101, 0) :: (0, 1, 0, 0, 0) :: (5, 1, 87, 159, 0) :: (6, 2, 176, 2, 120) :: []) (by decide +kernel) h
  exact h2
theorem eg87_87_120_0 {n : Nat} {w : px_W} {r : Option Value × px_W} (h : ec_E hb_X n 87 120 [(0, .inr (.inl 151)), (1, .inr (.inl 93))] [] w r) : True ∧ ∃ (v : Option Value) (w1 : px_W), ec_E hb_X n 176 0 [(0, .inr (.inl 102)), (1, .inr (.inl 160))] [] w (v, w1) ∧ (v = none → ec_W hb_A w1 → ec_E hb_X n 87 131 [(0, .inr (.inl 151)), (1, .inr (.inl 93))] [] w1 r) := by
  have h2 := hb_ecw ((0, 1, 1, 0, 0) :: (5, 1, 29, 102, 0) :: (0, 1, 0, 0, 0) :: (5, 1, 87, 160, 0) :: (6, 2, 176, 2, 131) :: []) (by decide +kernel) h
  exact h2
theorem eg87_87_131_0 {n : Nat} {w : px_W} {r : Option Value × px_W} (h : ec_E hb_X n 87 131 [(0, .inr (.inl 151)), (1, .inr (.inl 93))] [] w r) : True ∧ r = (none, w) ∧ ec_W hb_A w := by
  have h2 := hb_ecw ((6, 4, 0, 0, 0) :: []) (by decide +kernel) h
  exact h2
theorem egk30_88 {n : Nat} {w : px_W} {r : Option Value × px_W} (h : ec_E hb_X n 176 0 [(0, .inr (.inl 94)), (1, .inr (.inl 152))] [] w r) : True ∧ r = (none, ec_cp w 30 88 (ec_tw 0) (ec_tw 0) (ec_tw (ec_mn 6 6))) ∧ ec_W hb_A (ec_cp w 30 88 (ec_tw 0) (ec_tw 0) (ec_tw (ec_mn 6 6))) := by
  have h2 := hb_ecw ((0, 1, 0, 0, 0) :: (0, 2, 0, 0, 0) :: (0, 1, 1, 0, 0) :: (0, 2, 0, 0, 0) :: (0, 1, 0, 0, 0) :: (5, 5, 30, 0, 6) :: (0, 1, 1, 0, 0) :: (5, 5, 88, 0, 6) :: (3, 6, 0, 0, 0) :: (5, 6, 30, 88, 0) :: (6, 4, 0, 0, 0) :: []) (by decide +kernel) h
  exact h2
theorem egk31_89 {n : Nat} {w : px_W} {r : Option Value × px_W} (h : ec_E hb_X n 176 0 [(0, .inr (.inl 95)), (1, .inr (.inl 153))] [] w r) : True ∧ r = (none, ec_cp w 31 89 (ec_tw 0) (ec_tw 0) (ec_tw (ec_mn 6 6))) ∧ ec_W hb_A (ec_cp w 31 89 (ec_tw 0) (ec_tw 0) (ec_tw (ec_mn 6 6))) := by
  have h2 := hb_ecw ((0, 1, 0, 0, 0) :: (0, 2, 0, 0, 0) :: (0, 1, 1, 0, 0) :: (0, 2, 0, 0, 0) :: (0, 1, 0, 0, 0) :: (5, 5, 31, 0, 6) :: (0, 1, 1, 0, 0) :: (5, 5, 89, 0, 6) :: (3, 6, 0, 0, 0) :: (5, 6, 31, 89, 0) :: (6, 4, 0, 0, 0) :: []) (by decide +kernel) h
  exact h2
theorem egk32_90 {n : Nat} {w : px_W} {r : Option Value × px_W} (h : ec_E hb_X n 176 0 [(0, .inr (.inl 96)), (1, .inr (.inl 154))] [] w r) : True ∧ r = (none, ec_cp w 32 90 (ec_tw 0) (ec_tw 0) (ec_tw (ec_mn 6 6))) ∧ ec_W hb_A (ec_cp w 32 90 (ec_tw 0) (ec_tw 0) (ec_tw (ec_mn 6 6))) := by
  have h2 := hb_ecw ((0, 1, 0, 0, 0) :: (0, 2, 0, 0, 0) :: (0, 1, 1, 0, 0) :: (0, 2, 0, 0, 0) :: (0, 1, 0, 0, 0) :: (5, 5, 32, 0, 6) :: (0, 1, 1, 0, 0) :: (5, 5, 90, 0, 6) :: (3, 6, 0, 0, 0) :: (5, 6, 32, 90, 0) :: (6, 4, 0, 0, 0) :: []) (by decide +kernel) h
  exact h2
theorem egk33_91 {n : Nat} {w : px_W} {r : Option Value × px_W} (h : ec_E hb_X n 176 0 [(0, .inr (.inl 97)), (1, .inr (.inl 155))] [] w r) : True ∧ r = (none, ec_cp w 33 91 (ec_tw 0) (ec_tw 0) (ec_tw (ec_mn 6 6))) ∧ ec_W hb_A (ec_cp w 33 91 (ec_tw 0) (ec_tw 0) (ec_tw (ec_mn 6 6))) := by
  have h2 := hb_ecw ((0, 1, 0, 0, 0) :: (0, 2, 0, 0, 0) :: (0, 1, 1, 0, 0) :: (0, 2, 0, 0, 0) :: (0, 1, 0, 0, 0) :: (5, 5, 33, 0, 6) :: (0, 1, 1, 0, 0) :: (5, 5, 91, 0, 6) :: (3, 6, 0, 0, 0) :: (5, 6, 33, 91, 0) :: (6, 4, 0, 0, 0) :: []) (by decide +kernel) h
  exact h2
theorem egk34_92 {n : Nat} {w : px_W} {r : Option Value × px_W} (h : ec_E hb_X n 176 0 [(0, .inr (.inl 98)), (1, .inr (.inl 156))] [] w r) : True ∧ r = (none, ec_cp w 34 92 (ec_tw 0) (ec_tw 0) (ec_tw (ec_mn 6 6))) ∧ ec_W hb_A (ec_cp w 34 92 (ec_tw 0) (ec_tw 0) (ec_tw (ec_mn 6 6))) := by
  have h2 := hb_ecw ((0, 1, 0, 0, 0) :: (0, 2, 0, 0, 0) :: (0, 1, 1, 0, 0) :: (0, 2, 0, 0, 0) :: (0, 1, 0, 0, 0) :: (5, 5, 34, 0, 6) :: (0, 1, 1, 0, 0) :: (5, 5, 92, 0, 6) :: (3, 6, 0, 0, 0) :: (5, 6, 34, 92, 0) :: (6, 4, 0, 0, 0) :: []) (by decide +kernel) h
  exact h2
theorem egk35_93 {n : Nat} {w : px_W} {r : Option Value × px_W} (h : ec_E hb_X n 176 0 [(0, .inr (.inl 99)), (1, .inr (.inl 157))] [] w r) : True ∧ r = (none, ec_cp w 35 93 (ec_tw 0) (ec_tw 0) (ec_tw (ec_mn 10 10))) ∧ ec_W hb_A (ec_cp w 35 93 (ec_tw 0) (ec_tw 0) (ec_tw (ec_mn 10 10))) := by
  have h2 := hb_ecw ((0, 1, 0, 0, 0) :: (0, 2, 0, 0, 0) :: (0, 1, 1, 0, 0) :: (0, 2, 0, 0, 0) :: (0, 1, 0, 0, 0) :: (5, 5, 35, 0, 10) :: (0, 1, 1, 0, 0) :: (5, 5, 93, 0, 10) :: (3, 6, 0, 0, 0) :: (5, 6, 35, 93, 0) :: (6, 4, 0, 0, 0) :: []) (by decide +kernel) h
  exact h2
theorem egk36_94 {n : Nat} {w : px_W} {r : Option Value × px_W} (h : ec_E hb_X n 176 0 [(0, .inr (.inl 100)), (1, .inr (.inl 158))] [] w r) : True ∧ r = (none, ec_cp w 36 94 (ec_tw 0) (ec_tw 0) (ec_tw (ec_mn 8 8))) ∧ ec_W hb_A (ec_cp w 36 94 (ec_tw 0) (ec_tw 0) (ec_tw (ec_mn 8 8))) := by
  have h2 := hb_ecw ((0, 1, 0, 0, 0) :: (0, 2, 0, 0, 0) :: (0, 1, 1, 0, 0) :: (0, 2, 0, 0, 0) :: (0, 1, 0, 0, 0) :: (5, 5, 36, 0, 8) :: (0, 1, 1, 0, 0) :: (5, 5, 94, 0, 8) :: (3, 6, 0, 0, 0) :: (5, 6, 36, 94, 0) :: (6, 4, 0, 0, 0) :: []) (by decide +kernel) h
  exact h2
theorem egk37_95 {n : Nat} {w : px_W} {r : Option Value × px_W} (h : ec_E hb_X n 176 0 [(0, .inr (.inl 101)), (1, .inr (.inl 159))] [] w r) : True ∧ r = (none, ec_cp w 37 95 (ec_tw 0) (ec_tw 0) (ec_tw (ec_mn 8 8))) ∧ ec_W hb_A (ec_cp w 37 95 (ec_tw 0) (ec_tw 0) (ec_tw (ec_mn 8 8))) := by
  have h2 := hb_ecw ((0, 1, 0, 0, 0) :: (0, 2, 0, 0, 0) :: (0, 1, 1, 0, 0) :: (0, 2, 0, 0, 0) :: (0, 1, 0, 0, 0) :: (5, 5, 37, 0, 8) :: (0, 1, 1, 0, 0) :: (5, 5, 95, 0, 8) :: (3, 6, 0, 0, 0) :: (5, 6, 37, 95, 0) :: (6, 4, 0, 0, 0) :: []) (by decide +kernel) h
  exact h2
theorem egk38_96 {n : Nat} {w : px_W} {r : Option Value × px_W} (h : ec_E hb_X n 176 0 [(0, .inr (.inl 102)), (1, .inr (.inl 160))] [] w r) : True ∧ r = (none, ec_cp w 38 96 (ec_tw 0) (ec_tw 0) (ec_tw (ec_mn 8 8))) ∧ ec_W hb_A (ec_cp w 38 96 (ec_tw 0) (ec_tw 0) (ec_tw (ec_mn 8 8))) := by
  have h2 := hb_ecw ((0, 1, 0, 0, 0) :: (0, 2, 0, 0, 0) :: (0, 1, 1, 0, 0) :: (0, 2, 0, 0, 0) :: (0, 1, 0, 0, 0) :: (5, 5, 38, 0, 8) :: (0, 1, 1, 0, 0) :: (5, 5, 96, 0, 8) :: (3, 6, 0, 0, 0) :: (5, 6, 38, 96, 0) :: (6, 4, 0, 0, 0) :: []) (by decide +kernel) h
  exact h2
theorem eg87_29_0_0 {n : Nat} {w : px_W} {r : Option Value × px_W} (h : ec_E hb_X n 87 0 [(0, .inr (.inl 93)), (1, .inr (.inl 151))] [] w r) : True ∧ ∃ (v : Option Value) (w1 : px_W), ec_E hb_X n 176 0 [(0, .inr (.inl 152)), (1, .inr (.inl 94))] [] (ec_pf (ec_pf w 29 0 (ec_fd w 87 0)) 29 1 (ec_fd (ec_pf w 29 0 (ec_fd w 87 0)) 87 1)) (v, w1) ∧ (v = none → ec_W hb_A w1 → ec_E hb_X n 87 27 [(0, .inr (.inl 93)), (1, .inr (.inl 151))] [] w1 r) := by
  have h2 := hb_ecw ((0, 1, 0, 0, 0) :: (0, 1, 1, 0, 0) :: (5, 0, 87, 0, 0) :: (5, 4, 29, 0, 0) :: (0, 1, 0, 0, 0) :: (0, 1, 1, 0, 0) :: (5, 0, 87, 1, 0) :: (5, 4, 29, 1, 0) :: (0, 1, 1, 0, 0) :: (5, 1, 87, 152, 0) :: (0, 1, 0, 0, 0) :: (5, 1, 29, 94, 0) :: (6, 2, 176, 2, 27) :: []) (by decide +kernel) h
  exact h2
theorem eg87_29_27_0 {n : Nat} {w : px_W} {r : Option Value × px_W} (h : ec_E hb_X n 87 27 [(0, .inr (.inl 93)), (1, .inr (.inl 151))] [] w r) : True ∧ ∃ (v : Option Value) (w1 : px_W), ec_E hb_X n 176 0 [(0, .inr (.inl 153)), (1, .inr (.inl 95))] [] w (v, w1) ∧ (v = none → ec_W hb_A w1 → ec_E hb_X n 87 38 [(0, .inr (.inl 93)), (1, .inr (.inl 151))] [] w1 r) := by
  have h2 := hb_ecw ((0, 1, 1, 0, 0) :: (5, 1, 87, 153, 0) :: (0, 1, 0, 0, 0) :: (5, 1, 29, 95, 0) :: (6, 2, 176, 2, 38) :: []) (by decide +kernel) h
  exact h2
theorem eg87_29_38_0 {n : Nat} {w : px_W} {r : Option Value × px_W} (h : ec_E hb_X n 87 38 [(0, .inr (.inl 93)), (1, .inr (.inl 151))] [] w r) : True ∧ ∃ (v : Option Value) (w1 : px_W), ec_E hb_X n 176 0 [(0, .inr (.inl 154)), (1, .inr (.inl 96))] [] w (v, w1) ∧ (v = none → ec_W hb_A w1 → ec_E hb_X n 87 49 [(0, .inr (.inl 93)), (1, .inr (.inl 151))] [] w1 r) := by
  have h2 := hb_ecw ((0, 1, 1, 0, 0) :: (5, 1, 87, 154, 0) :: (0, 1, 0, 0, 0) :: (5, 1, 29, 96, 0) :: (6, 2, 176, 2, 49) :: []) (by decide +kernel) h
  exact h2
theorem eg87_29_49_0 {n : Nat} {w : px_W} {r : Option Value × px_W} (h : ec_E hb_X n 87 49 [(0, .inr (.inl 93)), (1, .inr (.inl 151))] [] w r) : True ∧ ∃ (v : Option Value) (w1 : px_W), ec_E hb_X n 176 0 [(0, .inr (.inl 155)), (1, .inr (.inl 97))] [] w (v, w1) ∧ (v = none → ec_W hb_A w1 → ec_E hb_X n 87 60 [(0, .inr (.inl 93)), (1, .inr (.inl 151))] [] w1 r) := by
  have h2 := hb_ecw ((0, 1, 1, 0, 0) :: (5, 1, 87, 155, 0) :: (0, 1, 0, 0, 0) :: (5, 1, 29, 97, 0) :: (6, 2, 176, 2, 60) :: []) (by decide +kernel) h
  exact h2
theorem eg87_29_60_0 {n : Nat} {w : px_W} {r : Option Value × px_W} (h : ec_E hb_X n 87 60 [(0, .inr (.inl 93)), (1, .inr (.inl 151))] [] w r) : True ∧ ∃ (v : Option Value) (w1 : px_W), ec_E hb_X n 176 0 [(0, .inr (.inl 156)), (1, .inr (.inl 98))] [] w (v, w1) ∧ (v = none → ec_W hb_A w1 → ec_E hb_X n 87 71 [(0, .inr (.inl 93)), (1, .inr (.inl 151))] [] w1 r) := by
  have h2 := hb_ecw ((0, 1, 1, 0, 0) :: (5, 1, 87, 156, 0) :: (0, 1, 0, 0, 0) :: (5, 1, 29, 98, 0) :: (6, 2, 176, 2, 71) :: []) (by decide +kernel) h
  exact h2
theorem eg87_29_71_0 {n : Nat} {w : px_W} {r : Option Value × px_W} (h : ec_E hb_X n 87 71 [(0, .inr (.inl 93)), (1, .inr (.inl 151))] [] w r) : True ∧ ∃ (v : Option Value) (w1 : px_W), ec_E hb_X n 176 0 [(0, .inr (.inl 157)), (1, .inr (.inl 99))] [] (ec_pf w 29 7 (ec_fd w 87 7)) (v, w1) ∧ (v = none → ec_W hb_A w1 → ec_E hb_X n 87 90 [(0, .inr (.inl 93)), (1, .inr (.inl 151))] [] w1 r) := by
  have h2 := hb_ecw ((0, 1, 0, 0, 0) :: (0, 1, 1, 0, 0) :: (5, 0, 87, 7, 0) :: (5, 4, 29, 7, 0) :: (0, 1, 1, 0, 0) :: (5, 1, 87, 157, 0) :: (0, 1, 0, 0, 0) :: (5, 1, 29, 99, 0) :: (6, 2, 176, 2, 90) :: []) (by decide +kernel) h
  exact h2
theorem eg87_29_90_0 {n : Nat} {w : px_W} {r : Option Value × px_W} (h : ec_E hb_X n 87 90 [(0, .inr (.inl 93)), (1, .inr (.inl 151))] [] w r) : True ∧ ∃ (v : Option Value) (w1 : px_W), ec_E hb_X n 176 0 [(0, .inr (.inl 158)), (1, .inr (.inl 100))] [] (ec_pf w 29 9 (ec_fd w 87 9)) (v, w1) ∧ (v = none → ec_W hb_A w1 → ec_E hb_X n 87 109 [(0, .inr (.inl 93)), (1, .inr (.inl 151))] [] w1 r) := by
  have h2 := hb_ecw ((0, 1, 0, 0, 0) :: (0, 1, 1, 0, 0) :: (5, 0, 87, 9, 0) :: (5, 4, 29, 9, 0) :: (0, 1, 1, 0, 0) :: (5, 1, 87, 158, 0) :: (0, 1, 0, 0, 0) :: (5, 1, 29, 100, 0) :: (6, 2, 176, 2, 109) :: []) (by decide +kernel) h
  exact h2
theorem eg87_29_109_0 {n : Nat} {w : px_W} {r : Option Value × px_W} (h : ec_E hb_X n 87 109 [(0, .inr (.inl 93)), (1, .inr (.inl 151))] [] w r) : True ∧ ∃ (v : Option Value) (w1 : px_W), ec_E hb_X n 176 0 [(0, .inr (.inl 159)), (1, .inr (.inl 101))] [] w (v, w1) ∧ (v = none → ec_W hb_A w1 → ec_E hb_X n 87 120 [(0, .inr (.inl 93)), (1, .inr (.inl 151))] [] w1 r) := by
  have h2 := hb_ecw ((0, 1, 1, 0, 0) :: (5, 1, 87, 159, 0) :: (0, 1, 0, 0, 0) :: (5, 1, 29, 101, 0) :: (6, 2, 176, 2, 120) :: []) (by decide +kernel) h
  exact h2
theorem eg87_29_120_0 {n : Nat} {w : px_W} {r : Option Value × px_W} (h : ec_E hb_X n 87 120 [(0, .inr (.inl 93)), (1, .inr (.inl 151))] [] w r) : True ∧ ∃ (v : Option Value) (w1 : px_W), ec_E hb_X n 176 0 [(0, .inr (.inl 160)), (1, .inr (.inl 102))] [] w (v, w1) ∧ (v = none → ec_W hb_A w1 → ec_E hb_X n 87 131 [(0, .inr (.inl 93)), (1, .inr (.inl 151))] [] w1 r) := by
  have h2 := hb_ecw ((0, 1, 1, 0, 0) :: (5, 1, 87, 160, 0) :: (0, 1, 0, 0, 0) :: (5, 1, 29, 102, 0) :: (6, 2, 176, 2, 131) :: []) (by decide +kernel) h
  exact h2
theorem eg87_29_131_0 {n : Nat} {w : px_W} {r : Option Value × px_W} (h : ec_E hb_X n 87 131 [(0, .inr (.inl 93)), (1, .inr (.inl 151))] [] w r) : True ∧ r = (none, w) ∧ ec_W hb_A w := by
  have h2 := hb_ecw ((6, 4, 0, 0, 0) :: []) (by decide +kernel) h
  exact h2
theorem egk88_30 {n : Nat} {w : px_W} {r : Option Value × px_W} (h : ec_E hb_X n 176 0 [(0, .inr (.inl 152)), (1, .inr (.inl 94))] [] w r) : True ∧ r = (none, ec_cp w 88 30 (ec_tw 0) (ec_tw 0) (ec_tw (ec_mn 6 6))) ∧ ec_W hb_A (ec_cp w 88 30 (ec_tw 0) (ec_tw 0) (ec_tw (ec_mn 6 6))) := by
  have h2 := hb_ecw ((0, 1, 0, 0, 0) :: (0, 2, 0, 0, 0) :: (0, 1, 1, 0, 0) :: (0, 2, 0, 0, 0) :: (0, 1, 0, 0, 0) :: (5, 5, 88, 0, 6) :: (0, 1, 1, 0, 0) :: (5, 5, 30, 0, 6) :: (3, 6, 0, 0, 0) :: (5, 6, 88, 30, 0) :: (6, 4, 0, 0, 0) :: []) (by decide +kernel) h
  exact h2
theorem egk89_31 {n : Nat} {w : px_W} {r : Option Value × px_W} (h : ec_E hb_X n 176 0 [(0, .inr (.inl 153)), (1, .inr (.inl 95))] [] w r) : True ∧ r = (none, ec_cp w 89 31 (ec_tw 0) (ec_tw 0) (ec_tw (ec_mn 6 6))) ∧ ec_W hb_A (ec_cp w 89 31 (ec_tw 0) (ec_tw 0) (ec_tw (ec_mn 6 6))) := by
  have h2 := hb_ecw ((0, 1, 0, 0, 0) :: (0, 2, 0, 0, 0) :: (0, 1, 1, 0, 0) :: (0, 2, 0, 0, 0) :: (0, 1, 0, 0, 0) :: (5, 5, 89, 0, 6) :: (0, 1, 1, 0, 0) :: (5, 5, 31, 0, 6) :: (3, 6, 0, 0, 0) :: (5, 6, 89, 31, 0) :: (6, 4, 0, 0, 0) :: []) (by decide +kernel) h
  exact h2
theorem egk90_32 {n : Nat} {w : px_W} {r : Option Value × px_W} (h : ec_E hb_X n 176 0 [(0, .inr (.inl 154)), (1, .inr (.inl 96))] [] w r) : True ∧ r = (none, ec_cp w 90 32 (ec_tw 0) (ec_tw 0) (ec_tw (ec_mn 6 6))) ∧ ec_W hb_A (ec_cp w 90 32 (ec_tw 0) (ec_tw 0) (ec_tw (ec_mn 6 6))) := by
  have h2 := hb_ecw ((0, 1, 0, 0, 0) :: (0, 2, 0, 0, 0) :: (0, 1, 1, 0, 0) :: (0, 2, 0, 0, 0) :: (0, 1, 0, 0, 0) :: (5, 5, 90, 0, 6) :: (0, 1, 1, 0, 0) :: (5, 5, 32, 0, 6) :: (3, 6, 0, 0, 0) :: (5, 6, 90, 32, 0) :: (6, 4, 0, 0, 0) :: []) (by decide +kernel) h
  exact h2
theorem egk91_33 {n : Nat} {w : px_W} {r : Option Value × px_W} (h : ec_E hb_X n 176 0 [(0, .inr (.inl 155)), (1, .inr (.inl 97))] [] w r) : True ∧ r = (none, ec_cp w 91 33 (ec_tw 0) (ec_tw 0) (ec_tw (ec_mn 6 6))) ∧ ec_W hb_A (ec_cp w 91 33 (ec_tw 0) (ec_tw 0) (ec_tw (ec_mn 6 6))) := by
  have h2 := hb_ecw ((0, 1, 0, 0, 0) :: (0, 2, 0, 0, 0) :: (0, 1, 1, 0, 0) :: (0, 2, 0, 0, 0) :: (0, 1, 0, 0, 0) :: (5, 5, 91, 0, 6) :: (0, 1, 1, 0, 0) :: (5, 5, 33, 0, 6) :: (3, 6, 0, 0, 0) :: (5, 6, 91, 33, 0) :: (6, 4, 0, 0, 0) :: []) (by decide +kernel) h
  exact h2
theorem egk92_34 {n : Nat} {w : px_W} {r : Option Value × px_W} (h : ec_E hb_X n 176 0 [(0, .inr (.inl 156)), (1, .inr (.inl 98))] [] w r) : True ∧ r = (none, ec_cp w 92 34 (ec_tw 0) (ec_tw 0) (ec_tw (ec_mn 6 6))) ∧ ec_W hb_A (ec_cp w 92 34 (ec_tw 0) (ec_tw 0) (ec_tw (ec_mn 6 6))) := by
  have h2 := hb_ecw ((0, 1, 0, 0, 0) :: (0, 2, 0, 0, 0) :: (0, 1, 1, 0, 0) :: (0, 2, 0, 0, 0) :: (0, 1, 0, 0, 0) :: (5, 5, 92, 0, 6) :: (0, 1, 1, 0, 0) :: (5, 5, 34, 0, 6) :: (3, 6, 0, 0, 0) :: (5, 6, 92, 34, 0) :: (6, 4, 0, 0, 0) :: []) (by decide +kernel) h
  exact h2
theorem egk93_35 {n : Nat} {w : px_W} {r : Option Value × px_W} (h : ec_E hb_X n 176 0 [(0, .inr (.inl 157)), (1, .inr (.inl 99))] [] w r) : True ∧ r = (none, ec_cp w 93 35 (ec_tw 0) (ec_tw 0) (ec_tw (ec_mn 10 10))) ∧ ec_W hb_A (ec_cp w 93 35 (ec_tw 0) (ec_tw 0) (ec_tw (ec_mn 10 10))) := by
  have h2 := hb_ecw ((0, 1, 0, 0, 0) :: (0, 2, 0, 0, 0) :: (0, 1, 1, 0, 0) :: (0, 2, 0, 0, 0) :: (0, 1, 0, 0, 0) :: (5, 5, 93, 0, 10) :: (0, 1, 1, 0, 0) :: (5, 5, 35, 0, 10) :: (3, 6, 0, 0, 0) :: (5, 6, 93, 35, 0) :: (6, 4, 0, 0, 0) :: []) (by decide +kernel) h
  exact h2
theorem egk94_36 {n : Nat} {w : px_W} {r : Option Value × px_W} (h : ec_E hb_X n 176 0 [(0, .inr (.inl 158)), (1, .inr (.inl 100))] [] w r) : True ∧ r = (none, ec_cp w 94 36 (ec_tw 0) (ec_tw 0) (ec_tw (ec_mn 8 8))) ∧ ec_W hb_A (ec_cp w 94 36 (ec_tw 0) (ec_tw 0) (ec_tw (ec_mn 8 8))) := by
  have h2 := hb_ecw ((0, 1, 0, 0, 0) :: (0, 2, 0, 0, 0) :: (0, 1, 1, 0, 0) :: (0, 2, 0, 0, 0) :: (0, 1, 0, 0, 0) :: (5, 5, 94, 0, 8) :: (0, 1, 1, 0, 0) :: (5, 5, 36, 0, 8) :: (3, 6, 0, 0, 0) :: (5, 6, 94, 36, 0) :: (6, 4, 0, 0, 0) :: []) (by decide +kernel) h
  exact h2
theorem egk95_37 {n : Nat} {w : px_W} {r : Option Value × px_W} (h : ec_E hb_X n 176 0 [(0, .inr (.inl 159)), (1, .inr (.inl 101))] [] w r) : True ∧ r = (none, ec_cp w 95 37 (ec_tw 0) (ec_tw 0) (ec_tw (ec_mn 8 8))) ∧ ec_W hb_A (ec_cp w 95 37 (ec_tw 0) (ec_tw 0) (ec_tw (ec_mn 8 8))) := by
  have h2 := hb_ecw ((0, 1, 0, 0, 0) :: (0, 2, 0, 0, 0) :: (0, 1, 1, 0, 0) :: (0, 2, 0, 0, 0) :: (0, 1, 0, 0, 0) :: (5, 5, 95, 0, 8) :: (0, 1, 1, 0, 0) :: (5, 5, 37, 0, 8) :: (3, 6, 0, 0, 0) :: (5, 6, 95, 37, 0) :: (6, 4, 0, 0, 0) :: []) (by decide +kernel) h
  exact h2
theorem egk96_38 {n : Nat} {w : px_W} {r : Option Value × px_W} (h : ec_E hb_X n 176 0 [(0, .inr (.inl 160)), (1, .inr (.inl 102))] [] w r) : True ∧ r = (none, ec_cp w 96 38 (ec_tw 0) (ec_tw 0) (ec_tw (ec_mn 8 8))) ∧ ec_W hb_A (ec_cp w 96 38 (ec_tw 0) (ec_tw 0) (ec_tw (ec_mn 8 8))) := by
  have h2 := hb_ecw ((0, 1, 0, 0, 0) :: (0, 2, 0, 0, 0) :: (0, 1, 1, 0, 0) :: (0, 2, 0, 0, 0) :: (0, 1, 0, 0, 0) :: (5, 5, 96, 0, 8) :: (0, 1, 1, 0, 0) :: (5, 5, 38, 0, 8) :: (3, 6, 0, 0, 0) :: (5, 6, 96, 38, 0) :: (6, 4, 0, 0, 0) :: []) (by decide +kernel) h
  exact h2
theorem eg115_97_0_0 {n : Nat} {w : px_W} {r : Option Value × px_W} (h : ec_E hb_X n 115 0 [(0, .inr (.inl 161)), (1, .inr (.inl 103))] [] w r) : True ∧ ∃ (v : Option Value) (w1 : px_W), ec_E hb_X n 176 0 [(0, .inr (.inl 104)), (1, .inr (.inl 162))] [] w (v, w1) ∧ (v = none → ec_W hb_A w1 → ec_E hb_X n 115 11 [(0, .inr (.inl 161)), (1, .inr (.inl 103))] [] w1 r) := by
  have h2 := hb_ecw ((0, 1, 1, 0, 0) :: (5, 1, 39, 104, 0) :: (0, 1, 0, 0, 0) :: (5, 1, 97, 162, 0) :: (6, 2, 176, 2, 11) :: []) (by decide +kernel) h
  exact h2
theorem eg115_97_11_0 {n : Nat} {w : px_W} {r : Option Value × px_W} (h : ec_E hb_X n 115 11 [(0, .inr (.inl 161)), (1, .inr (.inl 103))] [] w r) : True ∧ ∃ (v : Option Value) (w1 : px_W), ec_E hb_X n 176 0 [(0, .inr (.inl 105)), (1, .inr (.inl 163))] [] (ec_pf w 97 1 (ec_fd w 39 1)) (v, w1) ∧ (v = none → ec_W hb_A w1 → ec_E hb_X n 115 30 [(0, .inr (.inl 161)), (1, .inr (.inl 103))] [] w1 r) := by
  have h2 := hb_ecw ((0, 1, 0, 0, 0) :: (0, 1, 1, 0, 0) :: (5, 0, 39, 1, 0) :: (5, 4, 97, 1, 0) :: (0, 1, 1, 0, 0) :: (5, 1, 39, 105, 0) :: (0, 1, 0, 0, 0) :: (5, 1, 97, 163, 0) :: (6, 2, 176, 2, 30) :: []) (by decide +kernel) h
  exact h2
theorem eg115_97_30_0 {n : Nat} {w : px_W} {r : Option Value × px_W} (h : ec_E hb_X n 115 30 [(0, .inr (.inl 161)), (1, .inr (.inl 103))] [] w r) : True ∧ ∃ (v : Option Value) (w1 : px_W), ec_E hb_X n 176 0 [(0, .inr (.inl 106)), (1, .inr (.inl 164))] [] w (v, w1) ∧ (v = none → ec_W hb_A w1 → ec_E hb_X n 115 41 [(0, .inr (.inl 161)), (1, .inr (.inl 103))] [] w1 r) := by
  have h2 := hb_ecw ((0, 1, 1, 0, 0) :: (5, 1, 39, 106, 0) :: (0, 1, 0, 0, 0) :: (5, 1, 97, 164, 0) :: (6, 2, 176, 2, 41) :: []) (by decide +kernel) h
  exact h2
theorem eg115_97_41_0 {n : Nat} {w : px_W} {r : Option Value × px_W} (h : ec_E hb_X n 115 41 [(0, .inr (.inl 161)), (1, .inr (.inl 103))] [] w r) : True ∧ ∃ (v : Option Value) (w1 : px_W), ec_E hb_X n 176 0 [(0, .inr (.inl 107)), (1, .inr (.inl 165))] [] w (v, w1) ∧ (v = none → ec_W hb_A w1 → ec_E hb_X n 115 52 [(0, .inr (.inl 161)), (1, .inr (.inl 103))] [] w1 r) := by
  have h2 := hb_ecw ((0, 1, 1, 0, 0) :: (5, 1, 39, 107, 0) :: (0, 1, 0, 0, 0) :: (5, 1, 97, 165, 0) :: (6, 2, 176, 2, 52) :: []) (by decide +kernel) h
  exact h2
theorem eg115_97_52_0 {n : Nat} {w : px_W} {r : Option Value × px_W} (h : ec_E hb_X n 115 52 [(0, .inr (.inl 161)), (1, .inr (.inl 103))] [] w r) : True ∧ r = (none, w) ∧ ec_W hb_A w := by
  have h2 := hb_ecw ((6, 4, 0, 0, 0) :: []) (by decide +kernel) h
  exact h2
theorem egk40_98 {n : Nat} {w : px_W} {r : Option Value × px_W} (h : ec_E hb_X n 176 0 [(0, .inr (.inl 104)), (1, .inr (.inl 162))] [] w r) : True ∧ r = (none, ec_cp w 40 98 (ec_tw 0) (ec_tw 0) (ec_tw (ec_mn 3 3))) ∧ ec_W hb_A (ec_cp w 40 98 (ec_tw 0) (ec_tw 0) (ec_tw (ec_mn 3 3))) := by
  have h2 := hb_ecw ((0, 1, 0, 0, 0) :: (0, 2, 0, 0, 0) :: (0, 1, 1, 0, 0) :: (0, 2, 0, 0, 0) :: (0, 1, 0, 0, 0) :: (5, 5, 40, 0, 3) :: (0, 1, 1, 0, 0) :: (5, 5, 98, 0, 3) :: (3, 6, 0, 0, 0) :: (5, 6, 40, 98, 0) :: (6, 4, 0, 0, 0) :: []) (by decide +kernel) h
  exact h2
theorem egk41_99 {n : Nat} {w : px_W} {r : Option Value × px_W} (h : ec_E hb_X n 176 0 [(0, .inr (.inl 105)), (1, .inr (.inl 163))] [] w r) : True ∧ r = (none, ec_cp w 41 99 (ec_tw 0) (ec_tw 0) (ec_tw (ec_mn 12 12))) ∧ ec_W hb_A (ec_cp w 41 99 (ec_tw 0) (ec_tw 0) (ec_tw (ec_mn 12 12))) := by
  have h2 := hb_ecw ((0, 1, 0, 0, 0) :: (0, 2, 0, 0, 0) :: (0, 1, 1, 0, 0) :: (0, 2, 0, 0, 0) :: (0, 1, 0, 0, 0) :: (5, 5, 41, 0, 12) :: (0, 1, 1, 0, 0) :: (5, 5, 99, 0, 12) :: (3, 6, 0, 0, 0) :: (5, 6, 41, 99, 0) :: (6, 4, 0, 0, 0) :: []) (by decide +kernel) h
  exact h2
theorem egk42_100 {n : Nat} {w : px_W} {r : Option Value × px_W} (h : ec_E hb_X n 176 0 [(0, .inr (.inl 106)), (1, .inr (.inl 164))] [] w r) : True ∧ r = (none, ec_cp w 42 100 (ec_tw 0) (ec_tw 0) (ec_tw (ec_mn 12 12))) ∧ ec_W hb_A (ec_cp w 42 100 (ec_tw 0) (ec_tw 0) (ec_tw (ec_mn 12 12))) := by
  have h2 := hb_ecw ((0, 1, 0, 0, 0) :: (0, 2, 0, 0, 0) :: (0, 1, 1, 0, 0) :: (0, 2, 0, 0, 0) :: (0, 1, 0, 0, 0) :: (5, 5, 42, 0, 12) :: (0, 1, 1, 0, 0) :: (5, 5, 100, 0, 12) :: (3, 6, 0, 0, 0) :: (5, 6, 42, 100, 0) :: (6, 4, 0, 0, 0) :: []) (by decide +kernel) h
  exact h2
theorem egk43_101 {n : Nat} {w : px_W} {r : Option Value × px_W} (h : ec_E hb_X n 176 0 [(0, .inr (.inl 107)), (1, .inr (.inl 165))] [] w r) : True ∧ r = (none, ec_cp w 43 101 (ec_tw 0) (ec_tw 0) (ec_tw (ec_mn 12 12))) ∧ ec_W hb_A (ec_cp w 43 101 (ec_tw 0) (ec_tw 0) (ec_tw (ec_mn 12 12))) := by
  have h2 := hb_ecw ((0, 1, 0, 0, 0) :: (0, 2, 0, 0, 0) :: (0, 1, 1, 0, 0) :: (0, 2, 0, 0, 0) :: (0, 1, 0, 0, 0) :: (5, 5, 43, 0, 12) :: (0, 1, 1, 0, 0) :: (5, 5, 101, 0, 12) :: (3, 6, 0, 0, 0) :: (5, 6, 43, 101, 0) :: (6, 4, 0, 0, 0) :: []) (by decide +kernel) h
  exact h2
theorem eg115_39_0_0 {n : Nat} {w : px_W} {r : Option Value × px_W} (h : ec_E hb_X n 115 0 [(0, .inr (.inl 103)), (1, .inr (.inl 161))] [] w r) : True ∧ ∃ (v : Option Value) (w1 : px_W), ec_E hb_X n 176 0 [(0, .inr (.inl 162)), (1, .inr (.inl 104))] [] w (v, w1) ∧ (v = none → ec_W hb_A w1 → ec_E hb_X n 115 11 [(0, .inr (.inl 103)), (1, .inr (.inl 161))] [] w1 r) := by
  have h2 := hb_ecw ((0, 1, 1, 0, 0) :: (5, 1, 97, 162, 0) :: (0, 1, 0, 0, 0) :: (5, 1, 39, 104, 0) :: (6, 2, 176, 2, 11) :: []) (by decide +kernel) h
  exact h2
theorem eg115_39_11_0 {n : Nat} {w : px_W} {r : Option Value × px_W} (h : ec_E hb_X n 115 11 [(0, .inr (.inl 103)), (1, .inr (.inl 161))] [] w r) : True ∧ ∃ (v : Option Value) (w1 : px_W), ec_E hb_X n 176 0 [(0, .inr (.inl 163)), (1, .inr (.inl 105))] [] (ec_pf w 39 1 (ec_fd w 97 1)) (v, w1) ∧ (v = none → ec_W hb_A w1 → ec_E hb_X n 115 30 [(0, .inr (.inl 103)), (1, .inr (.inl 161))] [] w1 r) := by
  have h2 := hb_ecw ((0, 1, 0, 0, 0) :: (0, 1, 1, 0, 0) :: (5, 0, 97, 1, 0) :: (5, 4, 39, 1, 0) :: (0, 1, 1, 0, 0) :: (5, 1, 97, 163, 0) :: (0, 1, 0, 0, 0) :: (5, 1, 39, 105, 0) :: (6, 2, 176, 2, 30) :: []) (by decide +kernel) h
  exact h2
theorem eg115_39_30_0 {n : Nat} {w : px_W} {r : Option Value × px_W} (h : ec_E hb_X n 115 30 [(0, .inr (.inl 103)), (1, .inr (.inl 161))] [] w r) : True ∧ ∃ (v : Option Value) (w1 : px_W), ec_E hb_X n 176 0 [(0, .inr (.inl 164)), (1, .inr (.inl 106))] [] w (v, w1) ∧ (v = none → ec_W hb_A w1 → ec_E hb_X n 115 41 [(0, .inr (.inl 103)), (1, .inr (.inl 161))] [] w1 r) := by
  have h2 := hb_ecw ((0, 1, 1, 0, 0) :: (5, 1, 97, 164, 0) :: (0, 1, 0, 0, 0) :: (5, 1, 39, 106, 0) :: (6, 2, 176, 2, 41) :: []) (by decide +kernel) h
  exact h2
theorem eg115_39_41_0 {n : Nat} {w : px_W} {r : Option Value × px_W} (h : ec_E hb_X n 115 41 [(0, .inr (.inl 103)), (1, .inr (.inl 161))] [] w r) : True ∧ ∃ (v : Option Value) (w1 : px_W), ec_E hb_X n 176 0 [(0, .inr (.inl 165)), (1, .inr (.inl 107))] [] w (v, w1) ∧ (v = none → ec_W hb_A w1 → ec_E hb_X n 115 52 [(0, .inr (.inl 103)), (1, .inr (.inl 161))] [] w1 r) := by
  have h2 := hb_ecw ((0, 1, 1, 0, 0) :: (5, 1, 97, 165, 0) :: (0, 1, 0, 0, 0) :: (5, 1, 39, 107, 0) :: (6, 2, 176, 2, 52) :: []) (by decide +kernel) h
  exact h2
theorem eg115_39_52_0 {n : Nat} {w : px_W} {r : Option Value × px_W} (h : ec_E hb_X n 115 52 [(0, .inr (.inl 103)), (1, .inr (.inl 161))] [] w r) : True ∧ r = (none, w) ∧ ec_W hb_A w := by
  have h2 := hb_ecw ((6, 4, 0, 0, 0) :: []) (by decide +kernel) h
  exact h2
theorem egk98_40 {n : Nat} {w : px_W} {r : Option Value × px_W} (h : ec_E hb_X n 176 0 [(0, .inr (.inl 162)), (1, .inr (.inl 104))] [] w r) : True ∧ r = (none, ec_cp w 98 40 (ec_tw 0) (ec_tw 0) (ec_tw (ec_mn 3 3))) ∧ ec_W hb_A (ec_cp w 98 40 (ec_tw 0) (ec_tw 0) (ec_tw (ec_mn 3 3))) := by
  have h2 := hb_ecw ((0, 1, 0, 0, 0) :: (0, 2, 0, 0, 0) :: (0, 1, 1, 0, 0) :: (0, 2, 0, 0, 0) :: (0, 1, 0, 0, 0) :: (5, 5, 98, 0, 3) :: (0, 1, 1, 0, 0) :: (5, 5, 40, 0, 3) :: (3, 6, 0, 0, 0) :: (5, 6, 98, 40, 0) :: (6, 4, 0, 0, 0) :: []) (by decide +kernel) h
  exact h2
theorem egk99_41 {n : Nat} {w : px_W} {r : Option Value × px_W} (h : ec_E hb_X n 176 0 [(0, .inr (.inl 163)), (1, .inr (.inl 105))] [] w r) : True ∧ r = (none, ec_cp w 99 41 (ec_tw 0) (ec_tw 0) (ec_tw (ec_mn 12 12))) ∧ ec_W hb_A (ec_cp w 99 41 (ec_tw 0) (ec_tw 0) (ec_tw (ec_mn 12 12))) := by
  have h2 := hb_ecw ((0, 1, 0, 0, 0) :: (0, 2, 0, 0, 0) :: (0, 1, 1, 0, 0) :: (0, 2, 0, 0, 0) :: (0, 1, 0, 0, 0) :: (5, 5, 99, 0, 12) :: (0, 1, 1, 0, 0) :: (5, 5, 41, 0, 12) :: (3, 6, 0, 0, 0) :: (5, 6, 99, 41, 0) :: (6, 4, 0, 0, 0) :: []) (by decide +kernel) h
  exact h2
theorem egk100_42 {n : Nat} {w : px_W} {r : Option Value × px_W} (h : ec_E hb_X n 176 0 [(0, .inr (.inl 164)), (1, .inr (.inl 106))] [] w r) : True ∧ r = (none, ec_cp w 100 42 (ec_tw 0) (ec_tw 0) (ec_tw (ec_mn 12 12))) ∧ ec_W hb_A (ec_cp w 100 42 (ec_tw 0) (ec_tw 0) (ec_tw (ec_mn 12 12))) := by
  have h2 := hb_ecw ((0, 1, 0, 0, 0) :: (0, 2, 0, 0, 0) :: (0, 1, 1, 0, 0) :: (0, 2, 0, 0, 0) :: (0, 1, 0, 0, 0) :: (5, 5, 100, 0, 12) :: (0, 1, 1, 0, 0) :: (5, 5, 42, 0, 12) :: (3, 6, 0, 0, 0) :: (5, 6, 100, 42, 0) :: (6, 4, 0, 0, 0) :: []) (by decide +kernel) h
  exact h2
theorem egk101_43 {n : Nat} {w : px_W} {r : Option Value × px_W} (h : ec_E hb_X n 176 0 [(0, .inr (.inl 165)), (1, .inr (.inl 107))] [] w r) : True ∧ r = (none, ec_cp w 101 43 (ec_tw 0) (ec_tw 0) (ec_tw (ec_mn 12 12))) ∧ ec_W hb_A (ec_cp w 101 43 (ec_tw 0) (ec_tw 0) (ec_tw (ec_mn 12 12))) := by
  have h2 := hb_ecw ((0, 1, 0, 0, 0) :: (0, 2, 0, 0, 0) :: (0, 1, 1, 0, 0) :: (0, 2, 0, 0, 0) :: (0, 1, 0, 0, 0) :: (5, 5, 101, 0, 12) :: (0, 1, 1, 0, 0) :: (5, 5, 43, 0, 12) :: (3, 6, 0, 0, 0) :: (5, 6, 101, 43, 0) :: (6, 4, 0, 0, 0) :: []) (by decide +kernel) h
  exact h2
theorem eg73_102_0_0 {n : Nat} {w : px_W} {r : Option Value × px_W} (h : ec_E hb_X n 73 0 [(0, .inr (.inl 166)), (1, .inr (.inl 108))] [] w r) : True ∧ ∃ (v : Option Value) (w1 : px_W), ec_E hb_X n 176 0 [(0, .inr (.inl 109)), (1, .inr (.inl 167))] [] (ec_pf w 102 0 (ec_fd w 44 0)) (v, w1) ∧ (v = none → ec_W hb_A w1 → ec_E hb_X n 73 19 [(0, .inr (.inl 166)), (1, .inr (.inl 108))] [] w1 r) := by
  have h2 := hb_ecw ((0, 1, 0, 0, 0) :: (0, 1, 1, 0, 0) :: (5, 0, 44, 0, 0) :: (5, 4, 102, 0, 0) :: (0, 1, 1, 0, 0) :: (5, 1, 44, 109, 0) :: (0, 1, 0, 0, 0) :: (5, 1, 102, 167, 0) :: (6, 2, 176, 2, 19) :: []) (by decide +kernel) h
  exact h2
theorem eg73_102_19_0 {n : Nat} {w : px_W} {r : Option Value × px_W} (h : ec_E hb_X n 73 19 [(0, .inr (.inl 166)), (1, .inr (.inl 108))] [] w r) : True ∧ ∃ (v : Option Value) (w1 : px_W), ec_E hb_X n 176 0 [(0, .inr (.inl 110)), (1, .inr (.inl 168))] [] w (v, w1) ∧ (v = none → ec_W hb_A w1 → ec_E hb_X n 73 30 [(0, .inr (.inl 166)), (1, .inr (.inl 108))] [] w1 r) := by
  have h2 := hb_ecw ((0, 1, 1, 0, 0) :: (5, 1, 44, 110, 0) :: (0, 1, 0, 0, 0) :: (5, 1, 102, 168, 0) :: (6, 2, 176, 2, 30) :: []) (by decide +kernel) h
  exact h2
theorem eg73_102_30_0 {n : Nat} {w : px_W} {r : Option Value × px_W} (h : ec_E hb_X n 73 30 [(0, .inr (.inl 166)), (1, .inr (.inl 108))] [] w r) : True ∧ ∃ (v : Option Value) (w1 : px_W), ec_E hb_X n 176 0 [(0, .inr (.inl 111)), (1, .inr (.inl 169))] [] w (v, w1) ∧ (v = none → ec_W hb_A w1 → ec_E hb_X n 73 41 [(0, .inr (.inl 166)), (1, .inr (.inl 108))] [] w1 r) := by
  have h2 := hb_ecw ((0, 1, 1, 0, 0) :: (5, 1, 44, 111, 0) :: (0, 1, 0, 0, 0) :: (5, 1, 102, 169, 0) :: (6, 2, 176, 2, 41) :: []) (by decide +kernel) h
  exact h2
theorem eg73_102_41_0 {n : Nat} {w : px_W} {r : Option Value × px_W} (h : ec_E hb_X n 73 41 [(0, .inr (.inl 166)), (1, .inr (.inl 108))] [] w r) : True ∧ ∃ (v : Option Value) (w1 : px_W), ec_E hb_X n 176 0 [(0, .inr (.inl 112)), (1, .inr (.inl 170))] [] w (v, w1) ∧ (v = none → ec_W hb_A w1 → ec_E hb_X n 73 52 [(0, .inr (.inl 166)), (1, .inr (.inl 108))] [] w1 r) := by
  have h2 := hb_ecw ((0, 1, 1, 0, 0) :: (5, 1, 44, 112, 0) :: (0, 1, 0, 0, 0) :: (5, 1, 102, 170, 0) :: (6, 2, 176, 2, 52) :: []) (by decide +kernel) h
  exact h2
theorem eg73_102_52_0 {n : Nat} {w : px_W} {r : Option Value × px_W} (h : ec_E hb_X n 73 52 [(0, .inr (.inl 166)), (1, .inr (.inl 108))] [] w r) : True ∧ ∃ (v : Option Value) (w1 : px_W), ec_E hb_X n 176 0 [(0, .inr (.inl 113)), (1, .inr (.inl 171))] [] w (v, w1) ∧ (v = none → ec_W hb_A w1 → ec_E hb_X n 73 63 [(0, .inr (.inl 166)), (1, .inr (.inl 108))] [] w1 r) := by
  have h2 := hb_ecw ((0, 1, 1, 0, 0) :: (5, 1, 44, 113, 0) :: (0, 1, 0, 0, 0) :: (5, 1, 102, 171, 0) :: (6, 2, 176, 2, 63) :: []) (by decide +kernel) h
  exact h2
theorem eg73_102_63_0 {n : Nat} {w : px_W} {r : Option Value × px_W} (h : ec_E hb_X n 73 63 [(0, .inr (.inl 166)), (1, .inr (.inl 108))] [] w r) : True ∧ ∃ (v : Option Value) (w1 : px_W), ec_E hb_X n 176 0 [(0, .inr (.inl 114)), (1, .inr (.inl 172))] [] w (v, w1) ∧ (v = none → ec_W hb_A w1 → ec_E hb_X n 73 74 [(0, .inr (.inl 166)), (1, .inr (.inl 108))] [] w1 r) := by
  have h2 := hb_ecw ((0, 1, 1, 0, 0) :: (5, 1, 44, 114, 0) :: (0, 1, 0, 0, 0) :: (5, 1, 102, 172, 0) :: (6, 2, 176, 2, 74) :: []) (by decide +kernel) h
  exact h2
theorem eg73_102_74_0 {n : Nat} {w : px_W} {r : Option Value × px_W} (h : ec_E hb_X n 73 74 [(0, .inr (.inl 166)), (1, .inr (.inl 108))] [] w r) : True ∧ ∃ (v : Option Value) (w1 : px_W), ec_E hb_X n 176 0 [(0, .inr (.inl 115)), (1, .inr (.inl 173))] [] w (v, w1) ∧ (v = none → ec_W hb_A w1 → ec_E hb_X n 73 85 [(0, .inr (.inl 166)), (1, .inr (.inl 108))] [] w1 r) := by
  have h2 := hb_ecw ((0, 1, 1, 0, 0) :: (5, 1, 44, 115, 0) :: (0, 1, 0, 0, 0) :: (5, 1, 102, 173, 0) :: (6, 2, 176, 2, 85) :: []) (by decide +kernel) h
  exact h2
theorem eg73_102_85_0 {n : Nat} {w : px_W} {r : Option Value × px_W} (h : ec_E hb_X n 73 85 [(0, .inr (.inl 166)), (1, .inr (.inl 108))] [] w r) : True ∧ r = (none, w) ∧ ec_W hb_A w := by
  have h2 := hb_ecw ((6, 4, 0, 0, 0) :: []) (by decide +kernel) h
  exact h2
theorem egk45_103 {n : Nat} {w : px_W} {r : Option Value × px_W} (h : ec_E hb_X n 176 0 [(0, .inr (.inl 109)), (1, .inr (.inl 167))] [] w r) : True ∧ r = (none, ec_cp w 45 103 (ec_tw 0) (ec_tw 0) (ec_tw (ec_mn 7 7))) ∧ ec_W hb_A (ec_cp w 45 103 (ec_tw 0) (ec_tw 0) (ec_tw (ec_mn 7 7))) := by
  have h2 := hb_ecw ((0, 1, 0, 0, 0) :: (0, 2, 0, 0, 0) :: (0, 1, 1, 0, 0) :: (0, 2, 0, 0, 0) :: (0, 1, 0, 0, 0) :: (5, 5, 45, 0, 7) :: (0, 1, 1, 0, 0) :: (5, 5, 103, 0, 7) :: (3, 6, 0, 0, 0) :: (5, 6, 45, 103, 0) :: (6, 4, 0, 0, 0) :: []) (by decide +kernel) h
  exact h2
theorem egk46_104 {n : Nat} {w : px_W} {r : Option Value × px_W} (h : ec_E hb_X n 176 0 [(0, .inr (.inl 110)), (1, .inr (.inl 168))] [] w r) : True ∧ r = (none, ec_cp w 46 104 (ec_tw 0) (ec_tw 0) (ec_tw (ec_mn 7 7))) ∧ ec_W hb_A (ec_cp w 46 104 (ec_tw 0) (ec_tw 0) (ec_tw (ec_mn 7 7))) := by
  have h2 := hb_ecw ((0, 1, 0, 0, 0) :: (0, 2, 0, 0, 0) :: (0, 1, 1, 0, 0) :: (0, 2, 0, 0, 0) :: (0, 1, 0, 0, 0) :: (5, 5, 46, 0, 7) :: (0, 1, 1, 0, 0) :: (5, 5, 104, 0, 7) :: (3, 6, 0, 0, 0) :: (5, 6, 46, 104, 0) :: (6, 4, 0, 0, 0) :: []) (by decide +kernel) h
  exact h2
theorem egk47_105 {n : Nat} {w : px_W} {r : Option Value × px_W} (h : ec_E hb_X n 176 0 [(0, .inr (.inl 111)), (1, .inr (.inl 169))] [] w r) : True ∧ r = (none, ec_cp w 47 105 (ec_tw 0) (ec_tw 0) (ec_tw (ec_mn 56 56))) ∧ ec_W hb_A (ec_cp w 47 105 (ec_tw 0) (ec_tw 0) (ec_tw (ec_mn 56 56))) := by
  have h2 := hb_ecw ((0, 1, 0, 0, 0) :: (0, 2, 0, 0, 0) :: (0, 1, 1, 0, 0) :: (0, 2, 0, 0, 0) :: (0, 1, 0, 0, 0) :: (5, 5, 47, 0, 56) :: (0, 1, 1, 0, 0) :: (5, 5, 105, 0, 56) :: (3, 6, 0, 0, 0) :: (5, 6, 47, 105, 0) :: (6, 4, 0, 0, 0) :: []) (by decide +kernel) h
  exact h2
theorem egk48_106 {n : Nat} {w : px_W} {r : Option Value × px_W} (h : ec_E hb_X n 176 0 [(0, .inr (.inl 112)), (1, .inr (.inl 170))] [] w r) : True ∧ r = (none, ec_cp w 48 106 (ec_tw 0) (ec_tw 0) (ec_tw (ec_mn 56 56))) ∧ ec_W hb_A (ec_cp w 48 106 (ec_tw 0) (ec_tw 0) (ec_tw (ec_mn 56 56))) := by
  have h2 := hb_ecw ((0, 1, 0, 0, 0) :: (0, 2, 0, 0, 0) :: (0, 1, 1, 0, 0) :: (0, 2, 0, 0, 0) :: (0, 1, 0, 0, 0) :: (5, 5, 48, 0, 56) :: (0, 1, 1, 0, 0) :: (5, 5, 106, 0, 56) :: (3, 6, 0, 0, 0) :: (5, 6, 48, 106, 0) :: (6, 4, 0, 0, 0) :: []) (by decide +kernel) h
  exact h2
theorem egk49_107 {n : Nat} {w : px_W} {r : Option Value × px_W} (h : ec_E hb_X n 176 0 [(0, .inr (.inl 113)), (1, .inr (.inl 171))] [] w r) : True ∧ r = (none, ec_cp w 49 107 (ec_tw 0) (ec_tw 0) (ec_tw (ec_mn 56 56))) ∧ ec_W hb_A (ec_cp w 49 107 (ec_tw 0) (ec_tw 0) (ec_tw (ec_mn 56 56))) := by
  have h2 := hb_ecw ((0, 1, 0, 0, 0) :: (0, 2, 0, 0, 0) :: (0, 1, 1, 0, 0) :: (0, 2, 0, 0, 0) :: (0, 1, 0, 0, 0) :: (5, 5, 49, 0, 56) :: (0, 1, 1, 0, 0) :: (5, 5, 107, 0, 56) :: (3, 6, 0, 0, 0) :: (5, 6, 49, 107, 0) :: (6, 4, 0, 0, 0) :: []) (by decide +kernel) h
  exact h2
theorem egk50_108 {n : Nat} {w : px_W} {r : Option Value × px_W} (h : ec_E hb_X n 176 0 [(0, .inr (.inl 114)), (1, .inr (.inl 172))] [] w r) : True ∧ r = (none, ec_cp w 50 108 (ec_tw 0) (ec_tw 0) (ec_tw (ec_mn 448 448))) ∧ ec_W hb_A (ec_cp w 50 108 (ec_tw 0) (ec_tw 0) (ec_tw (ec_mn 448 448))) := by
  have h2 := hb_ecw ((0, 1, 0, 0, 0) :: (0, 2, 0, 0, 0) :: (0, 1, 1, 0, 0) :: (0, 2, 0, 0, 0) :: (0, 1, 0, 0, 0) :: (5, 5, 50, 0, 448) :: (0, 1, 1, 0, 0) :: (5, 5, 108, 0, 448) :: (3, 6, 0, 0, 0) :: (5, 6, 50, 108, 0) :: (6, 4, 0, 0, 0) :: []) (by decide +kernel) h
  exact h2
theorem egk51_109 {n : Nat} {w : px_W} {r : Option Value × px_W} (h : ec_E hb_X n 176 0 [(0, .inr (.inl 115)), (1, .inr (.inl 173))] [] w r) : True ∧ r = (none, ec_cp w 51 109 (ec_tw 0) (ec_tw 0) (ec_tw (ec_mn 7 7))) ∧ ec_W hb_A (ec_cp w 51 109 (ec_tw 0) (ec_tw 0) (ec_tw (ec_mn 7 7))) := by
  have h2 := hb_ecw ((0, 1, 0, 0, 0) :: (0, 2, 0, 0, 0) :: (0, 1, 1, 0, 0) :: (0, 2, 0, 0, 0) :: (0, 1, 0, 0, 0) :: (5, 5, 51, 0, 7) :: (0, 1, 1, 0, 0) :: (5, 5, 109, 0, 7) :: (3, 6, 0, 0, 0) :: (5, 6, 51, 109, 0) :: (6, 4, 0, 0, 0) :: []) (by decide +kernel) h
  exact h2
theorem eg73_44_0_0 {n : Nat} {w : px_W} {r : Option Value × px_W} (h : ec_E hb_X n 73 0 [(0, .inr (.inl 108)), (1, .inr (.inl 166))] [] w r) : True ∧ ∃ (v : Option Value) (w1 : px_W), ec_E hb_X n 176 0 [(0, .inr (.inl 167)), (1, .inr (.inl 109))] [] (ec_pf w 44 0 (ec_fd w 102 0)) (v, w1) ∧ (v = none → ec_W hb_A w1 → ec_E hb_X n 73 19 [(0, .inr (.inl 108)), (1, .inr (.inl 166))] [] w1 r) := by
  have h2 := hb_ecw ((0, 1, 0, 0, 0) :: (0, 1, 1, 0, 0) :: (5, 0, 102, 0, 0) :: (5, 4, 44, 0, 0) :: (0, 1, 1, 0, 0) :: (5, 1, 102, 167, 0) :: (0, 1, 0, 0, 0) :: (5, 1, 44, 109, 0) :: (6, 2, 176, 2, 19) :: []) (by decide +kernel) h
  exact h2
theorem eg73_44_19_0 {n : Nat} {w : px_W} {r : Option Value × px_W} (h : ec_E hb_X n 73 19 [(0, .inr (.inl 108)), (1, .inr (.inl 166))] [] w r) : True ∧ ∃ (v : Option Value) (w1 : px_W), ec_E hb_X n 176 0 [(0, .inr (.inl 168)), (1, .inr (.inl 110))] [] w (v, w1) ∧ (v = none → ec_W hb_A w1 → ec_E hb_X n 73 30 [(0, .inr (.inl 108)), (1, .inr (.inl 166))] [] w1 r) := by
  have h2 := hb_ecw ((0, 1, 1, 0, 0) :: (5, 1, 102, 168, 0) :: (0, 1, 0, 0, 0) :: (5, 1, 44, 110, 0) :: (6, 2, 176, 2, 30) :: []) (by decide +kernel) h
  exact h2
theorem eg73_44_30_0 {n : Nat} {w : px_W} {r : Option Value × px_W} (h : ec_E hb_X n 73 30 [(0, .inr (.inl 108)), (1, .inr (.inl 166))] [] w r) : True ∧ ∃ (v : Option Value) (w1 : px_W), ec_E hb_X n 176 0 [(0, .inr (.inl 169)), (1, .inr (.inl 111))] [] w (v, w1) ∧ (v = none → ec_W hb_A w1 → ec_E hb_X n 73 41 [(0, .inr (.inl 108)), (1, .inr (.inl 166))] [] w1 r) := by
  have h2 := hb_ecw ((0, 1, 1, 0, 0) :: (5, 1, 102, 169, 0) :: (0, 1, 0, 0, 0) :: (5, 1, 44, 111, 0) :: (6, 2, 176, 2, 41) :: []) (by decide +kernel) h
  exact h2
theorem eg73_44_41_0 {n : Nat} {w : px_W} {r : Option Value × px_W} (h : ec_E hb_X n 73 41 [(0, .inr (.inl 108)), (1, .inr (.inl 166))] [] w r) : True ∧ ∃ (v : Option Value) (w1 : px_W), ec_E hb_X n 176 0 [(0, .inr (.inl 170)), (1, .inr (.inl 112))] [] w (v, w1) ∧ (v = none → ec_W hb_A w1 → ec_E hb_X n 73 52 [(0, .inr (.inl 108)), (1, .inr (.inl 166))] [] w1 r) := by
  have h2 := hb_ecw ((0, 1, 1, 0, 0) :: (5, 1, 102, 170, 0) :: (0, 1, 0, 0, 0) :: (5, 1, 44, 112, 0) :: (6, 2, 176, 2, 52) :: []) (by decide +kernel) h
  exact h2
theorem eg73_44_52_0 {n : Nat} {w : px_W} {r : Option Value × px_W} (h : ec_E hb_X n 73 52 [(0, .inr (.inl 108)), (1, .inr (.inl 166))] [] w r) : True ∧ ∃ (v : Option Value) (w1 : px_W), ec_E hb_X n 176 0 [(0, .inr (.inl 171)), (1, .inr (.inl 113))] [] w (v, w1) ∧ (v = none → ec_W hb_A w1 → ec_E hb_X n 73 63 [(0, .inr (.inl 108)), (1, .inr (.inl 166))] [] w1 r) := by
  have h2 := hb_ecw ((0, 1, 1, 0, 0) :: (5, 1, 102, 171, 0) :: (0, 1, 0, 0, 0) :: (5, 1, 44, 113, 0) :: (6, 2, 176, 2, 63) :: []) (by decide +kernel) h
  exact h2
theorem eg73_44_63_0 {n : Nat} {w : px_W} {r : Option Value × px_W} (h : ec_E hb_X n 73 63 [(0, .inr (.inl 108)), (1, .inr (.inl 166))] [] w r) : True ∧ ∃ (v : Option Value) (w1 : px_W), ec_E hb_X n 176 0 [(0, .inr (.inl 172)), (1, .inr (.inl 114))] [] w (v, w1) ∧ (v = none → ec_W hb_A w1 → ec_E hb_X n 73 74 [(0, .inr (.inl 108)), (1, .inr (.inl 166))] [] w1 r) := by
  have h2 := hb_ecw ((0, 1, 1, 0, 0) :: (5, 1, 102, 172, 0) :: (0, 1, 0, 0, 0) :: (5, 1, 44, 114, 0) :: (6, 2, 176, 2, 74) :: []) (by decide +kernel) h
  exact h2
theorem eg73_44_74_0 {n : Nat} {w : px_W} {r : Option Value × px_W} (h : ec_E hb_X n 73 74 [(0, .inr (.inl 108)), (1, .inr (.inl 166))] [] w r) : True ∧ ∃ (v : Option Value) (w1 : px_W), ec_E hb_X n 176 0 [(0, .inr (.inl 173)), (1, .inr (.inl 115))] [] w (v, w1) ∧ (v = none → ec_W hb_A w1 → ec_E hb_X n 73 85 [(0, .inr (.inl 108)), (1, .inr (.inl 166))] [] w1 r) := by
  have h2 := hb_ecw ((0, 1, 1, 0, 0) :: (5, 1, 102, 173, 0) :: (0, 1, 0, 0, 0) :: (5, 1, 44, 115, 0) :: (6, 2, 176, 2, 85) :: []) (by decide +kernel) h
  exact h2
theorem eg73_44_85_0 {n : Nat} {w : px_W} {r : Option Value × px_W} (h : ec_E hb_X n 73 85 [(0, .inr (.inl 108)), (1, .inr (.inl 166))] [] w r) : True ∧ r = (none, w) ∧ ec_W hb_A w := by
  have h2 := hb_ecw ((6, 4, 0, 0, 0) :: []) (by decide +kernel) h
  exact h2
theorem egk103_45 {n : Nat} {w : px_W} {r : Option Value × px_W} (h : ec_E hb_X n 176 0 [(0, .inr (.inl 167)), (1, .inr (.inl 109))] [] w r) : True ∧ r = (none, ec_cp w 103 45 (ec_tw 0) (ec_tw 0) (ec_tw (ec_mn 7 7))) ∧ ec_W hb_A (ec_cp w 103 45 (ec_tw 0) (ec_tw 0) (ec_tw (ec_mn 7 7))) := by
  have h2 := hb_ecw ((0, 1, 0, 0, 0) :: (0, 2, 0, 0, 0) :: (0, 1, 1, 0, 0) :: (0, 2, 0, 0, 0) :: (0, 1, 0, 0, 0) :: (5, 5, 103, 0, 7) :: (0, 1, 1, 0, 0) :: (5, 5, 45, 0, 7) :: (3, 6, 0, 0, 0) :: (5, 6, 103, 45, 0) :: (6, 4, 0, 0, 0) :: []) (by decide +kernel) h
  exact h2
theorem egk104_46 {n : Nat} {w : px_W} {r : Option Value × px_W} (h : ec_E hb_X n 176 0 [(0, .inr (.inl 168)), (1, .inr (.inl 110))] [] w r) : True ∧ r = (none, ec_cp w 104 46 (ec_tw 0) (ec_tw 0) (ec_tw (ec_mn 7 7))) ∧ ec_W hb_A (ec_cp w 104 46 (ec_tw 0) (ec_tw 0) (ec_tw (ec_mn 7 7))) := by
  have h2 := hb_ecw ((0, 1, 0, 0, 0) :: (0, 2, 0, 0, 0) :: (0, 1, 1, 0, 0) :: (0, 2, 0, 0, 0) :: (0, 1, 0, 0, 0) :: (5, 5, 104, 0, 7) :: (0, 1, 1, 0, 0) :: (5, 5, 46, 0, 7) :: (3, 6, 0, 0, 0) :: (5, 6, 104, 46, 0) :: (6, 4, 0, 0, 0) :: []) (by decide +kernel) h
  exact h2
theorem egk105_47 {n : Nat} {w : px_W} {r : Option Value × px_W} (h : ec_E hb_X n 176 0 [(0, .inr (.inl 169)), (1, .inr (.inl 111))] [] w r) : True ∧ r = (none, ec_cp w 105 47 (ec_tw 0) (ec_tw 0) (ec_tw (ec_mn 56 56))) ∧ ec_W hb_A (ec_cp w 105 47 (ec_tw 0) (ec_tw 0) (ec_tw (ec_mn 56 56))) := by
  have h2 := hb_ecw ((0, 1, 0, 0, 0) :: (0, 2, 0, 0, 0) :: (0, 1, 1, 0, 0) :: (0, 2, 0, 0, 0) :: (0, 1, 0, 0, 0) :: (5, 5, 105, 0, 56) :: (0, 1, 1, 0, 0) :: (5, 5, 47, 0, 56) :: (3, 6, 0, 0, 0) :: (5, 6, 105, 47, 0) :: (6, 4, 0, 0, 0) :: []) (by decide +kernel) h
  exact h2
theorem egk106_48 {n : Nat} {w : px_W} {r : Option Value × px_W} (h : ec_E hb_X n 176 0 [(0, .inr (.inl 170)), (1, .inr (.inl 112))] [] w r) : True ∧ r = (none, ec_cp w 106 48 (ec_tw 0) (ec_tw 0) (ec_tw (ec_mn 56 56))) ∧ ec_W hb_A (ec_cp w 106 48 (ec_tw 0) (ec_tw 0) (ec_tw (ec_mn 56 56))) := by
  have h2 := hb_ecw ((0, 1, 0, 0, 0) :: (0, 2, 0, 0, 0) :: (0, 1, 1, 0, 0) :: (0, 2, 0, 0, 0) :: (0, 1, 0, 0, 0) :: (5, 5, 106, 0, 56) :: (0, 1, 1, 0, 0) :: (5, 5, 48, 0, 56) :: (3, 6, 0, 0, 0) :: (5, 6, 106, 48, 0) :: (6, 4, 0, 0, 0) :: []) (by decide +kernel) h
  exact h2
theorem egk107_49 {n : Nat} {w : px_W} {r : Option Value × px_W} (h : ec_E hb_X n 176 0 [(0, .inr (.inl 171)), (1, .inr (.inl 113))] [] w r) : True ∧ r = (none, ec_cp w 107 49 (ec_tw 0) (ec_tw 0) (ec_tw (ec_mn 56 56))) ∧ ec_W hb_A (ec_cp w 107 49 (ec_tw 0) (ec_tw 0) (ec_tw (ec_mn 56 56))) := by
  have h2 := hb_ecw ((0, 1, 0, 0, 0) :: (0, 2, 0, 0, 0) :: (0, 1, 1, 0, 0) :: (0, 2, 0, 0, 0) :: (0, 1, 0, 0, 0) :: (5, 5, 107, 0, 56) :: (0, 1, 1, 0, 0) :: (5, 5, 49, 0, 56) :: (3, 6, 0, 0, 0) :: (5, 6, 107, 49, 0) :: (6, 4, 0, 0, 0) :: []) (by decide +kernel) h
  exact h2
theorem egk108_50 {n : Nat} {w : px_W} {r : Option Value × px_W} (h : ec_E hb_X n 176 0 [(0, .inr (.inl 172)), (1, .inr (.inl 114))] [] w r) : True ∧ r = (none, ec_cp w 108 50 (ec_tw 0) (ec_tw 0) (ec_tw (ec_mn 448 448))) ∧ ec_W hb_A (ec_cp w 108 50 (ec_tw 0) (ec_tw 0) (ec_tw (ec_mn 448 448))) := by
  have h2 := hb_ecw ((0, 1, 0, 0, 0) :: (0, 2, 0, 0, 0) :: (0, 1, 1, 0, 0) :: (0, 2, 0, 0, 0) :: (0, 1, 0, 0, 0) :: (5, 5, 108, 0, 448) :: (0, 1, 1, 0, 0) :: (5, 5, 50, 0, 448) :: (3, 6, 0, 0, 0) :: (5, 6, 108, 50, 0) :: (6, 4, 0, 0, 0) :: []) (by decide +kernel) h
  exact h2
theorem egk109_51 {n : Nat} {w : px_W} {r : Option Value × px_W} (h : ec_E hb_X n 176 0 [(0, .inr (.inl 173)), (1, .inr (.inl 115))] [] w r) : True ∧ r = (none, ec_cp w 109 51 (ec_tw 0) (ec_tw 0) (ec_tw (ec_mn 7 7))) ∧ ec_W hb_A (ec_cp w 109 51 (ec_tw 0) (ec_tw 0) (ec_tw (ec_mn 7 7))) := by
  have h2 := hb_ecw ((0, 1, 0, 0, 0) :: (0, 2, 0, 0, 0) :: (0, 1, 1, 0, 0) :: (0, 2, 0, 0, 0) :: (0, 1, 0, 0, 0) :: (5, 5, 109, 0, 7) :: (0, 1, 1, 0, 0) :: (5, 5, 51, 0, 7) :: (3, 6, 0, 0, 0) :: (5, 6, 109, 51, 0) :: (6, 4, 0, 0, 0) :: []) (by decide +kernel) h
  exact h2
theorem eg45_110_0_0 {n : Nat} {w : px_W} {r : Option Value × px_W} (h : ec_E hb_X n 45 0 [(0, .inr (.inl 174)), (1, .inr (.inl 116))] [] w r) : True ∧ ∃ (v : Option Value) (w1 : px_W), ec_E hb_X n 176 0 [(0, .inr (.inl 118)), (1, .inr (.inl 176))] [] (ec_pf w 110 0 (ec_fd w 52 0)) (v, w1) ∧ (v = none → ec_W hb_A w1 → ec_E hb_X n 45 19 [(0, .inr (.inl 174)), (1, .inr (.inl 116))] [] w1 r) := by
  have h2 := hb_ecw ((0, 1, 0, 0, 0) :: (0, 1, 1, 0, 0) :: (5, 0, 52, 0, 0) :: (5, 4, 110, 0, 0) :: (0, 1, 1, 0, 0) :: (5, 1, 52, 118, 0) :: (0, 1, 0, 0, 0) :: (5, 1, 110, 176, 0) :: (6, 2, 176, 2, 19) :: []) (by decide +kernel) h
  exact h2
theorem eg45_110_19_0 {n : Nat} {w : px_W} {r : Option Value × px_W} (h : ec_E hb_X n 45 19 [(0, .inr (.inl 174)), (1, .inr (.inl 116))] [] w r) : True ∧ ∃ (v : Option Value) (w1 : px_W), ec_E hb_X n 176 0 [(0, .inr (.inl 119)), (1, .inr (.inl 177))] [] w (v, w1) ∧ (v = none → ec_W hb_A w1 → ec_E hb_X n 45 30 [(0, .inr (.inl 174)), (1, .inr (.inl 116))] [] w1 r) := by
  have h2 := hb_ecw ((0, 1, 1, 0, 0) :: (5, 1, 52, 119, 0) :: (0, 1, 0, 0, 0) :: (5, 1, 110, 177, 0) :: (6, 2, 176, 2, 30) :: []) (by decide +kernel) h
  exact h2
theorem eg45_110_30_0 {n : Nat} {w : px_W} {r : Option Value × px_W} (h : ec_E hb_X n 45 30 [(0, .inr (.inl 174)), (1, .inr (.inl 116))] [] w r) : True ∧ r = (none, w) ∧ ec_W hb_A w := by
  have h2 := hb_ecw ((6, 4, 0, 0, 0) :: []) (by decide +kernel) h
  exact h2
theorem egk54_112 {n : Nat} {w : px_W} {r : Option Value × px_W} (h : ec_E hb_X n 176 0 [(0, .inr (.inl 118)), (1, .inr (.inl 176))] [] w r) : True ∧ r = (none, ec_cp w 54 112 (ec_tw 0) (ec_tw 0) (ec_tw (ec_mn 7 7))) ∧ ec_W hb_A (ec_cp w 54 112 (ec_tw 0) (ec_tw 0) (ec_tw (ec_mn 7 7))) := by
  have h2 := hb_ecw ((0, 1, 0, 0, 0) :: (0, 2, 0, 0, 0) :: (0, 1, 1, 0, 0) :: (0, 2, 0, 0, 0) :: (0, 1, 0, 0, 0) :: (5, 5, 54, 0, 7) :: (0, 1, 1, 0, 0) :: (5, 5, 112, 0, 7) :: (3, 6, 0, 0, 0) :: (5, 6, 54, 112, 0) :: (6, 4, 0, 0, 0) :: []) (by decide +kernel) h
  exact h2
theorem egk55_113 {n : Nat} {w : px_W} {r : Option Value × px_W} (h : ec_E hb_X n 176 0 [(0, .inr (.inl 119)), (1, .inr (.inl 177))] [] w r) : True ∧ r = (none, ec_cp w 55 113 (ec_tw 0) (ec_tw 0) (ec_tw (ec_mn 7 7))) ∧ ec_W hb_A (ec_cp w 55 113 (ec_tw 0) (ec_tw 0) (ec_tw (ec_mn 7 7))) := by
  have h2 := hb_ecw ((0, 1, 0, 0, 0) :: (0, 2, 0, 0, 0) :: (0, 1, 1, 0, 0) :: (0, 2, 0, 0, 0) :: (0, 1, 0, 0, 0) :: (5, 5, 55, 0, 7) :: (0, 1, 1, 0, 0) :: (5, 5, 113, 0, 7) :: (3, 6, 0, 0, 0) :: (5, 6, 55, 113, 0) :: (6, 4, 0, 0, 0) :: []) (by decide +kernel) h
  exact h2
theorem eg45_52_0_0 {n : Nat} {w : px_W} {r : Option Value × px_W} (h : ec_E hb_X n 45 0 [(0, .inr (.inl 116)), (1, .inr (.inl 174))] [] w r) : True ∧ ∃ (v : Option Value) (w1 : px_W), ec_E hb_X n 176 0 [(0, .inr (.inl 176)), (1, .inr (.inl 118))] [] (ec_pf w 52 0 (ec_fd w 110 0)) (v, w1) ∧ (v = none → ec_W hb_A w1 → ec_E hb_X n 45 19 [(0, .inr (.inl 116)), (1, .inr (.inl 174))] [] w1 r) := by
  have h2 := hb_ecw ((0, 1, 0, 0, 0) :: (0, 1, 1, 0, 0) :: (5, 0, 110, 0, 0) :: (5, 4, 52, 0, 0) :: (0, 1, 1, 0, 0) :: (5, 1, 110, 176, 0) :: (0, 1, 0, 0, 0) :: (5, 1, 52, 118, 0) :: (6, 2, 176, 2, 19) :: []) (by decide +kernel) h
  exact h2
theorem eg45_52_19_0 {n : Nat} {w : px_W} {r : Option Value × px_W} (h : ec_E hb_X n 45 19 [(0, .inr (.inl 116)), (1, .inr (.inl 174))] [] w r) : True ∧ ∃ (v : Option Value) (w1 : px_W), ec_E hb_X n 176 0 [(0, .inr (.inl 177)), (1, .inr (.inl 119))] [] w (v, w1) ∧ (v = none → ec_W hb_A w1 → ec_E hb_X n 45 30 [(0, .inr (.inl 116)), (1, .inr (.inl 174))] [] w1 r) := by
  have h2 := hb_ecw ((0, 1, 1, 0, 0) :: (5, 1, 110, 177, 0) :: (0, 1, 0, 0, 0) :: (5, 1, 52, 119, 0) :: (6, 2, 176, 2, 30) :: []) (by decide +kernel) h
  exact h2
theorem eg45_52_30_0 {n : Nat} {w : px_W} {r : Option Value × px_W} (h : ec_E hb_X n 45 30 [(0, .inr (.inl 116)), (1, .inr (.inl 174))] [] w r) : True ∧ r = (none, w) ∧ ec_W hb_A w := by
  have h2 := hb_ecw ((6, 4, 0, 0, 0) :: []) (by decide +kernel) h
  exact h2
theorem egk112_54 {n : Nat} {w : px_W} {r : Option Value × px_W} (h : ec_E hb_X n 176 0 [(0, .inr (.inl 176)), (1, .inr (.inl 118))] [] w r) : True ∧ r = (none, ec_cp w 112 54 (ec_tw 0) (ec_tw 0) (ec_tw (ec_mn 7 7))) ∧ ec_W hb_A (ec_cp w 112 54 (ec_tw 0) (ec_tw 0) (ec_tw (ec_mn 7 7))) := by
  have h2 := hb_ecw ((0, 1, 0, 0, 0) :: (0, 2, 0, 0, 0) :: (0, 1, 1, 0, 0) :: (0, 2, 0, 0, 0) :: (0, 1, 0, 0, 0) :: (5, 5, 112, 0, 7) :: (0, 1, 1, 0, 0) :: (5, 5, 54, 0, 7) :: (3, 6, 0, 0, 0) :: (5, 6, 112, 54, 0) :: (6, 4, 0, 0, 0) :: []) (by decide +kernel) h
  exact h2
theorem egk113_55 {n : Nat} {w : px_W} {r : Option Value × px_W} (h : ec_E hb_X n 176 0 [(0, .inr (.inl 177)), (1, .inr (.inl 119))] [] w r) : True ∧ r = (none, ec_cp w 113 55 (ec_tw 0) (ec_tw 0) (ec_tw (ec_mn 7 7))) ∧ ec_W hb_A (ec_cp w 113 55 (ec_tw 0) (ec_tw 0) (ec_tw (ec_mn 7 7))) := by
  have h2 := hb_ecw ((0, 1, 0, 0, 0) :: (0, 2, 0, 0, 0) :: (0, 1, 1, 0, 0) :: (0, 2, 0, 0, 0) :: (0, 1, 0, 0, 0) :: (5, 5, 113, 0, 7) :: (0, 1, 1, 0, 0) :: (5, 5, 55, 0, 7) :: (3, 6, 0, 0, 0) :: (5, 6, 113, 55, 0) :: (6, 4, 0, 0, 0) :: []) (by decide +kernel) h
  exact h2
theorem eg171_0_0_0 {n : Nat} {w : px_W} {r : Option Value × px_W} (h : ec_E hb_X n 171 0 [(0, .inr (.inl 64))] [] w r) : True ∧ ∃ (v : Option Value) (w1 : px_W), ec_E hb_X n 32 0 [(0, .inr (.inl 123)), (1, .inr (.inl 65))] [] w (v, w1) ∧ (v = none → ec_W hb_A w1 → ec_E hb_X n 171 11 [(0, .inr (.inl 64))] [] w1 r) := by
  have h2 := hb_ecw ((0, 1, 0, 0, 0) :: (5, 1, 0, 123, 0) :: (0, 1, 0, 0, 0) :: (5, 1, 0, 65, 0) :: (6, 2, 32, 2, 11) :: []) (by decide +kernel) h
  exact h2
theorem eg171_0_11_0 {n : Nat} {w : px_W} {r : Option Value × px_W} (h : ec_E hb_X n 171 11 [(0, .inr (.inl 64))] [] w r) : True ∧ ∃ (v : Option Value) (w1 : px_W), ec_E hb_X n 109 0 [(0, .inr (.inl 132)), (1, .inr (.inl 74))] [] w (v, w1) ∧ (v = none → ec_W hb_A w1 → ec_E hb_X n 171 22 [(0, .inr (.inl 64))] [] w1 r) := by
  have h2 := hb_ecw ((0, 1, 0, 0, 0) :: (5, 1, 0, 132, 0) :: (0, 1, 0, 0, 0) :: (5, 1, 0, 74, 0) :: (6, 2, 109, 2, 22) :: []) (by decide +kernel) h
  exact h2
theorem eg171_0_22_0 {n : Nat} {w : px_W} {r : Option Value × px_W} (h : ec_E hb_X n 171 22 [(0, .inr (.inl 64))] [] w r) : True ∧ ∃ (v : Option Value) (w1 : px_W), ec_E hb_X n 14 0 [(0, .inr (.inl 137)), (1, .inr (.inl 79))] [] w (v, w1) ∧ (v = none → ec_W hb_A w1 → ec_E hb_X n 171 33 [(0, .inr (.inl 64))] [] w1 r) := by
  have h2 := hb_ecw ((0, 1, 0, 0, 0) :: (5, 1, 0, 137, 0) :: (0, 1, 0, 0, 0) :: (5, 1, 0, 79, 0) :: (6, 2, 14, 2, 33) :: []) (by decide +kernel) h
  exact h2
theorem eg171_0_33_0 {n : Nat} {w : px_W} {r : Option Value × px_W} (h : ec_E hb_X n 171 33 [(0, .inr (.inl 64))] [] w r) : True ∧ ∃ (v : Option Value) (w1 : px_W), ec_E hb_X n 87 0 [(0, .inr (.inl 151)), (1, .inr (.inl 93))] [] w (v, w1) ∧ (v = none → ec_W hb_A w1 → ec_E hb_X n 171 44 [(0, .inr (.inl 64))] [] w1 r) := by
  have h2 := hb_ecw ((0, 1, 0, 0, 0) :: (5, 1, 0, 151, 0) :: (0, 1, 0, 0, 0) :: (5, 1, 0, 93, 0) :: (6, 2, 87, 2, 44) :: []) (by decide +kernel) h
  exact h2
theorem eg171_0_44_0 {n : Nat} {w : px_W} {r : Option Value × px_W} (h : ec_E hb_X n 171 44 [(0, .inr (.inl 64))] [] w r) : True ∧ ∃ (v : Option Value) (w1 : px_W), ec_E hb_X n 115 0 [(0, .inr (.inl 161)), (1, .inr (.inl 103))] [] w (v, w1) ∧ (v = none → ec_W hb_A w1 → ec_E hb_X n 171 55 [(0, .inr (.inl 64))] [] w1 r) := by
  have h2 := hb_ecw ((0, 1, 0, 0, 0) :: (5, 1, 0, 161, 0) :: (0, 1, 0, 0, 0) :: (5, 1, 0, 103, 0) :: (6, 2, 115, 2, 55) :: []) (by decide +kernel) h
  exact h2
theorem eg171_0_55_0 {n : Nat} {w : px_W} {r : Option Value × px_W} (h : ec_E hb_X n 171 55 [(0, .inr (.inl 64))] [] w r) : True ∧ ∃ (v : Option Value) (w1 : px_W), ec_E hb_X n 73 0 [(0, .inr (.inl 166)), (1, .inr (.inl 108))] [] w (v, w1) ∧ (v = none → ec_W hb_A w1 → ec_E hb_X n 171 66 [(0, .inr (.inl 64))] [] w1 r) := by
  have h2 := hb_ecw ((0, 1, 0, 0, 0) :: (5, 1, 0, 166, 0) :: (0, 1, 0, 0, 0) :: (5, 1, 0, 108, 0) :: (6, 2, 73, 2, 66) :: []) (by decide +kernel) h
  exact h2
theorem eg171_0_66_0 {n : Nat} {w : px_W} {r : Option Value × px_W} (h : ec_E hb_X n 171 66 [(0, .inr (.inl 64))] [] w r) : True ∧ ∃ (v : Option Value) (w1 : px_W), ec_E hb_X n 45 0 [(0, .inr (.inl 174)), (1, .inr (.inl 116))] [] w (v, w1) ∧ (v = none → ec_W hb_A w1 → ec_E hb_X n 171 77 [(0, .inr (.inl 64))] [] w1 r) := by
  have h2 := hb_ecw ((0, 1, 0, 0, 0) :: (5, 1, 0, 174, 0) :: (0, 1, 0, 0, 0) :: (5, 1, 0, 116, 0) :: (6, 2, 45, 2, 77) :: []) (by decide +kernel) h
  exact h2
theorem eg171_0_77_0 {n : Nat} {w : px_W} {r : Option Value × px_W} (h : ec_E hb_X n 171 77 [(0, .inr (.inl 64))] [] w r) : True ∧ r = (ec_R 1, ec_pf w 0 14 1) ∧ ec_W hb_A (ec_pf w 0 14 1) := by
  have h2 := hb_ecw ((0, 1, 0, 0, 0) :: (0, 2, 0, 0, 1) :: (5, 4, 0, 14, 0) :: (0, 2, 0, 0, 1) :: (6, 3, 0, 0, 0) :: []) (by decide +kernel) h
  exact h2
theorem eg172_0_0_0 {n : Nat} {w : px_W} {r : Option Value × px_W} (h : ec_E hb_X n 172 0 [(0, .inr (.inl 64))] [] w r) : ec_tw (ec_fd w 0 14) ≠ ec_tw 0 → True ∧ ∃ (v : Option Value) (w1 : px_W), ec_E hb_X n 32 0 [(0, .inr (.inl 65)), (1, .inr (.inl 123))] [] w (v, w1) ∧ (v = none → ec_W hb_A w1 → ec_E hb_X n 172 21 [(0, .inr (.inl 64))] [] w1 r) := by
  have h2 := hb_ecw ((0, 1, 0, 0, 0) :: (5, 0, 0, 14, 0) :: (4, 1, 1, 1, 0) :: (0, 1, 0, 0, 0) :: (5, 1, 0, 65, 0) :: (0, 1, 0, 0, 0) :: (5, 1, 0, 123, 0) :: (6, 2, 32, 2, 21) :: []) (by decide +kernel) h
  exact h2
theorem eg172_0_0_1 {n : Nat} {w : px_W} {r : Option Value × px_W} (h : ec_E hb_X n 172 0 [(0, .inr (.inl 64))] [] w r) : ec_tw (ec_fd w 0 14) = ec_tw 0 → True ∧ r = (ec_R (-3), w) ∧ ec_W hb_A w := by
  have h2 := hb_ecw ((0, 1, 0, 0, 0) :: (5, 0, 0, 14, 0) :: (4, 1, 0, 0, 0) :: (0, 2, 0, 0, (-3)) :: (6, 3, 0, 0, 0) :: []) (by decide +kernel) h
  exact h2
theorem eg172_0_21_0 {n : Nat} {w : px_W} {r : Option Value × px_W} (h : ec_E hb_X n 172 21 [(0, .inr (.inl 64))] [] w r) : True ∧ ∃ (v : Option Value) (w1 : px_W), ec_E hb_X n 109 0 [(0, .inr (.inl 74)), (1, .inr (.inl 132))] [] w (v, w1) ∧ (v = none → ec_W hb_A w1 → ec_E hb_X n 172 32 [(0, .inr (.inl 64))] [] w1 r) := by
  have h2 := hb_ecw ((0, 1, 0, 0, 0) :: (5, 1, 0, 74, 0) :: (0, 1, 0, 0, 0) :: (5, 1, 0, 132, 0) :: (6, 2, 109, 2, 32) :: []) (by decide +kernel) h
  exact h2
theorem eg172_0_32_0 {n : Nat} {w : px_W} {r : Option Value × px_W} (h : ec_E hb_X n 172 32 [(0, .inr (.inl 64))] [] w r) : True ∧ ∃ (v : Option Value) (w1 : px_W), ec_E hb_X n 14 0 [(0, .inr (.inl 79)), (1, .inr (.inl 137))] [] w (v, w1) ∧ (v = none → ec_W hb_A w1 → ec_E hb_X n 172 43 [(0, .inr (.inl 64))] [] w1 r) := by
  have h2 := hb_ecw ((0, 1, 0, 0, 0) :: (5, 1, 0, 79, 0) :: (0, 1, 0, 0, 0) :: (5, 1, 0, 137, 0) :: (6, 2, 14, 2, 43) :: []) (by decide +kernel) h
  exact h2
theorem eg172_0_43_0 {n : Nat} {w : px_W} {r : Option Value × px_W} (h : ec_E hb_X n 172 43 [(0, .inr (.inl 64))] [] w r) : True ∧ ∃ (v : Option Value) (w1 : px_W), ec_E hb_X n 87 0 [(0, .inr (.inl 93)), (1, .inr (.inl 151))] [] w (v, w1) ∧ (v = none → ec_W hb_A w1 → ec_E hb_X n 172 54 [(0, .inr (.inl 64))] [] w1 r) := by
  have h2 := hb_ecw ((0, 1, 0, 0, 0) :: (5, 1, 0, 93, 0) :: (0, 1, 0, 0, 0) :: (5, 1, 0, 151, 0) :: (6, 2, 87, 2, 54) :: []) (by decide +kernel) h
  exact h2
theorem eg172_0_54_0 {n : Nat} {w : px_W} {r : Option Value × px_W} (h : ec_E hb_X n 172 54 [(0, .inr (.inl 64))] [] w r) : True ∧ ∃ (v : Option Value) (w1 : px_W), ec_E hb_X n 115 0 [(0, .inr (.inl 103)), (1, .inr (.inl 161))] [] w (v, w1) ∧ (v = none → ec_W hb_A w1 → ec_E hb_X n 172 65 [(0, .inr (.inl 64))] [] w1 r) := by
  have h2 := hb_ecw ((0, 1, 0, 0, 0) :: (5, 1, 0, 103, 0) :: (0, 1, 0, 0, 0) :: (5, 1, 0, 161, 0) :: (6, 2, 115, 2, 65) :: []) (by decide +kernel) h
  exact h2
theorem eg172_0_65_0 {n : Nat} {w : px_W} {r : Option Value × px_W} (h : ec_E hb_X n 172 65 [(0, .inr (.inl 64))] [] w r) : True ∧ ∃ (v : Option Value) (w1 : px_W), ec_E hb_X n 73 0 [(0, .inr (.inl 108)), (1, .inr (.inl 166))] [] w (v, w1) ∧ (v = none → ec_W hb_A w1 → ec_E hb_X n 172 76 [(0, .inr (.inl 64))] [] w1 r) := by
  have h2 := hb_ecw ((0, 1, 0, 0, 0) :: (5, 1, 0, 108, 0) :: (0, 1, 0, 0, 0) :: (5, 1, 0, 166, 0) :: (6, 2, 73, 2, 76) :: []) (by decide +kernel) h
  exact h2
theorem eg172_0_76_0 {n : Nat} {w : px_W} {r : Option Value × px_W} (h : ec_E hb_X n 172 76 [(0, .inr (.inl 64))] [] w r) : True ∧ ∃ (v : Option Value) (w1 : px_W), ec_E hb_X n 45 0 [(0, .inr (.inl 116)), (1, .inr (.inl 174))] [] w (v, w1) ∧ (v = none → ec_W hb_A w1 → ec_E hb_X n 172 87 [(0, .inr (.inl 64))] [] w1 r) := by
  have h2 := hb_ecw ((0, 1, 0, 0, 0) :: (5, 1, 0, 116, 0) :: (0, 1, 0, 0, 0) :: (5, 1, 0, 174, 0) :: (6, 2, 45, 2, 87) :: []) (by decide +kernel) h
  exact h2
theorem eg172_0_87_0 {n : Nat} {w : px_W} {r : Option Value × px_W} (h : ec_E hb_X n 172 87 [(0, .inr (.inl 64))] [] w r) : True ∧ r = (ec_R 1, w) ∧ ec_W hb_A w := by
  have h2 := hb_ecw ((0, 2, 0, 0, 1) :: (6, 3, 0, 0, 0) :: []) (by decide +kernel) h
  exact h2
theorem eg292_151_0_0 {n : Nat} {w : px_W} {r : Option Value × px_W} (h : ec_E hb_X n 292 0 [(0, .inr (.inl 215))] [] w r) : True ∧ ec_E hb_X n 292 2 [(0, .inr (.inl 215)), (1, .inl 0)] [] w r := by
  have h2 := hb_ecw ((0, 2, 0, 0, 0) :: (0, 3, 1, 0, 0) :: (6, 0, 2, 2, 0) :: []) (by decide +kernel) h
  exact h2
theorem eg292_151_2_0 {n : Nat} {w : px_W} {r : Option Value × px_W} {x1 : Int} (h : ec_E hb_X n 292 2 [(0, .inr (.inl 215)), (1, .inl x1)] [] w r) : ec_tw 1580 ≤ ec_tw x1 → True ∧ r = (ec_R 1, ec_pf w 151 2 1) ∧ ec_W hb_A (ec_pf w 151 2 1) := by
  have h2 := hb_ecw ((0, 0, 1, 0, 0) :: (0, 2, 0, 0, 1580) :: (4, 2, 3, 1, 0) :: (0, 1, 0, 0, 0) :: (0, 2, 0, 0, 1) :: (5, 4, 151, 2, 0) :: (0, 2, 0, 0, 1) :: (6, 3, 0, 0, 0) :: []) (by decide +kernel) h
  exact h2
theorem eg292_151_2_1 {n : Nat} {w : px_W} {r : Option Value × px_W} {x1 : Int} (h : ec_E hb_X n 292 2 [(0, .inr (.inl 215)), (1, .inl x1)] [] w r) : ec_tw x1 < ec_tw 1580 → ((True ∧ 0 ≤ ec_tw x1 ∧ ec_tw x1 < 1580) ∧ 0 ≤ ec_tw x1 ∧ ec_tw x1 < 1580) ∧ ec_E hb_X n 292 2 [(0, .inr (.inl 215)), (1, .inl (x1 + 1))] [] (ec_wr w 153 (ec_tw x1) (ec_rd w 152 (ec_tw x1))) r := by
  have h2 := hb_ecw ((0, 0, 1, 0, 0) :: (0, 2, 0, 0, 1580) :: (4, 2, 2, 0, 0) :: (0, 1, 0, 0, 0) :: (5, 1, 151, 217, 0) :: (0, 0, 1, 0, 0) :: (0, 1, 0, 0, 0) :: (5, 1, 151, 216, 0) :: (0, 0, 1, 0, 0) :: (5, 2, 152, 0, 1580) :: (5, 3, 153, 0, 1580) :: (0, 5, 1, 0, 1) :: (4, 0, 0, 0, 0) :: (6, 0, 2, 2, 0) :: []) (by decide +kernel) h
  exact h2
theorem eg293_151_0_0 {n : Nat} {w : px_W} {r : Option Value × px_W} (h : ec_E hb_X n 293 0 [(0, .inr (.inl 215))] [] w r) : ec_tw (ec_fd w 151 2) ≠ ec_tw 0 → True ∧ ec_E hb_X n 293 12 [(0, .inr (.inl 215)), (1, .inl 0)] [] w r := by
  have h2 := hb_ecw ((0, 1, 0, 0, 0) :: (5, 0, 151, 2, 0) :: (4, 1, 1, 1, 0) :: (0, 2, 0, 0, 0) :: (0, 3, 1, 0, 0) :: (6, 0, 12, 2, 0) :: []) (by decide +kernel) h
  exact h2
theorem eg293_151_0_1 {n : Nat} {w : px_W} {r : Option Value × px_W} (h : ec_E hb_X n 293 0 [(0, .inr (.inl 215))] [] w r) : ec_tw (ec_fd w 151 2) = ec_tw 0 → True ∧ r = (ec_R (-3), w) ∧ ec_W hb_A w := by
  have h2 := hb_ecw ((0, 1, 0, 0, 0) :: (5, 0, 151, 2, 0) :: (4, 1, 0, 0, 0) :: (0, 2, 0, 0, (-3)) :: (6, 3, 0, 0, 0) :: []) (by decide +kernel) h
  exact h2
theorem eg293_151_12_0 {n : Nat} {w : px_W} {r : Option Value × px_W} {x1 : Int} (h : ec_E hb_X n 293 12 [(0, .inr (.inl 215)), (1, .inl x1)] [] w r) : ec_tw 1580 ≤ ec_tw x1 → True ∧ r = (ec_R 1, w) ∧ ec_W hb_A w := by
  have h2 := hb_ecw ((0, 0, 1, 0, 0) :: (0, 2, 0, 0, 1580) :: (4, 2, 3, 1, 0) :: (0, 2, 0, 0, 1) :: (6, 3, 0, 0, 0) :: []) (by decide +kernel) h
  exact h2
theorem eg293_151_12_1 {n : Nat} {w : px_W} {r : Option Value × px_W} {x1 : Int} (h : ec_E hb_X n 293 12 [(0, .inr (.inl 215)), (1, .inl x1)] [] w r) : ec_tw x1 < ec_tw 1580 → ((True ∧ 0 ≤ ec_tw x1 ∧ ec_tw x1 < 1580) ∧ 0 ≤ ec_tw x1 ∧ ec_tw x1 < 1580) ∧ ec_E hb_X n 293 12 [(0, .inr (.inl 215)), (1, .inl (x1 + 1))] [] (ec_wr w 152 (ec_tw x1) (ec_rd w 153 (ec_tw x1))) r := by
  have h2 := hb_ecw ((0, 0, 1, 0, 0) :: (0, 2, 0, 0, 1580) :: (4, 2, 2, 0, 0) :: (0, 1, 0, 0, 0) :: (5, 1, 151, 216, 0) :: (0, 0, 1, 0, 0) :: (0, 1, 0, 0, 0) :: (5, 1, 151, 217, 0) :: (0, 0, 1, 0, 0) :: (5, 2, 153, 0, 1580) :: (5, 3, 152, 0, 1580) :: (0, 5, 1, 0, 1) :: (4, 0, 0, 0, 0) :: (6, 0, 12, 2, 0) :: []) (by decide +kernel) h
  exact h2

end

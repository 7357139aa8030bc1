noncomputable section
/-! X3_levelOf -/
theorem eg36_1_0_0 {n : Nat} {w : px_W} {r : Option Value × px_W} {x1 : Int} (h : ec_E hb_X n 36 0 [(0, .inr (.inl 65)), (1, .inl x1)] [] w r) : ec_tw (ec_rd w 2 (ec_tw x1)) ≠ ec_tw 0 → ((((True ∧ 0 ≤ ec_tw x1 ∧ ec_tw x1 < 8) ∧ 0 ≤ ec_tw x1 ∧ ec_tw x1 < 8) ∧ 0 ≤ ec_tw x1 ∧ ec_tw x1 < 8) ∧ ec_tw (ec_rd w 2 (ec_tw x1)) ≠ 0) ∧ r = (ec_R (ec_dv (100 * (ec_rd w 3 (ec_tw x1))) (ec_rd w 2 (ec_tw x1))), w) ∧ ec_W hb_A w := by
  have h2 := hb_ecw ((0, 1, 0, 0, 0) :: (5, 1, 1, 66, 0) :: (0, 0, 1, 0, 0) :: (5, 2, 2, 0, 8) :: (4, 1, 1, 1, 0) :: (0, 2, 0, 0, 100) :: (0, 1, 0, 0, 0) :: (5, 1, 1, 67, 0) :: (0, 0, 1, 0, 0) :: (5, 2, 3, 0, 8) :: (1, 2, 0, 0, 0) :: (0, 1, 0, 0, 0) :: (5, 1, 1, 66, 0) :: (0, 0, 1, 0, 0) :: (5, 2, 2, 0, 8) :: (2, 0, 0, 0, 0) :: (6, 3, 0, 0, 0) :: []) (by decide +kernel) h
  exact h2
theorem eg36_1_0_1 {n : Nat} {w : px_W} {r : Option Value × px_W} {x1 : Int} (h : ec_E hb_X n 36 0 [(0, .inr (.inl 65)), (1, .inl x1)] [] w r) : ec_tw (ec_rd w 2 (ec_tw x1)) = ec_tw 0 → (True ∧ 0 ≤ ec_tw x1 ∧ ec_tw x1 < 8) ∧ r = (ec_R 0, w) ∧ ec_W hb_A w := by
  have h2 := hb_ecw ((0, 1, 0, 0, 0) :: (5, 1, 1, 66, 0) :: (0, 0, 1, 0, 0) :: (5, 2, 2, 0, 8) :: (4, 1, 0, 0, 0) :: (0, 2, 0, 0, 0) :: (4, 0, 0, 0, 0) :: (6, 3, 0, 0, 0) :: []) (by decide +kernel) h
  exact h2
/-! X3_outsideOf -/
theorem eg37_1_0_0 {n : Nat} {w : px_W} {r : Option Value × px_W} {x1 : Int} (h : ec_E hb_X n 37 0 [(0, .inr (.inl 65)), (1, .inl x1)] [] w r) : ((True ∧ ec_tw 20 ≠ 0) ∧ ec_tw 7 ≠ 0) ∧ r = (ec_R (ec_mx 0 (ec_mn 100 ((40 + (ec_dv (ec_fd w 1 8) 20)) + (ec_dv ((ec_fd w 1 9) * (7 - (2 * x1))) 7)))), w) ∧ ec_W hb_A w := by
  have h2 := hb_ecw ((0, 2, 0, 0, 40) :: (0, 1, 0, 0, 0) :: (5, 0, 1, 8, 0) :: (0, 2, 0, 0, 20) :: (2, 0, 0, 0, 0) :: (1, 0, 0, 0, 0) :: (0, 1, 0, 0, 0) :: (5, 0, 1, 9, 0) :: (0, 2, 0, 0, 7) :: (0, 2, 0, 0, 2) :: (0, 0, 1, 0, 0) :: (1, 2, 0, 0, 0) :: (1, 1, 0, 0, 0) :: (1, 2, 0, 0, 0) :: (0, 2, 0, 0, 7) :: (2, 0, 0, 0, 0) :: (1, 0, 0, 0, 0) :: (0, 3, 2, 0, 0) :: (0, 2, 0, 0, 0) :: (0, 2, 0, 0, 100) :: (0, 0, 2, 0, 0) :: (3, 6, 0, 0, 0) :: (3, 5, 0, 0, 0) :: (6, 3, 0, 0, 0) :: []) (by decide +kernel) h
  exact h2
/-! X3_findGains -/
theorem eg41_1_0_0 {n : Nat} {w : px_W} {r : Option Value × px_W} (h : ec_E hb_X n 41 0 [(0, .inr (.inl 65))] [] w r) : True ∧ ec_E hb_X n 41 2 [(0, .inr (.inl 65)), (1, .inl 0)] [] w r := by
  have h2 := hb_ecw ((0, 2, 0, 0, 0) :: (0, 3, 1, 0, 0) :: (6, 0, 2, 2, 0) :: []) (by decide +kernel) h
  exact h2
theorem eg41_1_2_0 {n : Nat} {w : px_W} {r : Option Value × px_W} {x1 : Int} (h : ec_E hb_X n 41 2 [(0, .inr (.inl 65)), (1, .inl x1)] [] w r) : ec_tw 8 ≤ ec_tw x1 → True ∧ ec_E hb_X n 41 84 [(0, .inr (.inl 65)), (1, .inl 0)] [] w r := by
  have h2 := hb_ecw ((0, 0, 1, 0, 0) :: (0, 2, 0, 0, 8) :: (4, 2, 3, 1, 0) :: (0, 2, 0, 0, 0) :: (0, 3, 1, 0, 0) :: (6, 0, 84, 2, 0) :: []) (by decide +kernel) h
  exact h2
theorem eg41_1_2_1 {n : Nat} {w : px_W} {r : Option Value × px_W} {x1 : Int} (h : ec_E hb_X n 41 2 [(0, .inr (.inl 65)), (1, .inl x1)] [] w r) : ec_tw x1 < ec_tw 8 → True ∧ ∃ (v : Option Value) (w1 : px_W), ec_E hb_X n 36 0 [(0, .inr (.inl 65)), (1, .inl x1)] [] w (v, w1) ∧ ∀ zz : Int, v = ec_R zz → ec_W hb_A w1 → ec_E hb_X n 41 18 [(0, .inr (.inl 65)), (1, .inl x1)] [.inl zz, .inl x1, .inr (.inl 72)] w1 r := by
  have h2 := hb_ecw ((0, 0, 1, 0, 0) :: (0, 2, 0, 0, 8) :: (4, 2, 2, 0, 0) :: (0, 1, 0, 0, 0) :: (5, 1, 1, 72, 0) :: (0, 0, 1, 0, 0) :: (0, 1, 0, 0, 0) :: (0, 0, 1, 0, 0) :: (6, 1, 36, 2, 18) :: []) (by decide +kernel) h
  exact h2
theorem eg41_1_84_0 {n : Nat} {w : px_W} {r : Option Value × px_W} {x1 : Int} (h : ec_E hb_X n 41 84 [(0, .inr (.inl 65)), (1, .inl x1)] [] w r) : ec_tw 7 ≤ ec_tw x1 → True ∧ r = (none, w) ∧ ec_W hb_A w := by
  have h2 := hb_ecw ((0, 0, 1, 0, 0) :: (0, 2, 0, 0, 7) :: (4, 2, 3, 1, 0) :: (6, 4, 0, 0, 0) :: []) (by decide +kernel) h
  exact h2
theorem eg41_1_84_1 {n : Nat} {w : px_W} {r : Option Value × px_W} {x1 : Int} (h : ec_E hb_X n 41 84 [(0, .inr (.inl 65)), (1, .inl x1)] [] w r) : ec_tw x1 < ec_tw 7 → ec_tw (ec_rd w 8 (ec_tw x1)) = ec_tw (ec_rd w 8 (ec_tw (x1 + 1))) → ((True ∧ 0 ≤ ec_tw x1 ∧ ec_tw x1 < 8) ∧ 0 ≤ ec_tw (x1 + 1) ∧ ec_tw (x1 + 1) < 8) ∧ ec_E hb_X n 41 84 [(0, .inr (.inl 65)), (1, .inl (x1 + 1))] [] w r := by
  have h2 := hb_ecw ((0, 0, 1, 0, 0) :: (0, 2, 0, 0, 7) :: (4, 2, 2, 0, 0) :: (0, 1, 0, 0, 0) :: (5, 1, 1, 72, 0) :: (0, 0, 1, 0, 0) :: (5, 2, 8, 0, 8) :: (0, 1, 0, 0, 0) :: (5, 1, 1, 72, 0) :: (0, 0, 1, 0, 0) :: (0, 2, 0, 0, 1) :: (1, 0, 0, 0, 0) :: (5, 2, 8, 0, 8) :: (4, 2, 0, 1, 0) :: (0, 5, 1, 0, 1) :: (4, 0, 0, 0, 0) :: (6, 0, 84, 2, 0) :: []) (by decide +kernel) h
  exact h2
theorem eg41_1_84_2 {n : Nat} {w : px_W} {r : Option Value × px_W} {x1 : Int} (h : ec_E hb_X n 41 84 [(0, .inr (.inl 65)), (1, .inl x1)] [] w r) : ec_tw x1 < ec_tw 7 → ec_tw (ec_rd w 8 (ec_tw x1)) ≠ ec_tw (ec_rd w 8 (ec_tw (x1 + 1))) → ((True ∧ 0 ≤ ec_tw x1 ∧ ec_tw x1 < 8) ∧ 0 ≤ ec_tw (x1 + 1) ∧ ec_tw (x1 + 1) < 8) ∧ ∃ (v : Option Value) (w1 : px_W), ec_E hb_X n 42 0 [(0, .inr (.inl 65)), (1, .inl x1)] [] w (v, w1) ∧ (v = none → ec_W hb_A w1 → ec_E hb_X n 41 112 [(0, .inr (.inl 65)), (1, .inl x1)] [] w1 r) := by
  have h2 := hb_ecw ((0, 0, 1, 0, 0) :: (0, 2, 0, 0, 7) :: (4, 2, 2, 0, 0) :: (0, 1, 0, 0, 0) :: (5, 1, 1, 72, 0) :: (0, 0, 1, 0, 0) :: (5, 2, 8, 0, 8) :: (0, 1, 0, 0, 0) :: (5, 1, 1, 72, 0) :: (0, 0, 1, 0, 0) :: (0, 2, 0, 0, 1) :: (1, 0, 0, 0, 0) :: (5, 2, 8, 0, 8) :: (4, 2, 1, 0, 0) :: (0, 1, 0, 0, 0) :: (0, 0, 1, 0, 0) :: (6, 2, 42, 2, 112) :: []) (by decide +kernel) h
  exact h2
theorem eg41_1_18_0 {n : Nat} {w : px_W} {r : Option Value × px_W} {x1 s1 s2 : Int} (h : ec_E hb_X n 41 18 [(0, .inr (.inl 65)), (1, .inl x1)] [.inl s2, .inl s1, .inr (.inl 72)] w r) : ec_tw (ec_rd (ec_wr (ec_wr w 8 (ec_tw s1) s2) 9 (ec_tw x1) (-(ec_rd (ec_wr w 8 (ec_tw s1) s2) 5 (ec_tw x1)))) 4 (ec_tw x1)) ≤ ec_tw 0 → ((((True ∧ 0 ≤ ec_tw s1 ∧ ec_tw s1 < 8) ∧ 0 ≤ ec_tw x1 ∧ ec_tw x1 < 8) ∧ 0 ≤ ec_tw x1 ∧ ec_tw x1 < 8) ∧ 0 ≤ ec_tw x1 ∧ ec_tw x1 < 8) ∧ ec_E hb_X n 41 2 [(0, .inr (.inl 65)), (1, .inl (x1 + 1))] [] (ec_wr (ec_wr w 8 (ec_tw s1) s2) 9 (ec_tw x1) (-(ec_rd (ec_wr w 8 (ec_tw s1) s2) 5 (ec_tw x1)))) r := by
  have h2 := hb_ecw ((5, 3, 8, 0, 8) :: (0, 1, 0, 0, 0) :: (5, 1, 1, 73, 0) :: (0, 0, 1, 0, 0) :: (0, 1, 0, 0, 0) :: (5, 1, 1, 69, 0) :: (0, 0, 1, 0, 0) :: (5, 2, 5, 0, 8) :: (3, 4, 0, 0, 0) :: (5, 3, 9, 0, 8) :: (0, 1, 0, 0, 0) :: (5, 1, 1, 68, 0) :: (0, 0, 1, 0, 0) :: (5, 2, 4, 0, 8) :: (4, 1, 5, 1, 0) :: (0, 5, 1, 0, 1) :: (4, 0, 0, 0, 0) :: (6, 0, 2, 2, 0) :: []) (by decide +kernel) h
  exact h2
theorem eg41_1_18_1 {n : Nat} {w : px_W} {r : Option Value × px_W} {x1 s1 s2 : Int} (h : ec_E hb_X n 41 18 [(0, .inr (.inl 65)), (1, .inl x1)] [.inl s2, .inl s1, .inr (.inl 72)] w r) : ec_tw 0 < ec_tw (ec_rd (ec_wr (ec_wr w 8 (ec_tw s1) s2) 9 (ec_tw x1) (-(ec_rd (ec_wr w 8 (ec_tw s1) s2) 5 (ec_tw x1)))) 4 (ec_tw x1)) → ((((((True ∧ 0 ≤ ec_tw s1 ∧ ec_tw s1 < 8) ∧ 0 ≤ ec_tw x1 ∧ ec_tw x1 < 8) ∧ 0 ≤ ec_tw x1 ∧ ec_tw x1 < 8) ∧ 0 ≤ ec_tw x1 ∧ ec_tw x1 < 8) ∧ 0 ≤ ec_tw x1 ∧ ec_tw x1 < 8) ∧ 0 ≤ ec_tw x1 ∧ ec_tw x1 < 8) ∧ ∃ (v : Option Value) (w1 : px_W), ec_E hb_X n 37 0 [(0, .inr (.inl 65)), (1, .inl x1)] [] (ec_wr (ec_wr w 8 (ec_tw s1) s2) 9 (ec_tw x1) (-(ec_rd (ec_wr w 8 (ec_tw s1) s2) 5 (ec_tw x1)))) (v, w1) ∧ ∀ zz : Int, v = ec_R zz → ec_W hb_A w1 → ec_E hb_X n 41 60 [(0, .inr (.inl 65)), (1, .inl x1)] [.inl zz, .inl (ec_rd (ec_wr (ec_wr w 8 (ec_tw s1) s2) 9 (ec_tw x1) (-(ec_rd (ec_wr w 8 (ec_tw s1) s2) 5 (ec_tw x1)))) 4 (ec_tw x1)), .inl 0, .inl (ec_rd (ec_wr (ec_wr w 8 (ec_tw s1) s2) 9 (ec_tw x1) (-(ec_rd (ec_wr w 8 (ec_tw s1) s2) 5 (ec_tw x1)))) 9 (ec_tw x1)), .inl x1, .inr (.inl 73)] w1 r := by
  have h2 := hb_ecw ((5, 3, 8, 0, 8) :: (0, 1, 0, 0, 0) :: (5, 1, 1, 73, 0) :: (0, 0, 1, 0, 0) :: (0, 1, 0, 0, 0) :: (5, 1, 1, 69, 0) :: (0, 0, 1, 0, 0) :: (5, 2, 5, 0, 8) :: (3, 4, 0, 0, 0) :: (5, 3, 9, 0, 8) :: (0, 1, 0, 0, 0) :: (5, 1, 1, 68, 0) :: (0, 0, 1, 0, 0) :: (5, 2, 4, 0, 8) :: (4, 1, 4, 0, 0) :: (0, 1, 0, 0, 0) :: (5, 1, 1, 73, 0) :: (0, 0, 1, 0, 0) :: (3, 3, 0, 0, 0) :: (5, 2, 9, 0, 8) :: (0, 2, 0, 0, 0) :: (0, 1, 0, 0, 0) :: (5, 1, 1, 68, 0) :: (0, 0, 1, 0, 0) :: (5, 2, 4, 0, 8) :: (0, 1, 0, 0, 0) :: (0, 0, 1, 0, 0) :: (6, 1, 37, 2, 60) :: []) (by decide +kernel) h
  exact h2
theorem eg41_1_112_0 {n : Nat} {w : px_W} {r : Option Value × px_W} {x1 : Int} (h : ec_E hb_X n 41 112 [(0, .inr (.inl 65)), (1, .inl x1)] [] w r) : True ∧ ec_E hb_X n 41 84 [(0, .inr (.inl 65)), (1, .inl (x1 + 1))] [] w r := by
  have h2 := hb_ecw ((0, 5, 1, 0, 1) :: (4, 0, 0, 0, 0) :: (6, 0, 84, 2, 0) :: []) (by decide +kernel) h
  exact h2
theorem eg41_1_60_0 {n : Nat} {w : px_W} {r : Option Value × px_W} {x1 s1 s2 s3 s4 s5 : Int} (h : ec_E hb_X n 41 60 [(0, .inr (.inl 65)), (1, .inl x1)] [.inl s5, .inl s4, .inl s3, .inl s2, .inl s1, .inr (.inl 73)] w r) : (((True ∧ 0 ≤ ec_tw x1 ∧ ec_tw x1 < 8) ∧ ec_tw 10 ≠ 0) ∧ 0 ≤ ec_tw s1 ∧ ec_tw s1 < 8) ∧ ec_E hb_X n 41 2 [(0, .inr (.inl 65)), (1, .inl (x1 + 1))] [] (ec_wr w 9 (ec_tw s1) (s2 + (ec_mx s3 (ec_dv (s4 * (s5 - (ec_rd w 8 (ec_tw x1)))) 10)))) r := by
  have h2 := hb_ecw ((0, 1, 0, 0, 0) :: (5, 1, 1, 72, 0) :: (0, 0, 1, 0, 0) :: (5, 2, 8, 0, 8) :: (1, 1, 0, 0, 0) :: (1, 2, 0, 0, 0) :: (0, 2, 0, 0, 10) :: (2, 0, 0, 0, 0) :: (3, 5, 0, 0, 0) :: (1, 0, 0, 0, 0) :: (5, 3, 9, 0, 8) :: (0, 5, 1, 0, 1) :: (4, 0, 0, 0, 0) :: (6, 0, 2, 2, 0) :: []) (by decide +kernel) h
  exact h2
/-! X3_passWall -/
theorem eg42_1_0_0 {n : Nat} {w : px_W} {r : Option Value × px_W} {x1 : Int} (h : ec_E hb_X n 42 0 [(0, .inr (.inl 65)), (1, .inl x1)] [] w r) : ec_tw (ec_rd w 7 (ec_tw x1)) ≠ ec_tw 1 → ((True ∧ 0 ≤ ec_tw x1 ∧ ec_tw x1 < 7) ∧ 0 ≤ ec_tw x1 ∧ ec_tw x1 < 7) ∧ ec_E hb_X n 42 20 [(0, .inr (.inl 65)), (1, .inl x1)] [.inl (ec_rd w 6 (ec_tw x1))] w r := by
  have h2 := hb_ecw ((0, 1, 0, 0, 0) :: (5, 1, 1, 71, 0) :: (0, 0, 1, 0, 0) :: (5, 2, 7, 0, 7) :: (0, 2, 0, 0, 1) :: (4, 2, 1, 1, 0) :: (0, 1, 0, 0, 0) :: (5, 1, 1, 70, 0) :: (0, 0, 1, 0, 0) :: (5, 2, 6, 0, 7) :: (6, 0, 20, 2, 0) :: []) (by decide +kernel) h
  exact h2
theorem eg42_1_0_1 {n : Nat} {w : px_W} {r : Option Value × px_W} {x1 : Int} (h : ec_E hb_X n 42 0 [(0, .inr (.inl 65)), (1, .inl x1)] [] w r) : ec_tw (ec_rd w 7 (ec_tw x1)) = ec_tw 1 → (True ∧ 0 ≤ ec_tw x1 ∧ ec_tw x1 < 7) ∧ ec_E hb_X n 42 20 [(0, .inr (.inl 65)), (1, .inl x1)] [.inl 0] w r := by
  have h2 := hb_ecw ((0, 1, 0, 0, 0) :: (5, 1, 1, 71, 0) :: (0, 0, 1, 0, 0) :: (5, 2, 7, 0, 7) :: (0, 2, 0, 0, 1) :: (4, 2, 0, 0, 0) :: (0, 2, 0, 0, 0) :: (4, 0, 0, 0, 0) :: (6, 0, 20, 2, 0) :: []) (by decide +kernel) h
  exact h2
theorem eg42_1_20_0 {n : Nat} {w : px_W} {r : Option Value × px_W} {x1 s0 : Int} (h : ec_E hb_X n 42 20 [(0, .inr (.inl 65)), (1, .inl x1)] [.inl s0] w r) : ((((True ∧ 0 ≤ ec_tw x1 ∧ ec_tw x1 < 8) ∧ 0 ≤ ec_tw (x1 + 1) ∧ ec_tw (x1 + 1) < 8) ∧ 0 ≤ ec_tw x1 ∧ ec_tw x1 < 8) ∧ 0 ≤ ec_tw (x1 + 1) ∧ ec_tw (x1 + 1) < 8) ∧ ec_E hb_X n 42 61 [(0, .inr (.inl 65)), (1, .inl x1), (2, .inl s0), (3, .inl ((ec_mx (ec_rd w 8 (ec_tw x1)) (ec_rd w 8 (ec_tw (x1 + 1)))) - (ec_mx s0 (ec_mn (ec_rd w 8 (ec_tw x1)) (ec_rd w 8 (ec_tw (x1 + 1)))))))] [] w r := by
  have h2 := hb_ecw ((0, 3, 2, 0, 0) :: (0, 1, 0, 0, 0) :: (5, 1, 1, 72, 0) :: (0, 0, 1, 0, 0) :: (5, 2, 8, 0, 8) :: (0, 1, 0, 0, 0) :: (5, 1, 1, 72, 0) :: (0, 0, 1, 0, 0) :: (0, 2, 0, 0, 1) :: (1, 0, 0, 0, 0) :: (5, 2, 8, 0, 8) :: (3, 5, 0, 0, 0) :: (0, 0, 2, 0, 0) :: (0, 1, 0, 0, 0) :: (5, 1, 1, 72, 0) :: (0, 0, 1, 0, 0) :: (5, 2, 8, 0, 8) :: (0, 1, 0, 0, 0) :: (5, 1, 1, 72, 0) :: (0, 0, 1, 0, 0) :: (0, 2, 0, 0, 1) :: (1, 0, 0, 0, 0) :: (5, 2, 8, 0, 8) :: (3, 6, 0, 0, 0) :: (3, 5, 0, 0, 0) :: (1, 1, 0, 0, 0) :: (0, 3, 3, 0, 0) :: (6, 0, 61, 4, 0) :: []) (by decide +kernel) h
  exact h2
theorem eg42_1_61_0 {n : Nat} {w : px_W} {r : Option Value × px_W} {x1 x2 x3 : Int} (h : ec_E hb_X n 42 61 [(0, .inr (.inl 65)), (1, .inl x1), (2, .inl x2), (3, .inl x3)] [] w r) : ec_tw 0 < ec_tw x3 → ec_tw (ec_rd w 8 (ec_tw x1)) ≤ ec_tw (ec_rd w 8 (ec_tw (x1 + 1))) → (((True ∧ 0 ≤ ec_tw x1 ∧ ec_tw x1 < 8) ∧ 0 ≤ ec_tw (x1 + 1) ∧ ec_tw (x1 + 1) < 8) ∧ ec_tw 4 ≠ 0) ∧ ec_E hb_X n 42 93 [(0, .inr (.inl 65)), (1, .inl x1), (2, .inl x2), (3, .inl x3)] [.inl (-(ec_dv x3 4))] w r := by
  have h2 := hb_ecw ((0, 0, 3, 0, 0) :: (4, 1, 4, 1, 0) :: (0, 1, 0, 0, 0) :: (5, 1, 1, 72, 0) :: (0, 0, 1, 0, 0) :: (5, 2, 8, 0, 8) :: (0, 1, 0, 0, 0) :: (5, 1, 1, 72, 0) :: (0, 0, 1, 0, 0) :: (0, 2, 0, 0, 1) :: (1, 0, 0, 0, 0) :: (5, 2, 8, 0, 8) :: (4, 2, 5, 1, 0) :: (0, 0, 3, 0, 0) :: (0, 2, 0, 0, 4) :: (2, 0, 0, 0, 0) :: (3, 4, 0, 0, 0) :: (6, 0, 93, 5, 0) :: []) (by decide +kernel) h
  exact h2
theorem eg42_1_61_1 {n : Nat} {w : px_W} {r : Option Value × px_W} {x1 x2 x3 : Int} (h : ec_E hb_X n 42 61 [(0, .inr (.inl 65)), (1, .inl x1), (2, .inl x2), (3, .inl x3)] [] w r) : ec_tw 0 < ec_tw x3 → ec_tw (ec_rd w 8 (ec_tw (x1 + 1))) < ec_tw (ec_rd w 8 (ec_tw x1)) → (((True ∧ 0 ≤ ec_tw x1 ∧ ec_tw x1 < 8) ∧ 0 ≤ ec_tw (x1 + 1) ∧ ec_tw (x1 + 1) < 8) ∧ ec_tw 4 ≠ 0) ∧ ec_E hb_X n 42 93 [(0, .inr (.inl 65)), (1, .inl x1), (2, .inl x2), (3, .inl x3)] [.inl (ec_dv x3 4)] w r := by
  have h2 := hb_ecw ((0, 0, 3, 0, 0) :: (4, 1, 4, 1, 0) :: (0, 1, 0, 0, 0) :: (5, 1, 1, 72, 0) :: (0, 0, 1, 0, 0) :: (5, 2, 8, 0, 8) :: (0, 1, 0, 0, 0) :: (5, 1, 1, 72, 0) :: (0, 0, 1, 0, 0) :: (0, 2, 0, 0, 1) :: (1, 0, 0, 0, 0) :: (5, 2, 8, 0, 8) :: (4, 2, 4, 0, 0) :: (0, 0, 3, 0, 0) :: (0, 2, 0, 0, 4) :: (2, 0, 0, 0, 0) :: (4, 0, 0, 0, 0) :: (6, 0, 93, 5, 0) :: []) (by decide +kernel) h
  exact h2
theorem eg42_1_61_2 {n : Nat} {w : px_W} {r : Option Value × px_W} {x1 x2 x3 : Int} (h : ec_E hb_X n 42 61 [(0, .inr (.inl 65)), (1, .inl x1), (2, .inl x2), (3, .inl x3)] [] w r) : ec_tw x3 ≤ ec_tw 0 → True ∧ r = (none, w) ∧ ec_W hb_A w := by
  have h2 := hb_ecw ((0, 0, 3, 0, 0) :: (4, 1, 5, 0, 0) :: (6, 4, 0, 0, 0) :: []) (by decide +kernel) h
  exact h2
theorem eg42_1_93_0 {n : Nat} {w : px_W} {r : Option Value × px_W} {x1 x2 x3 s0 : Int} (h : ec_E hb_X n 42 93 [(0, .inr (.inl 65)), (1, .inl x1), (2, .inl x2), (3, .inl x3)] [.inl s0] w r) : ((((True ∧ 0 ≤ ec_tw x1 ∧ ec_tw x1 < 8) ∧ 0 ≤ ec_tw x1 ∧ ec_tw x1 < 8) ∧ 0 ≤ ec_tw (x1 + 1) ∧ ec_tw (x1 + 1) < 8) ∧ 0 ≤ ec_tw (x1 + 1) ∧ ec_tw (x1 + 1) < 8) ∧ r = (none, ec_wr (ec_wr w 9 (ec_tw x1) ((ec_rd w 9 (ec_tw x1)) - s0)) 9 (ec_tw (x1 + 1)) ((ec_rd (ec_wr w 9 (ec_tw x1) ((ec_rd w 9 (ec_tw x1)) - s0)) 9 (ec_tw (x1 + 1))) + s0)) ∧ ec_W hb_A (ec_wr (ec_wr w 9 (ec_tw x1) ((ec_rd w 9 (ec_tw x1)) - s0)) 9 (ec_tw (x1 + 1)) ((ec_rd (ec_wr w 9 (ec_tw x1) ((ec_rd w 9 (ec_tw x1)) - s0)) 9 (ec_tw (x1 + 1))) + s0)) := by
  have h2 := hb_ecw ((0, 3, 4, 0, 0) :: (0, 1, 0, 0, 0) :: (5, 1, 1, 73, 0) :: (0, 0, 1, 0, 0) :: (3, 3, 0, 0, 0) :: (5, 2, 9, 0, 8) :: (0, 0, 4, 0, 0) :: (1, 1, 0, 0, 0) :: (5, 3, 9, 0, 8) :: (0, 1, 0, 0, 0) :: (5, 1, 1, 73, 0) :: (0, 0, 1, 0, 0) :: (0, 2, 0, 0, 1) :: (1, 0, 0, 0, 0) :: (3, 3, 0, 0, 0) :: (5, 2, 9, 0, 8) :: (0, 0, 4, 0, 0) :: (1, 0, 0, 0, 0) :: (5, 3, 9, 0, 8) :: (6, 4, 0, 0, 0) :: []) (by decide +kernel) h
  exact h2
/-! X3_takeGains -/
theorem eg43_1_0_0 {n : Nat} {w : px_W} {r : Option Value × px_W} (h : ec_E hb_X n 43 0 [(0, .inr (.inl 65))] [] w r) : True ∧ ec_E hb_X n 43 4 [(0, .inr (.inl 65)), (1, .inl 0), (2, .inl 0)] [] w r := by
  have h2 := hb_ecw ((0, 2, 0, 0, 0) :: (0, 3, 1, 0, 0) :: (0, 2, 0, 0, 0) :: (0, 3, 2, 0, 0) :: (6, 0, 4, 3, 0) :: []) (by decide +kernel) h
  exact h2
theorem eg43_1_4_0 {n : Nat} {w : px_W} {r : Option Value × px_W} {x1 x2 : Int} (h : ec_E hb_X n 43 4 [(0, .inr (.inl 65)), (1, .inl x1), (2, .inl x2)] [] w r) : ec_tw 8 ≤ ec_tw x2 → ec_tw x1 = ec_tw 0 → True ∧ r = (ec_R x1, w) ∧ ec_W hb_A w := by
  have h2 := hb_ecw ((0, 0, 2, 0, 0) :: (0, 2, 0, 0, 8) :: (4, 2, 3, 1, 0) :: (0, 0, 1, 0, 0) :: (4, 1, 0, 1, 0) :: (0, 0, 1, 0, 0) :: (6, 3, 0, 0, 0) :: []) (by decide +kernel) h
  exact h2
theorem eg43_1_4_1 {n : Nat} {w : px_W} {r : Option Value × px_W} {x1 x2 : Int} (h : ec_E hb_X n 43 4 [(0, .inr (.inl 65)), (1, .inl x1), (2, .inl x2)] [] w r) : ec_tw 8 ≤ ec_tw x2 → ec_tw x1 ≠ ec_tw 0 → True ∧ ∃ (v : Option Value) (w1 : px_W), ec_E hb_X n 40 0 [(0, .inr (.inl 65))] [] w (v, w1) ∧ (v = none → ec_W hb_A w1 → ec_E hb_X n 43 87 [(0, .inr (.inl 65)), (1, .inl x1), (2, .inl x2)] [] w1 r) := by
  have h2 := hb_ecw ((0, 0, 2, 0, 0) :: (0, 2, 0, 0, 8) :: (4, 2, 3, 1, 0) :: (0, 0, 1, 0, 0) :: (4, 1, 1, 0, 0) :: (0, 1, 0, 0, 0) :: (6, 2, 40, 1, 87) :: []) (by decide +kernel) h
  exact h2
theorem eg43_1_4_2 {n : Nat} {w : px_W} {r : Option Value × px_W} {x1 x2 : Int} (h : ec_E hb_X n 43 4 [(0, .inr (.inl 65)), (1, .inl x1), (2, .inl x2)] [] w r) : ec_tw x2 < ec_tw 8 → ec_tw (ec_rd w 9 (ec_tw x2)) = ec_tw 0 → (True ∧ 0 ≤ ec_tw x2 ∧ ec_tw x2 < 8) ∧ ec_E hb_X n 43 4 [(0, .inr (.inl 65)), (1, .inl x1), (2, .inl (x2 + 1))] [] w r := by
  have h2 := hb_ecw ((0, 0, 2, 0, 0) :: (0, 2, 0, 0, 8) :: (4, 2, 2, 0, 0) :: (0, 1, 0, 0, 0) :: (5, 1, 1, 73, 0) :: (0, 0, 2, 0, 0) :: (5, 2, 9, 0, 8) :: (4, 1, 0, 1, 0) :: (0, 5, 2, 0, 1) :: (4, 0, 0, 0, 0) :: (6, 0, 4, 3, 0) :: []) (by decide +kernel) h
  exact h2
theorem eg43_1_4_3 {n : Nat} {w : px_W} {r : Option Value × px_W} {x1 x2 : Int} (h : ec_E hb_X n 43 4 [(0, .inr (.inl 65)), (1, .inl x1), (2, .inl x2)] [] w r) : ec_tw x2 < ec_tw 8 → ec_tw (ec_rd w 9 (ec_tw x2)) ≠ ec_tw 0 → ec_tw x1 ≠ ec_tw 0 → (((((True ∧ 0 ≤ ec_tw x2 ∧ ec_tw x2 < 8) ∧ 0 ≤ ec_tw x2 ∧ ec_tw x2 < 8) ∧ 0 ≤ ec_tw x2 ∧ ec_tw x2 < 8) ∧ 0 ≤ ec_tw x2 ∧ ec_tw x2 < 8) ∧ 0 ≤ ec_tw x2 ∧ ec_tw x2 < 8) ∧ ec_E hb_X n 43 4 [(0, .inr (.inl 65)), (1, .inl 1), (2, .inl (x2 + 1))] [] (ec_wr w 3 (ec_tw x2) (ec_mx 0 (ec_mn (ec_rd w 2 (ec_tw x2)) ((ec_rd w 3 (ec_tw x2)) + (ec_rd w 9 (ec_tw x2)))))) r := by
  have h2 := hb_ecw ((0, 0, 2, 0, 0) :: (0, 2, 0, 0, 8) :: (4, 2, 2, 0, 0) :: (0, 1, 0, 0, 0) :: (5, 1, 1, 73, 0) :: (0, 0, 2, 0, 0) :: (5, 2, 9, 0, 8) :: (4, 1, 1, 0, 0) :: (0, 2, 0, 0, 0) :: (0, 1, 0, 0, 0) :: (5, 1, 1, 66, 0) :: (0, 0, 2, 0, 0) :: (5, 2, 2, 0, 8) :: (0, 1, 0, 0, 0) :: (5, 1, 1, 67, 0) :: (0, 0, 2, 0, 0) :: (5, 2, 3, 0, 8) :: (0, 1, 0, 0, 0) :: (5, 1, 1, 73, 0) :: (0, 0, 2, 0, 0) :: (5, 2, 9, 0, 8) :: (1, 0, 0, 0, 0) :: (3, 6, 0, 0, 0) :: (3, 5, 0, 0, 0) :: (0, 3, 3, 0, 0) :: (0, 0, 1, 0, 0) :: (4, 1, 1, 1, 0) :: (0, 2, 0, 0, 1) :: (4, 0, 0, 0, 0) :: (0, 3, 1, 0, 0) :: (0, 1, 0, 0, 0) :: (5, 1, 1, 67, 0) :: (0, 0, 2, 0, 0) :: (0, 0, 3, 0, 0) :: (5, 3, 3, 0, 8) :: (0, 5, 2, 0, 1) :: (4, 0, 0, 0, 0) :: (6, 0, 4, 3, 0) :: []) (by decide +kernel) h
  exact h2
theorem eg43_1_4_4 {n : Nat} {w : px_W} {r : Option Value × px_W} {x1 x2 : Int} (h : ec_E hb_X n 43 4 [(0, .inr (.inl 65)), (1, .inl x1), (2, .inl x2)] [] w r) : ec_tw x2 < ec_tw 8 → ec_tw (ec_rd w 9 (ec_tw x2)) ≠ ec_tw 0 → ec_tw x1 = ec_tw 0 → ec_tw (ec_mx 0 (ec_mn (ec_rd w 2 (ec_tw x2)) ((ec_rd w 3 (ec_tw x2)) + (ec_rd w 9 (ec_tw x2))))) = ec_tw (ec_rd w 3 (ec_tw x2)) → ((((((True ∧ 0 ≤ ec_tw x2 ∧ ec_tw x2 < 8) ∧ 0 ≤ ec_tw x2 ∧ ec_tw x2 < 8) ∧ 0 ≤ ec_tw x2 ∧ ec_tw x2 < 8) ∧ 0 ≤ ec_tw x2 ∧ ec_tw x2 < 8) ∧ 0 ≤ ec_tw x2 ∧ ec_tw x2 < 8) ∧ 0 ≤ ec_tw x2 ∧ ec_tw x2 < 8) ∧ ec_E hb_X n 43 4 [(0, .inr (.inl 65)), (1, .inl 0), (2, .inl (x2 + 1))] [] (ec_wr w 3 (ec_tw x2) (ec_mx 0 (ec_mn (ec_rd w 2 (ec_tw x2)) ((ec_rd w 3 (ec_tw x2)) + (ec_rd w 9 (ec_tw x2)))))) r := by
  have h2 := hb_ecw ((0, 0, 2, 0, 0) :: (0, 2, 0, 0, 8) :: (4, 2, 2, 0, 0) :: (0, 1, 0, 0, 0) :: (5, 1, 1, 73, 0) :: (0, 0, 2, 0, 0) :: (5, 2, 9, 0, 8) :: (4, 1, 1, 0, 0) :: (0, 2, 0, 0, 0) :: (0, 1, 0, 0, 0) :: (5, 1, 1, 66, 0) :: (0, 0, 2, 0, 0) :: (5, 2, 2, 0, 8) :: (0, 1, 0, 0, 0) :: (5, 1, 1, 67, 0) :: (0, 0, 2, 0, 0) :: (5, 2, 3, 0, 8) :: (0, 1, 0, 0, 0) :: (5, 1, 1, 73, 0) :: (0, 0, 2, 0, 0) :: (5, 2, 9, 0, 8) :: (1, 0, 0, 0, 0) :: (3, 6, 0, 0, 0) :: (3, 5, 0, 0, 0) :: (0, 3, 3, 0, 0) :: (0, 0, 1, 0, 0) :: (4, 1, 0, 0, 0) :: (0, 0, 3, 0, 0) :: (0, 1, 0, 0, 0) :: (5, 1, 1, 67, 0) :: (0, 0, 2, 0, 0) :: (5, 2, 3, 0, 8) :: (4, 2, 0, 1, 0) :: (0, 2, 0, 0, 0) :: (0, 3, 1, 0, 0) :: (0, 1, 0, 0, 0) :: (5, 1, 1, 67, 0) :: (0, 0, 2, 0, 0) :: (0, 0, 3, 0, 0) :: (5, 3, 3, 0, 8) :: (0, 5, 2, 0, 1) :: (4, 0, 0, 0, 0) :: (6, 0, 4, 3, 0) :: []) (by decide +kernel) h
  exact h2
theorem eg43_1_4_5 {n : Nat} {w : px_W} {r : Option Value × px_W} {x1 x2 : Int} (h : ec_E hb_X n 43 4 [(0, .inr (.inl 65)), (1, .inl x1), (2, .inl x2)] [] w r) : ec_tw x2 < ec_tw 8 → ec_tw (ec_rd w 9 (ec_tw x2)) ≠ ec_tw 0 → ec_tw x1 = ec_tw 0 → ec_tw (ec_mx 0 (ec_mn (ec_rd w 2 (ec_tw x2)) ((ec_rd w 3 (ec_tw x2)) + (ec_rd w 9 (ec_tw x2))))) ≠ ec_tw (ec_rd w 3 (ec_tw x2)) → ((((((True ∧ 0 ≤ ec_tw x2 ∧ ec_tw x2 < 8) ∧ 0 ≤ ec_tw x2 ∧ ec_tw x2 < 8) ∧ 0 ≤ ec_tw x2 ∧ ec_tw x2 < 8) ∧ 0 ≤ ec_tw x2 ∧ ec_tw x2 < 8) ∧ 0 ≤ ec_tw x2 ∧ ec_tw x2 < 8) ∧ 0 ≤ ec_tw x2 ∧ ec_tw x2 < 8) ∧ ec_E hb_X n 43 4 [(0, .inr (.inl 65)), (1, .inl 1), (2, .inl (x2 + 1))] [] (ec_wr w 3 (ec_tw x2) (ec_mx 0 (ec_mn (ec_rd w 2 (ec_tw x2)) ((ec_rd w 3 (ec_tw x2)) + (ec_rd w 9 (ec_tw x2)))))) r := by
  have h2 := hb_ecw ((0, 0, 2, 0, 0) :: (0, 2, 0, 0, 8) :: (4, 2, 2, 0, 0) :: (0, 1, 0, 0, 0) :: (5, 1, 1, 73, 0) :: (0, 0, 2, 0, 0) :: (5, 2, 9, 0, 8) :: (4, 1, 1, 0, 0) :: (0, 2, 0, 0, 0) :: (0, 1, 0, 0, 0) :: (5, 1, 1, 66, 0) :: (0, 0, 2, 0, 0) :: (5, 2, 2, 0, 8) :: (0, 1, 0, 0, 0) :: (5, 1, 1, 67, 0) :: (0, 0, 2, 0, 0) :: (5, 2, 3, 0, 8) :: (0, 1, 0, 0, 0) :: (5, 1, 1, 73, 0) :: (0, 0, 2, 0, 0) :: (5, 2, 9, 0, 8) :: (1, 0, 0, 0, 0) :: (3, 6, 0, 0, 0) :: (3, 5, 0, 0, 0) :: (0, 3, 3, 0, 0) :: (0, 0, 1, 0, 0) :: (4, 1, 0, 0, 0) :: (0, 0, 3, 0, 0) :: (0, 1, 0, 0, 0) :: (5, 1, 1, 67, 0) :: (0, 0, 2, 0, 0) :: (5, 2, 3, 0, 8) :: (4, 2, 1, 0, 0) :: (0, 2, 0, 0, 1) :: (4, 0, 0, 0, 0) :: (0, 3, 1, 0, 0) :: (0, 1, 0, 0, 0) :: (5, 1, 1, 67, 0) :: (0, 0, 2, 0, 0) :: (0, 0, 3, 0, 0) :: (5, 3, 3, 0, 8) :: (0, 5, 2, 0, 1) :: (4, 0, 0, 0, 0) :: (6, 0, 4, 3, 0) :: []) (by decide +kernel) h
  exact h2
theorem eg43_1_87_0 {n : Nat} {w : px_W} {r : Option Value × px_W} {x1 x2 : Int} (h : ec_E hb_X n 43 87 [(0, .inr (.inl 65)), (1, .inl x1), (2, .inl x2)] [] w r) : True ∧ r = (ec_R x1, w) ∧ ec_W hb_A w := by
  have h2 := hb_ecw ((0, 0, 1, 0, 0) :: (6, 3, 0, 0, 0) :: []) (by decide +kernel) h
  exact h2
/-! X3_passMinute -/
theorem eg39_1_0_0 {n : Nat} {w : px_W} {r : Option Value × px_W} (h : ec_E hb_X n 39 0 [(0, .inr (.inl 65))] [] w r) : ec_tw (ec_fd (ec_pf w 1 0 ((ec_fd w 1 0) + 1)) 1 1) = ec_tw (-3) → True ∧ ∃ (v : Option Value) (w1 : px_W), ec_E hb_X n 41 0 [(0, .inr (.inl 65))] [] (ec_pf w 1 0 ((ec_fd w 1 0) + 1)) (v, w1) ∧ (v = none → ec_W hb_A w1 → ec_E hb_X n 39 25 [(0, .inr (.inl 65))] [] w1 r) := by
  have h2 := hb_ecw ((0, 1, 0, 0, 0) :: (3, 0, 0, 0, 0) :: (5, 0, 1, 0, 0) :: (0, 2, 0, 0, 1) :: (1, 0, 0, 0, 0) :: (5, 4, 1, 0, 0) :: (0, 1, 0, 0, 0) :: (5, 0, 1, 1, 0) :: (0, 2, 0, 0, (-3)) :: (4, 2, 0, 1, 0) :: (0, 1, 0, 0, 0) :: (6, 2, 41, 1, 25) :: []) (by decide +kernel) h
  exact h2
theorem eg39_1_0_1 {n : Nat} {w : px_W} {r : Option Value × px_W} (h : ec_E hb_X n 39 0 [(0, .inr (.inl 65))] [] w r) : ec_tw (ec_fd (ec_pf w 1 0 ((ec_fd w 1 0) + 1)) 1 1) ≠ ec_tw (-3) → True ∧ r = (ec_R 0, ec_pf w 1 0 ((ec_fd w 1 0) + 1)) ∧ ec_W hb_A (ec_pf w 1 0 ((ec_fd w 1 0) + 1)) := by
  have h2 := hb_ecw ((0, 1, 0, 0, 0) :: (3, 0, 0, 0, 0) :: (5, 0, 1, 0, 0) :: (0, 2, 0, 0, 1) :: (1, 0, 0, 0, 0) :: (5, 4, 1, 0, 0) :: (0, 1, 0, 0, 0) :: (5, 0, 1, 1, 0) :: (0, 2, 0, 0, (-3)) :: (4, 2, 1, 0, 0) :: (0, 2, 0, 0, 0) :: (6, 3, 0, 0, 0) :: []) (by decide +kernel) h
  exact h2
theorem eg39_1_25_0 {n : Nat} {w : px_W} {r : Option Value × px_W} (h : ec_E hb_X n 39 25 [(0, .inr (.inl 65))] [] w r) : True ∧ ∃ (v : Option Value) (w1 : px_W), ec_E hb_X n 43 0 [(0, .inr (.inl 65))] [] w (v, w1) ∧ ∀ zz : Int, v = ec_R zz → ec_W hb_A w1 → ec_E hb_X n 39 29 [(0, .inr (.inl 65))] [.inl zz] w1 r := by
  have h2 := hb_ecw ((0, 1, 0, 0, 0) :: (6, 1, 43, 1, 29) :: []) (by decide +kernel) h
  exact h2
theorem eg39_1_29_0 {n : Nat} {w : px_W} {r : Option Value × px_W} {s0 : Int} (h : ec_E hb_X n 39 29 [(0, .inr (.inl 65))] [.inl s0] w r) : True ∧ ∃ (v : Option Value) (w1 : px_W), ec_E hb_X n 37 0 [(0, .inr (.inl 65)), (1, .inl 0)] [] w (v, w1) ∧ ∀ zz : Int, v = ec_R zz → ec_W hb_A w1 → ec_E hb_X n 39 35 [(0, .inr (.inl 65)), (1, .inl s0)] [.inl zz] w1 r := by
  have h2 := hb_ecw ((0, 3, 1, 0, 0) :: (0, 1, 0, 0, 0) :: (0, 2, 0, 0, 0) :: (6, 1, 37, 2, 35) :: []) (by decide +kernel) h
  exact h2
theorem eg39_1_35_0 {n : Nat} {w : px_W} {r : Option Value × px_W} {x1 s0 : Int} (h : ec_E hb_X n 39 35 [(0, .inr (.inl 65)), (1, .inl x1)] [.inl s0] w r) : ec_tw s0 = ec_tw 100 → True ∧ r = (ec_R x1, ec_pf w 1 1 (ec_fd w 1 0)) ∧ ec_W hb_A (ec_pf w 1 1 (ec_fd w 1 0)) := by
  have h2 := hb_ecw ((0, 2, 0, 0, 100) :: (4, 2, 0, 1, 0) :: (0, 1, 0, 0, 0) :: (0, 1, 0, 0, 0) :: (5, 0, 1, 0, 0) :: (5, 4, 1, 1, 0) :: (0, 0, 1, 0, 0) :: (6, 3, 0, 0, 0) :: []) (by decide +kernel) h
  exact h2
theorem eg39_1_35_1 {n : Nat} {w : px_W} {r : Option Value × px_W} {x1 s0 : Int} (h : ec_E hb_X n 39 35 [(0, .inr (.inl 65)), (1, .inl x1)] [.inl s0] w r) : ec_tw s0 ≠ ec_tw 100 → True ∧ ∃ (v : Option Value) (w1 : px_W), ec_E hb_X n 37 0 [(0, .inr (.inl 65)), (1, .inl 7)] [] w (v, w1) ∧ ∀ zz : Int, v = ec_R zz → ec_W hb_A w1 → ec_E hb_X n 39 46 [(0, .inr (.inl 65)), (1, .inl x1)] [.inl zz] w1 r := by
  have h2 := hb_ecw ((0, 2, 0, 0, 100) :: (4, 2, 1, 0, 0) :: (0, 1, 0, 0, 0) :: (0, 2, 0, 0, 7) :: (6, 1, 37, 2, 46) :: []) (by decide +kernel) h
  exact h2
theorem eg39_1_46_0 {n : Nat} {w : px_W} {r : Option Value × px_W} {x1 s0 : Int} (h : ec_E hb_X n 39 46 [(0, .inr (.inl 65)), (1, .inl x1)] [.inl s0] w r) : ec_tw s0 ≠ ec_tw 100 → True ∧ r = (ec_R x1, w) ∧ ec_W hb_A w := by
  have h2 := hb_ecw ((0, 2, 0, 0, 100) :: (4, 2, 1, 1, 0) :: (0, 0, 1, 0, 0) :: (6, 3, 0, 0, 0) :: []) (by decide +kernel) h
  exact h2
theorem eg39_1_46_1 {n : Nat} {w : px_W} {r : Option Value × px_W} {x1 s0 : Int} (h : ec_E hb_X n 39 46 [(0, .inr (.inl 65)), (1, .inl x1)] [.inl s0] w r) : ec_tw s0 = ec_tw 100 → True ∧ r = (ec_R x1, ec_pf w 1 1 (ec_fd w 1 0)) ∧ ec_W hb_A (ec_pf w 1 1 (ec_fd w 1 0)) := by
  have h2 := hb_ecw ((0, 2, 0, 0, 100) :: (4, 2, 0, 0, 0) :: (0, 1, 0, 0, 0) :: (0, 1, 0, 0, 0) :: (5, 0, 1, 0, 0) :: (5, 4, 1, 1, 0) :: (0, 0, 1, 0, 0) :: (6, 3, 0, 0, 0) :: []) (by decide +kernel) h
  exact h2
/-! X3_mayBecome -/
theorem eg33_0_0 {n : Nat} {w : px_W} {r : Option Value × px_W} {x0 x1 : Int} (h : ec_E hb_X n 33 0 [(0, .inl x0), (1, .inl x1)] [] w r) : ec_tw x0 ≠ ec_tw 0 → True ∧ ∃ (v : Option Value) (w1 : px_W), ec_E hb_X n 173 0 [(0, .inl x0), (1, .inl 1), (2, .inl 2)] [] w (v, w1) ∧ ∀ zz : Int, v = ec_R zz → ec_W hb_A w1 → ec_E hb_X n 33 20 [(0, .inl x0), (1, .inl x1)] [.inl zz] w1 r := by
  have h2 := hb_ecw ((0, 0, 0, 0, 0) :: (4, 1, 1, 1, 0) :: (0, 0, 0, 0, 0) :: (0, 2, 0, 0, 1) :: (0, 2, 0, 0, 2) :: (6, 1, 173, 3, 20) :: []) (by decide +kernel) h
  exact h2
theorem eg33_0_1 {n : Nat} {w : px_W} {r : Option Value × px_W} {x0 x1 : Int} (h : ec_E hb_X n 33 0 [(0, .inl x0), (1, .inl x1)] [] w r) : ec_tw x0 = ec_tw 0 → True ∧ ∃ (v : Option Value) (w1 : px_W), ec_E hb_X n 173 0 [(0, .inl x1), (1, .inl 10), (2, .inl 999)] [] w (v, w1) ∧ ∀ zz : Int, v = ec_R zz → ec_W hb_A w1 → ec_E hb_X n 33 13 [(0, .inl x0), (1, .inl x1)] [.inl zz] w1 r := by
  have h2 := hb_ecw ((0, 0, 0, 0, 0) :: (4, 1, 0, 0, 0) :: (0, 0, 1, 0, 0) :: (0, 2, 0, 0, 10) :: (0, 2, 0, 0, 999) :: (6, 1, 173, 3, 13) :: []) (by decide +kernel) h
  exact h2
theorem eg33_20_0 {n : Nat} {w : px_W} {r : Option Value × px_W} {x0 x1 s0 : Int} (h : ec_E hb_X n 33 20 [(0, .inl x0), (1, .inl x1)] [.inl s0] w r) : ec_tw s0 = ec_tw 0 → True ∧ r = (ec_R 0, w) ∧ ec_W hb_A w := by
  have h2 := hb_ecw ((4, 1, 0, 1, 0) :: (0, 2, 0, 0, 0) :: (6, 3, 0, 0, 0) :: []) (by decide +kernel) h
  exact h2
theorem eg33_20_1 {n : Nat} {w : px_W} {r : Option Value × px_W} {x0 x1 s0 : Int} (h : ec_E hb_X n 33 20 [(0, .inl x0), (1, .inl x1)] [.inl s0] w r) : ec_tw s0 ≠ ec_tw 0 → True ∧ ∃ (v : Option Value) (w1 : px_W), ec_E hb_X n 173 0 [(0, .inl x1), (1, .inl 0), (2, .inl 9)] [] w (v, w1) ∧ ∀ zz : Int, v = ec_R zz → ec_W hb_A w1 → ec_E hb_X n 33 30 [(0, .inl x0), (1, .inl x1)] [.inl zz] w1 r := by
  have h2 := hb_ecw ((4, 1, 1, 0, 0) :: (0, 0, 1, 0, 0) :: (0, 2, 0, 0, 0) :: (0, 2, 0, 0, 9) :: (6, 1, 173, 3, 30) :: []) (by decide +kernel) h
  exact h2
theorem eg33_13_0 {n : Nat} {w : px_W} {r : Option Value × px_W} {x0 x1 s0 : Int} (h : ec_E hb_X n 33 13 [(0, .inl x0), (1, .inl x1)] [.inl s0] w r) : True ∧ r = (ec_R s0, w) ∧ ec_W hb_A w := by
  have h2 := hb_ecw ((6, 3, 0, 0, 0) :: []) (by decide +kernel) h
  exact h2
theorem eg33_30_0 {n : Nat} {w : px_W} {r : Option Value × px_W} {x0 x1 s0 : Int} (h : ec_E hb_X n 33 30 [(0, .inl x0), (1, .inl x1)] [.inl s0] w r) : ec_tw s0 = ec_tw 0 → True ∧ r = (ec_R 0, w) ∧ ec_W hb_A w := by
  have h2 := hb_ecw ((4, 1, 0, 1, 0) :: (0, 2, 0, 0, 0) :: (6, 3, 0, 0, 0) :: []) (by decide +kernel) h
  exact h2
theorem eg33_30_1 {n : Nat} {w : px_W} {r : Option Value × px_W} {x0 x1 s0 : Int} (h : ec_E hb_X n 33 30 [(0, .inl x0), (1, .inl x1)] [.inl s0] w r) : ec_tw s0 ≠ ec_tw 0 → True ∧ r = (ec_R 1, w) ∧ ec_W hb_A w := by
  have h2 := hb_ecw ((4, 1, 1, 0, 0) :: (0, 2, 0, 0, 1) :: (4, 0, 0, 0, 0) :: (6, 3, 0, 0, 0) :: []) (by decide +kernel) h
  exact h2
/-! X3_change -/
theorem eg34_1_0_0 {n : Nat} {w : px_W} {r : Option Value × px_W} {x1 x2 x3 : Int} (h : ec_E hb_X n 34 0 [(0, .inr (.inl 65)), (1, .inl x1), (2, .inl x2), (3, .inl x3)] [] w r) : ec_tw x2 ≠ ec_tw 0 → ec_tw x2 ≠ ec_tw 1 → (((((True ∧ 0 ≤ ec_tw x1 ∧ ec_tw x1 < 8) ∧ 0 ≤ ec_tw x1 ∧ ec_tw x1 < 8) ∧ 0 ≤ ec_tw x1 ∧ ec_tw x1 < 8) ∧ 0 ≤ ec_tw x1 ∧ ec_tw x1 < 8) ∧ 0 ≤ ec_tw x1 ∧ ec_tw x1 < 8) ∧ ∃ (v : Option Value) (w1 : px_W), ec_E hb_X n 40 0 [(0, .inr (.inl 65))] [] (ec_wr (ec_wr w 5 (ec_tw x1) x3) 3 (ec_tw x1) (ec_mn (ec_rd (ec_wr w 5 (ec_tw x1) x3) 3 (ec_tw x1)) (ec_rd (ec_wr w 5 (ec_tw x1) x3) 2 (ec_tw x1)))) (v, w1) ∧ (v = none → ec_W hb_A w1 → ec_E hb_X n 34 65 [(0, .inr (.inl 65)), (1, .inl x1), (2, .inl x2), (3, .inl x3), (4, .inr (.inl 69)), (5, .inl (ec_rd w 5 (ec_tw x1)))] [] w1 r) := by
  have h2 := hb_ecw ((0, 0, 2, 0, 0) :: (4, 1, 1, 1, 0) :: (0, 0, 2, 0, 0) :: (0, 2, 0, 0, 1) :: (4, 2, 1, 1, 0) :: (0, 1, 0, 0, 0) :: (5, 1, 1, 69, 0) :: (0, 4, 4, 0, 0) :: (0, 1, 4, 0, 0) :: (0, 0, 1, 0, 0) :: (5, 2, 5, 0, 8) :: (0, 3, 5, 0, 0) :: (0, 1, 4, 0, 0) :: (0, 0, 1, 0, 0) :: (0, 0, 3, 0, 0) :: (5, 3, 5, 0, 8) :: (0, 1, 0, 0, 0) :: (5, 1, 1, 67, 0) :: (0, 0, 1, 0, 0) :: (0, 1, 0, 0, 0) :: (5, 1, 1, 67, 0) :: (0, 0, 1, 0, 0) :: (5, 2, 3, 0, 8) :: (0, 1, 0, 0, 0) :: (5, 1, 1, 66, 0) :: (0, 0, 1, 0, 0) :: (5, 2, 2, 0, 8) :: (3, 6, 0, 0, 0) :: (5, 3, 3, 0, 8) :: (0, 1, 0, 0, 0) :: (6, 2, 40, 1, 65) :: []) (by decide +kernel) h
  exact h2
theorem eg34_1_0_1 {n : Nat} {w : px_W} {r : Option Value × px_W} {x1 x2 x3 : Int} (h : ec_E hb_X n 34 0 [(0, .inr (.inl 65)), (1, .inl x1), (2, .inl x2), (3, .inl x3)] [] w r) : ec_tw x2 ≠ ec_tw 0 → ec_tw x2 = ec_tw 1 → (((((True ∧ 0 ≤ ec_tw x1 ∧ ec_tw x1 < 8) ∧ 0 ≤ ec_tw x1 ∧ ec_tw x1 < 8) ∧ 0 ≤ ec_tw x1 ∧ ec_tw x1 < 8) ∧ 0 ≤ ec_tw x1 ∧ ec_tw x1 < 8) ∧ 0 ≤ ec_tw x1 ∧ ec_tw x1 < 8) ∧ ∃ (v : Option Value) (w1 : px_W), ec_E hb_X n 40 0 [(0, .inr (.inl 65))] [] (ec_wr (ec_wr w 4 (ec_tw x1) x3) 3 (ec_tw x1) (ec_mn (ec_rd (ec_wr w 4 (ec_tw x1) x3) 3 (ec_tw x1)) (ec_rd (ec_wr w 4 (ec_tw x1) x3) 2 (ec_tw x1)))) (v, w1) ∧ (v = none → ec_W hb_A w1 → ec_E hb_X n 34 65 [(0, .inr (.inl 65)), (1, .inl x1), (2, .inl x2), (3, .inl x3), (4, .inr (.inl 68)), (5, .inl (ec_rd w 4 (ec_tw x1)))] [] w1 r) := by
  have h2 := hb_ecw ((0, 0, 2, 0, 0) :: (4, 1, 1, 1, 0) :: (0, 0, 2, 0, 0) :: (0, 2, 0, 0, 1) :: (4, 2, 0, 0, 0) :: (0, 1, 0, 0, 0) :: (5, 1, 1, 68, 0) :: (4, 0, 0, 0, 0) :: (0, 4, 4, 0, 0) :: (0, 1, 4, 0, 0) :: (0, 0, 1, 0, 0) :: (5, 2, 4, 0, 8) :: (0, 3, 5, 0, 0) :: (0, 1, 4, 0, 0) :: (0, 0, 1, 0, 0) :: (0, 0, 3, 0, 0) :: (5, 3, 4, 0, 8) :: (0, 1, 0, 0, 0) :: (5, 1, 1, 67, 0) :: (0, 0, 1, 0, 0) :: (0, 1, 0, 0, 0) :: (5, 1, 1, 67, 0) :: (0, 0, 1, 0, 0) :: (5, 2, 3, 0, 8) :: (0, 1, 0, 0, 0) :: (5, 1, 1, 66, 0) :: (0, 0, 1, 0, 0) :: (5, 2, 2, 0, 8) :: (3, 6, 0, 0, 0) :: (5, 3, 3, 0, 8) :: (0, 1, 0, 0, 0) :: (6, 2, 40, 1, 65) :: []) (by decide +kernel) h
  exact h2
theorem eg34_1_0_2 {n : Nat} {w : px_W} {r : Option Value × px_W} {x1 x2 x3 : Int} (h : ec_E hb_X n 34 0 [(0, .inr (.inl 65)), (1, .inl x1), (2, .inl x2), (3, .inl x3)] [] w r) : ec_tw x2 = ec_tw 0 → (((((True ∧ 0 ≤ ec_tw x1 ∧ ec_tw x1 < 8) ∧ 0 ≤ ec_tw x1 ∧ ec_tw x1 < 8) ∧ 0 ≤ ec_tw x1 ∧ ec_tw x1 < 8) ∧ 0 ≤ ec_tw x1 ∧ ec_tw x1 < 8) ∧ 0 ≤ ec_tw x1 ∧ ec_tw x1 < 8) ∧ ∃ (v : Option Value) (w1 : px_W), ec_E hb_X n 40 0 [(0, .inr (.inl 65))] [] (ec_wr (ec_wr w 2 (ec_tw x1) x3) 3 (ec_tw x1) (ec_mn (ec_rd (ec_wr w 2 (ec_tw x1) x3) 3 (ec_tw x1)) (ec_rd (ec_wr w 2 (ec_tw x1) x3) 2 (ec_tw x1)))) (v, w1) ∧ (v = none → ec_W hb_A w1 → ec_E hb_X n 34 65 [(0, .inr (.inl 65)), (1, .inl x1), (2, .inl x2), (3, .inl x3), (4, .inr (.inl 66)), (5, .inl (ec_rd w 2 (ec_tw x1)))] [] w1 r) := by
  have h2 := hb_ecw ((0, 0, 2, 0, 0) :: (4, 1, 0, 0, 0) :: (0, 1, 0, 0, 0) :: (5, 1, 1, 66, 0) :: (4, 0, 0, 0, 0) :: (0, 4, 4, 0, 0) :: (0, 1, 4, 0, 0) :: (0, 0, 1, 0, 0) :: (5, 2, 2, 0, 8) :: (0, 3, 5, 0, 0) :: (0, 1, 4, 0, 0) :: (0, 0, 1, 0, 0) :: (0, 0, 3, 0, 0) :: (5, 3, 2, 0, 8) :: (0, 1, 0, 0, 0) :: (5, 1, 1, 67, 0) :: (0, 0, 1, 0, 0) :: (0, 1, 0, 0, 0) :: (5, 1, 1, 67, 0) :: (0, 0, 1, 0, 0) :: (5, 2, 3, 0, 8) :: (0, 1, 0, 0, 0) :: (5, 1, 1, 66, 0) :: (0, 0, 1, 0, 0) :: (5, 2, 2, 0, 8) :: (3, 6, 0, 0, 0) :: (5, 3, 3, 0, 8) :: (0, 1, 0, 0, 0) :: (6, 2, 40, 1, 65) :: []) (by decide +kernel) h
  exact h2
theorem eg34_1_65_0 {n : Nat} {w : px_W} {r : Option Value × px_W} {x1 x2 x3 x5 : Int} (h : ec_E hb_X n 34 65 [(0, .inr (.inl 65)), (1, .inl x1), (2, .inl x2), (3, .inl x3), (4, .inr (.inl 69)), (5, .inl x5)] [] w r) : True ∧ r = (ec_R x5, w) ∧ ec_W hb_A w := by
  have h2 := hb_ecw ((0, 0, 5, 0, 0) :: (6, 3, 0, 0, 0) :: []) (by decide +kernel) h
  exact h2
theorem eg34_1_65b_0 {n : Nat} {w : px_W} {r : Option Value × px_W} {x1 x2 x3 x5 : Int} (h : ec_E hb_X n 34 65 [(0, .inr (.inl 65)), (1, .inl x1), (2, .inl x2), (3, .inl x3), (4, .inr (.inl 68)), (5, .inl x5)] [] w r) : True ∧ r = (ec_R x5, w) ∧ ec_W hb_A w := by
  have h2 := hb_ecw ((0, 0, 5, 0, 0) :: (6, 3, 0, 0, 0) :: []) (by decide +kernel) h
  exact h2
theorem eg34_1_65c_0 {n : Nat} {w : px_W} {r : Option Value × px_W} {x1 x2 x3 x5 : Int} (h : ec_E hb_X n 34 65 [(0, .inr (.inl 65)), (1, .inl x1), (2, .inl x2), (3, .inl x3), (4, .inr (.inl 66)), (5, .inl x5)] [] w r) : True ∧ r = (ec_R x5, w) ∧ ec_W hb_A w := by
  have h2 := hb_ecw ((0, 0, 5, 0, 0) :: (6, 3, 0, 0, 0) :: []) (by decide +kernel) h
  exact h2
/-! X9_forgetExplanation -/
theorem eg110_10_0_0 {n : Nat} {w : px_W} {r : Option Value × px_W} (h : ec_E hb_X n 110 0 [(0, .inr (.inl 74))] [] w r) : True ∧ r = (none, ec_pf w 10 3 0) ∧ ec_W hb_A (ec_pf w 10 3 0) := by
  have h2 := hb_ecw ((0, 1, 0, 0, 0) :: (0, 2, 0, 0, 0) :: (5, 4, 10, 3, 0) :: (6, 4, 0, 0, 0) :: []) (by decide +kernel) h
  exact h2
/-! X11_minutes -/
theorem eg121_0_0_0 {n : Nat} {w : px_W} {r : Option Value × px_W} {x1 : Int} (h : ec_E hb_X n 121 0 [(0, .inr (.inl 64)), (1, .inl x1)] [] w r) : True ∧ ∃ (v : Option Value) (w1 : px_W), ec_E hb_X n 173 0 [(0, .inl x1), (1, .inl 1), (2, .inl 200)] [] w (v, w1) ∧ ∀ zz : Int, v = ec_R zz → ec_W hb_A w1 → ec_E hb_X n 121 8 [(0, .inr (.inl 64)), (1, .inl x1)] [.inl zz] w1 r := by
  have h2 := hb_ecw ((0, 0, 1, 0, 0) :: (0, 2, 0, 0, 1) :: (0, 2, 0, 0, 200) :: (6, 1, 173, 3, 8) :: []) (by decide +kernel) h
  exact h2
theorem eg121_0_8_0 {n : Nat} {w : px_W} {r : Option Value × px_W} {x1 s0 : Int} (h : ec_E hb_X n 121 8 [(0, .inr (.inl 64)), (1, .inl x1)] [.inl s0] w r) : ec_tw s0 ≠ ec_tw 0 → ec_tw ((ec_fd w 1 0) + x1) ≤ ec_tw 999 → True ∧ ec_E hb_X n 121 33 [(0, .inr (.inl 64)), (1, .inl x1), (2, .inl 0)] [] w r := by
  have h2 := hb_ecw ((4, 1, 1, 1, 0) :: (0, 1, 0, 0, 0) :: (5, 1, 0, 65, 0) :: (5, 0, 1, 0, 0) :: (0, 0, 1, 0, 0) :: (1, 0, 0, 0, 0) :: (0, 2, 0, 0, 999) :: (4, 2, 5, 1, 0) :: (0, 2, 0, 0, 0) :: (0, 3, 2, 0, 0) :: (6, 0, 33, 3, 0) :: []) (by decide +kernel) h
  exact h2
theorem eg121_0_8_1 {n : Nat} {w : px_W} {r : Option Value × px_W} {x1 s0 : Int} (h : ec_E hb_X n 121 8 [(0, .inr (.inl 64)), (1, .inl x1)] [.inl s0] w r) : ec_tw s0 ≠ ec_tw 0 → ec_tw 999 < ec_tw ((ec_fd w 1 0) + x1) → True ∧ r = (ec_R (-4), w) ∧ ec_W hb_A w := by
  have h2 := hb_ecw ((4, 1, 1, 1, 0) :: (0, 1, 0, 0, 0) :: (5, 1, 0, 65, 0) :: (5, 0, 1, 0, 0) :: (0, 0, 1, 0, 0) :: (1, 0, 0, 0, 0) :: (0, 2, 0, 0, 999) :: (4, 2, 4, 0, 0) :: (0, 2, 0, 0, (-4)) :: (6, 3, 0, 0, 0) :: []) (by decide +kernel) h
  exact h2
theorem eg121_0_8_2 {n : Nat} {w : px_W} {r : Option Value × px_W} {x1 s0 : Int} (h : ec_E hb_X n 121 8 [(0, .inr (.inl 64)), (1, .inl x1)] [.inl s0] w r) : ec_tw s0 = ec_tw 0 → True ∧ r = (ec_R (-1), w) ∧ ec_W hb_A w := by
  have h2 := hb_ecw ((4, 1, 0, 0, 0) :: (0, 2, 0, 0, (-1)) :: (6, 3, 0, 0, 0) :: []) (by decide +kernel) h
  exact h2
theorem eg121_0_33_0 {n : Nat} {w : px_W} {r : Option Value × px_W} {x1 x2 : Int} (h : ec_E hb_X n 121 33 [(0, .inr (.inl 64)), (1, .inl x1), (2, .inl x2)] [] w r) : ec_tw x1 ≤ ec_tw x2 → True ∧ r = (ec_R (ec_fd w 1 0), w) ∧ ec_W hb_A w := by
  have h2 := hb_ecw ((0, 0, 2, 0, 0) :: (0, 0, 1, 0, 0) :: (4, 2, 3, 1, 0) :: (0, 1, 0, 0, 0) :: (5, 1, 0, 65, 0) :: (5, 0, 1, 0, 0) :: (6, 3, 0, 0, 0) :: []) (by decide +kernel) h
  exact h2
theorem eg121_0_33_1 {n : Nat} {w : px_W} {r : Option Value × px_W} {x1 x2 : Int} (h : ec_E hb_X n 121 33 [(0, .inr (.inl 64)), (1, .inl x1), (2, .inl x2)] [] w r) : ec_tw x2 < ec_tw x1 → True ∧ ∃ (v : Option Value) (w1 : px_W), ec_E hb_X n 39 0 [(0, .inr (.inl 65))] [] w (v, w1) ∧ ∀ zz : Int, v = ec_R zz → ec_W hb_A w1 → ec_E hb_X n 121 45 [(0, .inr (.inl 64)), (1, .inl x1), (2, .inl x2)] [.inl zz] w1 r := by
  have h2 := hb_ecw ((0, 0, 2, 0, 0) :: (0, 0, 1, 0, 0) :: (4, 2, 2, 0, 0) :: (0, 1, 0, 0, 0) :: (5, 1, 0, 65, 0) :: (6, 1, 39, 1, 45) :: []) (by decide +kernel) h
  exact h2
theorem eg121_0_45_0 {n : Nat} {w : px_W} {r : Option Value × px_W} {x1 x2 s0 : Int} (h : ec_E hb_X n 121 45 [(0, .inr (.inl 64)), (1, .inl x1), (2, .inl x2)] [.inl s0] w r) : True ∧ ec_E hb_X n 121 33 [(0, .inr (.inl 64)), (1, .inl x1), (2, .inl (x2 + 1))] [] w r := by
  have h2 := hb_ecw ((3, 1, 0, 0, 0) :: (0, 5, 2, 0, 1) :: (4, 0, 0, 0, 0) :: (6, 0, 33, 3, 0) :: []) (by decide +kernel) h
  exact h2
/-! X11_set -/
theorem eg122_0_0_0 {n : Nat} {w : px_W} {r : Option Value × px_W} {x1 x2 x3 : Int} (h : ec_E hb_X n 122 0 [(0, .inr (.inl 64)), (1, .inl x1), (2, .inl x2), (3, .inl x3)] [] w r) : True ∧ ∃ (v : Option Value) (w1 : px_W), ec_E hb_X n 173 0 [(0, .inl x1), (1, .inl 0), (2, .inl 7)] [] w (v, w1) ∧ ∀ zz : Int, v = ec_R zz → ec_W hb_A w1 → ec_E hb_X n 122 7 [(0, .inr (.inl 64)), (1, .inl x1), (2, .inl x2), (3, .inl x3)] [.inl zz] w1 r := by
  have h2 := hb_ecw ((0, 0, 1, 0, 0) :: (0, 2, 0, 0, 0) :: (0, 2, 0, 0, 7) :: (6, 1, 173, 3, 7) :: []) (by decide +kernel) h
  exact h2
theorem eg122_0_7_0 {n : Nat} {w : px_W} {r : Option Value × px_W} {x1 x2 x3 s0 : Int} (h : ec_E hb_X n 122 7 [(0, .inr (.inl 64)), (1, .inl x1), (2, .inl x2), (3, .inl x3)] [.inl s0] w r) : ec_tw s0 = ec_tw 0 → True ∧ r = (ec_R (-1), w) ∧ ec_W hb_A w := by
  have h2 := hb_ecw ((4, 1, 0, 1, 0) :: (0, 2, 0, 0, (-1)) :: (6, 3, 0, 0, 0) :: []) (by decide +kernel) h
  exact h2
theorem eg122_0_7_1 {n : Nat} {w : px_W} {r : Option Value × px_W} {x1 x2 x3 s0 : Int} (h : ec_E hb_X n 122 7 [(0, .inr (.inl 64)), (1, .inl x1), (2, .inl x2), (3, .inl x3)] [.inl s0] w r) : ec_tw s0 ≠ ec_tw 0 → True ∧ ∃ (v : Option Value) (w1 : px_W), ec_E hb_X n 33 0 [(0, .inl x2), (1, .inl x3)] [] w (v, w1) ∧ ∀ zz : Int, v = ec_R zz → ec_W hb_A w1 → ec_E hb_X n 122 15 [(0, .inr (.inl 64)), (1, .inl x1), (2, .inl x2), (3, .inl x3)] [.inl zz] w1 r := by
  have h2 := hb_ecw ((4, 1, 1, 0, 0) :: (0, 0, 2, 0, 0) :: (0, 0, 3, 0, 0) :: (6, 1, 33, 2, 15) :: []) (by decide +kernel) h
  exact h2
theorem eg122_0_15_0 {n : Nat} {w : px_W} {r : Option Value × px_W} {x1 x2 x3 s0 : Int} (h : ec_E hb_X n 122 15 [(0, .inr (.inl 64)), (1, .inl x1), (2, .inl x2), (3, .inl x3)] [.inl s0] w r) : ec_tw s0 ≠ ec_tw 0 → True ∧ ∃ (v : Option Value) (w1 : px_W), ec_E hb_X n 110 0 [(0, .inr (.inl 74))] [] w (v, w1) ∧ (v = none → ec_W hb_A w1 → ec_E hb_X n 122 27 [(0, .inr (.inl 64)), (1, .inl x1), (2, .inl x2), (3, .inl x3)] [] w1 r) := by
  have h2 := hb_ecw ((4, 1, 1, 1, 0) :: (0, 1, 0, 0, 0) :: (5, 1, 0, 74, 0) :: (6, 2, 110, 1, 27) :: []) (by decide +kernel) h
  exact h2
theorem eg122_0_15_1 {n : Nat} {w : px_W} {r : Option Value × px_W} {x1 x2 x3 s0 : Int} (h : ec_E hb_X n 122 15 [(0, .inr (.inl 64)), (1, .inl x1), (2, .inl x2), (3, .inl x3)] [.inl s0] w r) : ec_tw s0 = ec_tw 0 → True ∧ r = (ec_R (-1), w) ∧ ec_W hb_A w := by
  have h2 := hb_ecw ((4, 1, 0, 0, 0) :: (0, 2, 0, 0, (-1)) :: (6, 3, 0, 0, 0) :: []) (by decide +kernel) h
  exact h2
theorem eg122_0_27_0 {n : Nat} {w : px_W} {r : Option Value × px_W} {x1 x2 x3 : Int} (h : ec_E hb_X n 122 27 [(0, .inr (.inl 64)), (1, .inl x1), (2, .inl x2), (3, .inl x3)] [] w r) : True ∧ ∃ (v : Option Value) (w1 : px_W), ec_E hb_X n 34 0 [(0, .inr (.inl 65)), (1, .inl x1), (2, .inl x2), (3, .inl x3)] [] w (v, w1) ∧ ∀ zz : Int, v = ec_R zz → ec_W hb_A w1 → ec_E hb_X n 122 37 [(0, .inr (.inl 64)), (1, .inl x1), (2, .inl x2), (3, .inl x3)] [.inl zz] w1 r := by
  have h2 := hb_ecw ((0, 1, 0, 0, 0) :: (5, 1, 0, 65, 0) :: (0, 0, 1, 0, 0) :: (0, 0, 2, 0, 0) :: (0, 0, 3, 0, 0) :: (6, 1, 34, 4, 37) :: []) (by decide +kernel) h
  exact h2
theorem eg122_0_37_0 {n : Nat} {w : px_W} {r : Option Value × px_W} {x1 x2 x3 s0 : Int} (h : ec_E hb_X n 122 37 [(0, .inr (.inl 64)), (1, .inl x1), (2, .inl x2), (3, .inl x3)] [.inl s0] w r) : True ∧ r = (ec_R s0, w) ∧ ec_W hb_A w := by
  have h2 := hb_ecw ((6, 3, 0, 0, 0) :: []) (by decide +kernel) h
  exact h2
/-! X11_wall -/
theorem eg123_0_0_0 {n : Nat} {w : px_W} {r : Option Value × px_W} {x1 x2 : Int} (h : ec_E hb_X n 123 0 [(0, .inr (.inl 64)), (1, .inl x1), (2, .inl x2)] [] w r) : True ∧ ∃ (v : Option Value) (w1 : px_W), ec_E hb_X n 173 0 [(0, .inl x1), (1, .inl 0), (2, .inl 6)] [] w (v, w1) ∧ ∀ zz : Int, v = ec_R zz → ec_W hb_A w1 → ec_E hb_X n 123 7 [(0, .inr (.inl 64)), (1, .inl x1), (2, .inl x2)] [.inl zz] w1 r := by
  have h2 := hb_ecw ((0, 0, 1, 0, 0) :: (0, 2, 0, 0, 0) :: (0, 2, 0, 0, 6) :: (6, 1, 173, 3, 7) :: []) (by decide +kernel) h
  exact h2
theorem eg123_0_7_0 {n : Nat} {w : px_W} {r : Option Value × px_W} {x1 x2 s0 : Int} (h : ec_E hb_X n 123 7 [(0, .inr (.inl 64)), (1, .inl x1), (2, .inl x2)] [.inl s0] w r) : ec_tw s0 = ec_tw 0 → True ∧ r = (ec_R (-1), w) ∧ ec_W hb_A w := by
  have h2 := hb_ecw ((4, 1, 0, 1, 0) :: (0, 2, 0, 0, (-1)) :: (6, 3, 0, 0, 0) :: []) (by decide +kernel) h
  exact h2
theorem eg123_0_7_1 {n : Nat} {w : px_W} {r : Option Value × px_W} {x1 x2 s0 : Int} (h : ec_E hb_X n 123 7 [(0, .inr (.inl 64)), (1, .inl x1), (2, .inl x2)] [.inl s0] w r) : ec_tw s0 ≠ ec_tw 0 → True ∧ ∃ (v : Option Value) (w1 : px_W), ec_E hb_X n 173 0 [(0, .inl x2), (1, .inl 0), (2, .inl 100)] [] w (v, w1) ∧ ∀ zz : Int, v = ec_R zz → ec_W hb_A w1 → ec_E hb_X n 123 17 [(0, .inr (.inl 64)), (1, .inl x1), (2, .inl x2)] [.inl zz] w1 r := by
  have h2 := hb_ecw ((4, 1, 1, 0, 0) :: (0, 0, 2, 0, 0) :: (0, 2, 0, 0, 0) :: (0, 2, 0, 0, 100) :: (6, 1, 173, 3, 17) :: []) (by decide +kernel) h
  exact h2
theorem eg123_0_17_0 {n : Nat} {w : px_W} {r : Option Value × px_W} {x1 x2 s0 : Int} (h : ec_E hb_X n 123 17 [(0, .inr (.inl 64)), (1, .inl x1), (2, .inl x2)] [.inl s0] w r) : ec_tw s0 ≠ ec_tw 0 → ((True ∧ 0 ≤ ec_tw x1 ∧ ec_tw x1 < 7) ∧ 0 ≤ ec_tw x1 ∧ ec_tw x1 < 7) ∧ ∃ (v : Option Value) (w1 : px_W), ec_E hb_X n 110 0 [(0, .inr (.inl 74))] [] (ec_wr w 6 (ec_tw x1) x2) (v, w1) ∧ (v = none → ec_W hb_A w1 → ec_E hb_X n 123 49 [(0, .inr (.inl 64)), (1, .inl x1), (2, .inl x2), (3, .inl (ec_rd w 6 (ec_tw x1)))] [] w1 r) := by
  have h2 := hb_ecw ((4, 1, 1, 1, 0) :: (0, 1, 0, 0, 0) :: (5, 1, 0, 65, 0) :: (5, 1, 1, 70, 0) :: (0, 0, 1, 0, 0) :: (5, 2, 6, 0, 7) :: (0, 3, 3, 0, 0) :: (0, 1, 0, 0, 0) :: (5, 1, 0, 65, 0) :: (5, 1, 1, 70, 0) :: (0, 0, 1, 0, 0) :: (0, 0, 2, 0, 0) :: (5, 3, 6, 0, 7) :: (0, 1, 0, 0, 0) :: (5, 1, 0, 74, 0) :: (6, 2, 110, 1, 49) :: []) (by decide +kernel) h
  exact h2
theorem eg123_0_17_1 {n : Nat} {w : px_W} {r : Option Value × px_W} {x1 x2 s0 : Int} (h : ec_E hb_X n 123 17 [(0, .inr (.inl 64)), (1, .inl x1), (2, .inl x2)] [.inl s0] w r) : ec_tw s0 = ec_tw 0 → True ∧ r = (ec_R (-1), w) ∧ ec_W hb_A w := by
  have h2 := hb_ecw ((4, 1, 0, 0, 0) :: (0, 2, 0, 0, (-1)) :: (6, 3, 0, 0, 0) :: []) (by decide +kernel) h
  exact h2
theorem eg123_0_49_0 {n : Nat} {w : px_W} {r : Option Value × px_W} {x1 x2 x3 : Int} (h : ec_E hb_X n 123 49 [(0, .inr (.inl 64)), (1, .inl x1), (2, .inl x2), (3, .inl x3)] [] w r) : True ∧ r = (ec_R x3, w) ∧ ec_W hb_A w := by
  have h2 := hb_ecw ((0, 0, 3, 0, 0) :: (6, 3, 0, 0, 0) :: []) (by decide +kernel) h
  exact h2
/-! X11_door -/
theorem eg124_0_0_0 {n : Nat} {w : px_W} {r : Option Value × px_W} {x1 x2 : Int} (h : ec_E hb_X n 124 0 [(0, .inr (.inl 64)), (1, .inl x1), (2, .inl x2)] [] w r) : True ∧ ∃ (v : Option Value) (w1 : px_W), ec_E hb_X n 173 0 [(0, .inl x1), (1, .inl 0), (2, .inl 6)] [] w (v, w1) ∧ ∀ zz : Int, v = ec_R zz → ec_W hb_A w1 → ec_E hb_X n 124 7 [(0, .inr (.inl 64)), (1, .inl x1), (2, .inl x2)] [.inl zz] w1 r := by
  have h2 := hb_ecw ((0, 0, 1, 0, 0) :: (0, 2, 0, 0, 0) :: (0, 2, 0, 0, 6) :: (6, 1, 173, 3, 7) :: []) (by decide +kernel) h
  exact h2
theorem eg124_0_7_0 {n : Nat} {w : px_W} {r : Option Value × px_W} {x1 x2 s0 : Int} (h : ec_E hb_X n 124 7 [(0, .inr (.inl 64)), (1, .inl x1), (2, .inl x2)] [.inl s0] w r) : ec_tw s0 ≠ ec_tw 0 → ec_tw x2 = ec_tw 0 → ((True ∧ 0 ≤ ec_tw x1 ∧ ec_tw x1 < 7) ∧ 0 ≤ ec_tw x1 ∧ ec_tw x1 < 7) ∧ ∃ (v : Option Value) (w1 : px_W), ec_E hb_X n 110 0 [(0, .inr (.inl 74))] [] (ec_wr w 7 (ec_tw x1) 0) (v, w1) ∧ (v = none → ec_W hb_A w1 → ec_E hb_X n 124 47 [(0, .inr (.inl 64)), (1, .inl x1), (2, .inl x2), (3, .inl (ec_rd w 7 (ec_tw x1)))] [] w1 r) := by
  have h2 := hb_ecw ((4, 1, 1, 1, 0) :: (0, 1, 0, 0, 0) :: (5, 1, 0, 65, 0) :: (5, 1, 1, 71, 0) :: (0, 0, 1, 0, 0) :: (5, 2, 7, 0, 7) :: (0, 3, 3, 0, 0) :: (0, 1, 0, 0, 0) :: (5, 1, 0, 65, 0) :: (5, 1, 1, 71, 0) :: (0, 0, 1, 0, 0) :: (0, 0, 2, 0, 0) :: (4, 1, 0, 1, 0) :: (0, 2, 0, 0, 0) :: (5, 3, 7, 0, 7) :: (0, 1, 0, 0, 0) :: (5, 1, 0, 74, 0) :: (6, 2, 110, 1, 47) :: []) (by decide +kernel) h
  exact h2
theorem eg124_0_7_1 {n : Nat} {w : px_W} {r : Option Value × px_W} {x1 x2 s0 : Int} (h : ec_E hb_X n 124 7 [(0, .inr (.inl 64)), (1, .inl x1), (2, .inl x2)] [.inl s0] w r) : ec_tw s0 ≠ ec_tw 0 → ec_tw x2 ≠ ec_tw 0 → ((True ∧ 0 ≤ ec_tw x1 ∧ ec_tw x1 < 7) ∧ 0 ≤ ec_tw x1 ∧ ec_tw x1 < 7) ∧ ∃ (v : Option Value) (w1 : px_W), ec_E hb_X n 110 0 [(0, .inr (.inl 74))] [] (ec_wr w 7 (ec_tw x1) 1) (v, w1) ∧ (v = none → ec_W hb_A w1 → ec_E hb_X n 124 47 [(0, .inr (.inl 64)), (1, .inl x1), (2, .inl x2), (3, .inl (ec_rd w 7 (ec_tw x1)))] [] w1 r) := by
  have h2 := hb_ecw ((4, 1, 1, 1, 0) :: (0, 1, 0, 0, 0) :: (5, 1, 0, 65, 0) :: (5, 1, 1, 71, 0) :: (0, 0, 1, 0, 0) :: (5, 2, 7, 0, 7) :: (0, 3, 3, 0, 0) :: (0, 1, 0, 0, 0) :: (5, 1, 0, 65, 0) :: (5, 1, 1, 71, 0) :: (0, 0, 1, 0, 0) :: (0, 0, 2, 0, 0) :: (4, 1, 1, 0, 0) :: (0, 2, 0, 0, 1) :: (4, 0, 0, 0, 0) :: (5, 3, 7, 0, 7) :: (0, 1, 0, 0, 0) :: (5, 1, 0, 74, 0) :: (6, 2, 110, 1, 47) :: []) (by decide +kernel) h
  exact h2
theorem eg124_0_7_2 {n : Nat} {w : px_W} {r : Option Value × px_W} {x1 x2 s0 : Int} (h : ec_E hb_X n 124 7 [(0, .inr (.inl 64)), (1, .inl x1), (2, .inl x2)] [.inl s0] w r) : ec_tw s0 = ec_tw 0 → True ∧ r = (ec_R (-1), w) ∧ ec_W hb_A w := by
  have h2 := hb_ecw ((4, 1, 0, 0, 0) :: (0, 2, 0, 0, (-1)) :: (6, 3, 0, 0, 0) :: []) (by decide +kernel) h
  exact h2
theorem eg124_0_47_0 {n : Nat} {w : px_W} {r : Option Value × px_W} {x1 x2 x3 : Int} (h : ec_E hb_X n 124 47 [(0, .inr (.inl 64)), (1, .inl x1), (2, .inl x2), (3, .inl x3)] [] w r) : True ∧ r = (ec_R x3, w) ∧ ec_W hb_A w := by
  have h2 := hb_ecw ((0, 0, 3, 0, 0) :: (6, 3, 0, 0, 0) :: []) (by decide +kernel) h
  exact h2
/-! X11_cell -/
theorem eg125_0_0_0 {n : Nat} {w : px_W} {r : Option Value × px_W} {x1 x2 : Int} (h : ec_E hb_X n 125 0 [(0, .inr (.inl 64)), (1, .inl x1), (2, .inl x2)] [] w r) : True ∧ ∃ (v : Option Value) (w1 : px_W), ec_E hb_X n 173 0 [(0, .inl x1), (1, .inl 0), (2, .inl 7)] [] w (v, w1) ∧ ∀ zz : Int, v = ec_R zz → ec_W hb_A w1 → ec_E hb_X n 125 7 [(0, .inr (.inl 64)), (1, .inl x1), (2, .inl x2)] [.inl zz] w1 r := by
  have h2 := hb_ecw ((0, 0, 1, 0, 0) :: (0, 2, 0, 0, 0) :: (0, 2, 0, 0, 7) :: (6, 1, 173, 3, 7) :: []) (by decide +kernel) h
  exact h2
theorem eg125_0_7_0 {n : Nat} {w : px_W} {r : Option Value × px_W} {x1 x2 s0 : Int} (h : ec_E hb_X n 125 7 [(0, .inr (.inl 64)), (1, .inl x1), (2, .inl x2)] [.inl s0] w r) : ec_tw s0 = ec_tw 0 → True ∧ r = (ec_R (-1), w) ∧ ec_W hb_A w := by
  have h2 := hb_ecw ((4, 1, 0, 1, 0) :: (0, 2, 0, 0, (-1)) :: (6, 3, 0, 0, 0) :: []) (by decide +kernel) h
  exact h2
theorem eg125_0_7_1 {n : Nat} {w : px_W} {r : Option Value × px_W} {x1 x2 s0 : Int} (h : ec_E hb_X n 125 7 [(0, .inr (.inl 64)), (1, .inl x1), (2, .inl x2)] [.inl s0] w r) : ec_tw s0 ≠ ec_tw 0 → True ∧ ∃ (v : Option Value) (w1 : px_W), ec_E hb_X n 173 0 [(0, .inl x2), (1, .inl 0), (2, .inl 2)] [] w (v, w1) ∧ ∀ zz : Int, v = ec_R zz → ec_W hb_A w1 → ec_E hb_X n 125 16 [(0, .inr (.inl 64)), (1, .inl x1), (2, .inl x2)] [.inl zz] w1 r := by
  have h2 := hb_ecw ((4, 1, 1, 0, 0) :: (0, 0, 2, 0, 0) :: (0, 2, 0, 0, 0) :: (0, 2, 0, 0, 2) :: (6, 1, 173, 3, 16) :: []) (by decide +kernel) h
  exact h2
theorem eg125_0_16_0 {n : Nat} {w : px_W} {r : Option Value × px_W} {x1 x2 s0 : Int} (h : ec_E hb_X n 125 16 [(0, .inr (.inl 64)), (1, .inl x1), (2, .inl x2)] [.inl s0] w r) : ec_tw s0 ≠ ec_tw 0 → ec_tw x2 ≠ ec_tw 0 → ec_tw x2 ≠ ec_tw 1 → True ∧ ∃ (v : Option Value) (w1 : px_W), ec_E hb_X n 37 0 [(0, .inr (.inl 65)), (1, .inl x1)] [] w (v, w1) ∧ ∀ zz : Int, v = ec_R zz → ec_W hb_A w1 → ec_E hb_X n 125 59 [(0, .inr (.inl 64)), (1, .inl x1), (2, .inl x2)] [.inl zz] w1 r := by
  have h2 := hb_ecw ((4, 1, 1, 1, 0) :: (0, 0, 2, 0, 0) :: (4, 1, 1, 1, 0) :: (0, 0, 2, 0, 0) :: (0, 2, 0, 0, 1) :: (4, 2, 1, 1, 0) :: (0, 1, 0, 0, 0) :: (5, 1, 0, 65, 0) :: (0, 0, 1, 0, 0) :: (6, 1, 37, 2, 59) :: []) (by decide +kernel) h
  exact h2
theorem eg125_0_16_1 {n : Nat} {w : px_W} {r : Option Value × px_W} {x1 x2 s0 : Int} (h : ec_E hb_X n 125 16 [(0, .inr (.inl 64)), (1, .inl x1), (2, .inl x2)] [.inl s0] w r) : ec_tw s0 ≠ ec_tw 0 → ec_tw x2 ≠ ec_tw 0 → ec_tw x2 = ec_tw 1 → True ∧ ∃ (v : Option Value) (w1 : px_W), ec_E hb_X n 36 0 [(0, .inr (.inl 65)), (1, .inl x1)] [] w (v, w1) ∧ ∀ zz : Int, v = ec_R zz → ec_W hb_A w1 → ec_E hb_X n 125 48 [(0, .inr (.inl 64)), (1, .inl x1), (2, .inl x2)] [.inl zz] w1 r := by
  have h2 := hb_ecw ((4, 1, 1, 1, 0) :: (0, 0, 2, 0, 0) :: (4, 1, 1, 1, 0) :: (0, 0, 2, 0, 0) :: (0, 2, 0, 0, 1) :: (4, 2, 0, 0, 0) :: (0, 1, 0, 0, 0) :: (5, 1, 0, 65, 0) :: (0, 0, 1, 0, 0) :: (6, 1, 36, 2, 48) :: []) (by decide +kernel) h
  exact h2
theorem eg125_0_16_2 {n : Nat} {w : px_W} {r : Option Value × px_W} {x1 x2 s0 : Int} (h : ec_E hb_X n 125 16 [(0, .inr (.inl 64)), (1, .inl x1), (2, .inl x2)] [.inl s0] w r) : ec_tw s0 ≠ ec_tw 0 → ec_tw x2 = ec_tw 0 → (True ∧ 0 ≤ ec_tw x1 ∧ ec_tw x1 < 8) ∧ r = (ec_R (ec_rd w 3 (ec_tw x1)), w) ∧ ec_W hb_A w := by
  have h2 := hb_ecw ((4, 1, 1, 1, 0) :: (0, 0, 2, 0, 0) :: (4, 1, 0, 0, 0) :: (0, 1, 0, 0, 0) :: (5, 1, 0, 65, 0) :: (5, 1, 1, 67, 0) :: (0, 0, 1, 0, 0) :: (5, 2, 3, 0, 8) :: (6, 3, 0, 0, 0) :: []) (by decide +kernel) h
  exact h2
theorem eg125_0_16_3 {n : Nat} {w : px_W} {r : Option Value × px_W} {x1 x2 s0 : Int} (h : ec_E hb_X n 125 16 [(0, .inr (.inl 64)), (1, .inl x1), (2, .inl x2)] [.inl s0] w r) : ec_tw s0 = ec_tw 0 → True ∧ r = (ec_R (-1), w) ∧ ec_W hb_A w := by
  have h2 := hb_ecw ((4, 1, 0, 0, 0) :: (0, 2, 0, 0, (-1)) :: (6, 3, 0, 0, 0) :: []) (by decide +kernel) h
  exact h2
theorem eg125_0_59_0 {n : Nat} {w : px_W} {r : Option Value × px_W} {x1 x2 s0 : Int} (h : ec_E hb_X n 125 59 [(0, .inr (.inl 64)), (1, .inl x1), (2, .inl x2)] [.inl s0] w r) : True ∧ r = (ec_R s0, w) ∧ ec_W hb_A w := by
  have h2 := hb_ecw ((6, 3, 0, 0, 0) :: []) (by decide +kernel) h
  exact h2
theorem eg125_0_48_0 {n : Nat} {w : px_W} {r : Option Value × px_W} {x1 x2 s0 : Int} (h : ec_E hb_X n 125 48 [(0, .inr (.inl 64)), (1, .inl x1), (2, .inl x2)] [.inl s0] w r) : True ∧ r = (ec_R s0, w) ∧ ec_W hb_A w := by
  have h2 := hb_ecw ((4, 0, 0, 0, 0) :: (6, 3, 0, 0, 0) :: []) (by decide +kernel) h
  exact h2
/-! X11_sunk -/
theorem eg126_0_0_0 {n : Nat} {w : px_W} {r : Option Value × px_W} (h : ec_E hb_X n 126 0 [(0, .inr (.inl 64))] [] w r) : True ∧ r = (ec_R (ec_fd w 1 1), w) ∧ ec_W hb_A w := by
  have h2 := hb_ecw ((0, 1, 0, 0, 0) :: (5, 1, 0, 65, 0) :: (5, 0, 1, 1, 0) :: (6, 3, 0, 0, 0) :: []) (by decide +kernel) h
  exact h2
/-! X12_isCell -/
theorem eg184_0_0 {n : Nat} {w : px_W} {r : Option Value × px_W} {x0 : Int} (h : ec_E hb_X n 184 0 [(0, .inl x0)] [] w r) : True ∧ ∃ (v : Option Value) (w1 : px_W), ec_E hb_X n 182 0 [(0, .inl x0), (1, .inl 0), (2, .inl 7)] [] w (v, w1) ∧ ∀ zz : Int, v = ec_R zz → ec_W hb_A w1 → ec_E hb_X n 184 7 [(0, .inl x0)] [.inl zz] w1 r := by
  have h2 := hb_ecw ((0, 0, 0, 0, 0) :: (0, 2, 0, 0, 0) :: (0, 2, 0, 0, 7) :: (6, 1, 182, 3, 7) :: []) (by decide +kernel) h
  exact h2
theorem eg184_7_0 {n : Nat} {w : px_W} {r : Option Value × px_W} {x0 s0 : Int} (h : ec_E hb_X n 184 7 [(0, .inl x0)] [.inl s0] w r) : True ∧ r = (ec_R s0, w) ∧ ec_W hb_A w := by
  have h2 := hb_ecw ((6, 3, 0, 0, 0) :: []) (by decide +kernel) h
  exact h2
/-! X12_isWall -/
theorem eg193_0_0 {n : Nat} {w : px_W} {r : Option Value × px_W} {x0 : Int} (h : ec_E hb_X n 193 0 [(0, .inl x0)] [] w r) : True ∧ ∃ (v : Option Value) (w1 : px_W), ec_E hb_X n 182 0 [(0, .inl x0), (1, .inl 0), (2, .inl 6)] [] w (v, w1) ∧ ∀ zz : Int, v = ec_R zz → ec_W hb_A w1 → ec_E hb_X n 193 7 [(0, .inl x0)] [.inl zz] w1 r := by
  have h2 := hb_ecw ((0, 0, 0, 0, 0) :: (0, 2, 0, 0, 0) :: (0, 2, 0, 0, 6) :: (6, 1, 182, 3, 7) :: []) (by decide +kernel) h
  exact h2
theorem eg193_7_0 {n : Nat} {w : px_W} {r : Option Value × px_W} {x0 s0 : Int} (h : ec_E hb_X n 193 7 [(0, .inl x0)] [.inl s0] w r) : True ∧ r = (ec_R s0, w) ∧ ec_W hb_A w := by
  have h2 := hb_ecw ((6, 3, 0, 0, 0) :: []) (by decide +kernel) h
  exact h2
/-! X12_within -/
theorem eg185_0_0 {n : Nat} {w : px_W} {r : Option Value × px_W} {x0 x1 x2 : Int} (h : ec_E hb_X n 185 0 [(0, .inl x0), (1, .inl x1), (2, .inl x2)] [] w r) : ec_tw x1 ≤ ec_tw x0 → ec_tw x0 ≤ ec_tw x2 → True ∧ r = (ec_R x0, w) ∧ ec_W hb_A w := by
  have h2 := hb_ecw ((0, 0, 0, 0, 0) :: (0, 0, 1, 0, 0) :: (4, 2, 3, 1, 0) :: (0, 0, 0, 0, 0) :: (0, 0, 2, 0, 0) :: (4, 2, 5, 1, 0) :: (0, 0, 0, 0, 0) :: (6, 3, 0, 0, 0) :: []) (by decide +kernel) h
  exact h2
theorem eg185_0_1 {n : Nat} {w : px_W} {r : Option Value × px_W} {x0 x1 x2 : Int} (h : ec_E hb_X n 185 0 [(0, .inl x0), (1, .inl x1), (2, .inl x2)] [] w r) : ec_tw x1 ≤ ec_tw x0 → ec_tw x2 < ec_tw x0 → True ∧ r = (ec_R x2, w) ∧ ec_W hb_A w := by
  have h2 := hb_ecw ((0, 0, 0, 0, 0) :: (0, 0, 1, 0, 0) :: (4, 2, 3, 1, 0) :: (0, 0, 0, 0, 0) :: (0, 0, 2, 0, 0) :: (4, 2, 4, 0, 0) :: (0, 0, 2, 0, 0) :: (4, 0, 0, 0, 0) :: (6, 3, 0, 0, 0) :: []) (by decide +kernel) h
  exact h2
theorem eg185_0_2 {n : Nat} {w : px_W} {r : Option Value × px_W} {x0 x1 x2 : Int} (h : ec_E hb_X n 185 0 [(0, .inl x0), (1, .inl x1), (2, .inl x2)] [] w r) : ec_tw x0 < ec_tw x1 → True ∧ r = (ec_R x1, w) ∧ ec_W hb_A w := by
  have h2 := hb_ecw ((0, 0, 0, 0, 0) :: (0, 0, 1, 0, 0) :: (4, 2, 2, 0, 0) :: (0, 0, 1, 0, 0) :: (4, 0, 0, 0, 0) :: (6, 3, 0, 0, 0) :: []) (by decide +kernel) h
  exact h2
/-! X12_layOut -/
theorem eg186_151_0_0 {n : Nat} {w : px_W} {r : Option Value × px_W} (h : ec_E hb_X n 186 0 [(0, .inr (.inl 215))] [] w r) : True ∧ ec_E hb_X n 186 2 [(0, .inr (.inl 215)), (1, .inl 0)] [] w r := by
  have h2 := hb_ecw ((0, 2, 0, 0, 0) :: (0, 3, 1, 0, 0) :: (6, 0, 2, 2, 0) :: []) (by decide +kernel) h
  exact h2
theorem eg186_151_2_0 {n : Nat} {w : px_W} {r : Option Value × px_W} {x1 : Int} (h : ec_E hb_X n 186 2 [(0, .inr (.inl 215)), (1, .inl x1)] [] w r) : ec_tw 8 ≤ ec_tw x1 → True ∧ r = (none, w) ∧ ec_W hb_A w := by
  have h2 := hb_ecw ((0, 0, 1, 0, 0) :: (0, 2, 0, 0, 8) :: (4, 2, 3, 1, 0) :: (6, 4, 0, 0, 0) :: []) (by decide +kernel) h
  exact h2
theorem eg186_151_2_1 {n : Nat} {w : px_W} {r : Option Value × px_W} {x1 : Int} (h : ec_E hb_X n 186 2 [(0, .inr (.inl 215)), (1, .inl x1)] [] w r) : ec_tw x1 < ec_tw 8 → ((((((True ∧ 0 ≤ ec_tw (24 + x1) ∧ ec_tw (24 + x1) < 1580) ∧ 0 ≤ ec_tw x1 ∧ ec_tw x1 < 8) ∧ 0 ≤ ec_tw (32 + x1) ∧ ec_tw (32 + x1) < 1580) ∧ 0 ≤ ec_tw x1 ∧ ec_tw x1 < 8) ∧ 0 ≤ ec_tw (48 + x1) ∧ ec_tw (48 + x1) < 1580) ∧ 0 ≤ ec_tw x1 ∧ ec_tw x1 < 8) ∧ ec_E hb_X n 186 2 [(0, .inr (.inl 215)), (1, .inl (x1 + 1))] [] (ec_wr (ec_wr (ec_wr w 155 (ec_tw x1) (ec_rd w 152 (ec_tw (24 + x1)))) 156 (ec_tw x1) (ec_rd (ec_wr w 155 (ec_tw x1) (ec_rd w 152 (ec_tw (24 + x1)))) 152 (ec_tw (32 + x1)))) 157 (ec_tw x1) (ec_rd (ec_wr (ec_wr w 155 (ec_tw x1) (ec_rd w 152 (ec_tw (24 + x1)))) 156 (ec_tw x1) (ec_rd (ec_wr w 155 (ec_tw x1) (ec_rd w 152 (ec_tw (24 + x1)))) 152 (ec_tw (32 + x1)))) 152 (ec_tw (48 + x1)))) r := by
  have h2 := hb_ecw ((0, 0, 1, 0, 0) :: (0, 2, 0, 0, 8) :: (4, 2, 2, 0, 0) :: (0, 1, 0, 0, 0) :: (5, 1, 151, 219, 0) :: (0, 0, 1, 0, 0) :: (0, 1, 0, 0, 0) :: (5, 1, 151, 216, 0) :: (0, 2, 0, 0, 24) :: (0, 0, 1, 0, 0) :: (1, 0, 0, 0, 0) :: (5, 2, 152, 0, 1580) :: (5, 3, 155, 0, 8) :: (0, 1, 0, 0, 0) :: (5, 1, 151, 220, 0) :: (0, 0, 1, 0, 0) :: (0, 1, 0, 0, 0) :: (5, 1, 151, 216, 0) :: (0, 2, 0, 0, 32) :: (0, 0, 1, 0, 0) :: (1, 0, 0, 0, 0) :: (5, 2, 152, 0, 1580) :: (5, 3, 156, 0, 8) :: (0, 1, 0, 0, 0) :: (5, 1, 151, 221, 0) :: (0, 0, 1, 0, 0) :: (0, 1, 0, 0, 0) :: (5, 1, 151, 216, 0) :: (0, 2, 0, 0, 48) :: (0, 0, 1, 0, 0) :: (1, 0, 0, 0, 0) :: (5, 2, 152, 0, 1580) :: (5, 3, 157, 0, 8) :: (0, 5, 1, 0, 1) :: (4, 0, 0, 0, 0) :: (6, 0, 2, 2, 0) :: []) (by decide +kernel) h
  exact h2
/-! X12_findTrim -/
theorem eg187_151_0_0 {n : Nat} {w : px_W} {r : Option Value × px_W} (h : ec_E hb_X n 187 0 [(0, .inr (.inl 215))] [] w r) : True ∧ ec_E hb_X n 187 6 [(0, .inr (.inl 215)), (1, .inl 0), (2, .inl 0), (3, .inl 0)] [] w r := by
  have h2 := hb_ecw ((0, 2, 0, 0, 0) :: (0, 3, 1, 0, 0) :: (0, 2, 0, 0, 0) :: (0, 3, 2, 0, 0) :: (0, 2, 0, 0, 0) :: (0, 3, 3, 0, 0) :: (6, 0, 6, 4, 0) :: []) (by decide +kernel) h
  exact h2
theorem eg187_151_6_0 {n : Nat} {w : px_W} {r : Option Value × px_W} {x1 x2 x3 : Int} (h : ec_E hb_X n 187 6 [(0, .inr (.inl 215)), (1, .inl x1), (2, .inl x2), (3, .inl x3)] [] w r) : ec_tw 8 ≤ ec_tw x3 → ((True ∧ ec_tw 20 ≠ 0) ∧ ec_tw 100 ≠ 0) ∧ r = (none, ec_pf (ec_pf w 151 9 (40 + (ec_dv x1 20))) 151 10 (ec_dv x2 100)) ∧ ec_W hb_A (ec_pf (ec_pf w 151 9 (40 + (ec_dv x1 20))) 151 10 (ec_dv x2 100)) := by
  have h2 := hb_ecw ((0, 0, 3, 0, 0) :: (0, 2, 0, 0, 8) :: (4, 2, 3, 1, 0) :: (0, 1, 0, 0, 0) :: (0, 2, 0, 0, 40) :: (0, 0, 1, 0, 0) :: (0, 2, 0, 0, 20) :: (2, 0, 0, 0, 0) :: (1, 0, 0, 0, 0) :: (5, 4, 151, 9, 0) :: (0, 1, 0, 0, 0) :: (0, 0, 2, 0, 0) :: (0, 2, 0, 0, 100) :: (2, 0, 0, 0, 0) :: (5, 4, 151, 10, 0) :: (6, 4, 0, 0, 0) :: []) (by decide +kernel) h
  exact h2
theorem eg187_151_6_1 {n : Nat} {w : px_W} {r : Option Value × px_W} {x1 x2 x3 : Int} (h : ec_E hb_X n 187 6 [(0, .inr (.inl 215)), (1, .inl x1), (2, .inl x2), (3, .inl x3)] [] w r) : ec_tw x3 < ec_tw 8 → ((True ∧ 0 ≤ ec_tw x3 ∧ ec_tw x3 < 8) ∧ 0 ≤ ec_tw x3 ∧ ec_tw x3 < 8) ∧ ec_E hb_X n 187 6 [(0, .inr (.inl 215)), (1, .inl (x1 + (ec_rd w 155 (ec_tw x3)))), (2, .inl (x2 + ((ec_rd w 155 (ec_tw x3)) * (7 - (2 * x3))))), (3, .inl (x3 + 1))] [] w r := by
  have h2 := hb_ecw ((0, 0, 3, 0, 0) :: (0, 2, 0, 0, 8) :: (4, 2, 2, 0, 0) :: (0, 0, 1, 0, 0) :: (0, 1, 0, 0, 0) :: (5, 1, 151, 219, 0) :: (0, 0, 3, 0, 0) :: (5, 2, 155, 0, 8) :: (1, 0, 0, 0, 0) :: (0, 3, 1, 0, 0) :: (0, 0, 2, 0, 0) :: (0, 1, 0, 0, 0) :: (5, 1, 151, 219, 0) :: (0, 0, 3, 0, 0) :: (5, 2, 155, 0, 8) :: (0, 2, 0, 0, 7) :: (0, 2, 0, 0, 2) :: (0, 0, 3, 0, 0) :: (1, 2, 0, 0, 0) :: (1, 1, 0, 0, 0) :: (1, 2, 0, 0, 0) :: (1, 0, 0, 0, 0) :: (0, 3, 2, 0, 0) :: (0, 5, 3, 0, 1) :: (4, 0, 0, 0, 0) :: (6, 0, 6, 4, 0) :: []) (by decide +kernel) h
  exact h2
/-! X12_outside -/
theorem eg188_151_0_0 {n : Nat} {w : px_W} {r : Option Value × px_W} {x1 : Int} (h : ec_E hb_X n 188 0 [(0, .inr (.inl 215)), (1, .inl x1)] [] w r) : (True ∧ ec_tw 7 ≠ 0) ∧ ∃ (v : Option Value) (w1 : px_W), ec_E hb_X n 185 0 [(0, .inl ((ec_fd w 151 9) + (ec_dv ((ec_fd w 151 10) * (7 - (2 * x1))) 7))), (1, .inl 0), (2, .inl 100)] [] w (v, w1) ∧ ∀ zz : Int, v = ec_R zz → ec_W hb_A w1 → ec_E hb_X n 188 25 [(0, .inr (.inl 215)), (1, .inl x1)] [.inl zz] w1 r := by
  have h2 := hb_ecw ((0, 1, 0, 0, 0) :: (5, 0, 151, 9, 0) :: (0, 1, 0, 0, 0) :: (5, 0, 151, 10, 0) :: (0, 2, 0, 0, 7) :: (0, 2, 0, 0, 2) :: (0, 0, 1, 0, 0) :: (1, 2, 0, 0, 0) :: (1, 1, 0, 0, 0) :: (1, 2, 0, 0, 0) :: (0, 2, 0, 0, 7) :: (2, 0, 0, 0, 0) :: (1, 0, 0, 0, 0) :: (0, 2, 0, 0, 0) :: (0, 2, 0, 0, 100) :: (6, 1, 185, 3, 25) :: []) (by decide +kernel) h
  exact h2
theorem eg188_151_25_0 {n : Nat} {w : px_W} {r : Option Value × px_W} {x1 s0 : Int} (h : ec_E hb_X n 188 25 [(0, .inr (.inl 215)), (1, .inl x1)] [.inl s0] w r) : True ∧ r = (ec_R s0, w) ∧ ec_W hb_A w := by
  have h2 := hb_ecw ((6, 3, 0, 0, 0) :: []) (by decide +kernel) h
  exact h2
/-! X12_level -/
theorem eg189_151_0_0 {n : Nat} {w : px_W} {r : Option Value × px_W} {x1 : Int} (h : ec_E hb_X n 189 0 [(0, .inr (.inl 215)), (1, .inl x1)] [] w r) : (((True ∧ 0 ≤ ec_tw x1 ∧ ec_tw x1 < 8) ∧ 0 ≤ ec_tw (16 + x1) ∧ ec_tw (16 + x1) < 1580) ∧ ec_tw (ec_rd w 152 (ec_tw (16 + x1))) ≠ 0) ∧ r = (ec_R (ec_dv (100 * (ec_rd w 155 (ec_tw x1))) (ec_rd w 152 (ec_tw (16 + x1)))), w) ∧ ec_W hb_A w := by
  have h2 := hb_ecw ((0, 2, 0, 0, 100) :: (0, 1, 0, 0, 0) :: (5, 1, 151, 219, 0) :: (0, 0, 1, 0, 0) :: (5, 2, 155, 0, 8) :: (1, 2, 0, 0, 0) :: (0, 1, 0, 0, 0) :: (5, 1, 151, 216, 0) :: (0, 2, 0, 0, 16) :: (0, 0, 1, 0, 0) :: (1, 0, 0, 0, 0) :: (5, 2, 152, 0, 1580) :: (2, 0, 0, 0, 0) :: (6, 3, 0, 0, 0) :: []) (by decide +kernel) h
  exact h2
/-! X12_passes -/
theorem eg190_151_0_0 {n : Nat} {w : px_W} {r : Option Value × px_W} (h : ec_E hb_X n 190 0 [(0, .inr (.inl 215))] [] w r) : True ∧ ∃ (v : Option Value) (w1 : px_W), ec_E hb_X n 187 0 [(0, .inr (.inl 215))] [] w (v, w1) ∧ (v = none → ec_W hb_A w1 → ec_E hb_X n 190 4 [(0, .inr (.inl 215))] [] w1 r) := by
  have h2 := hb_ecw ((0, 1, 0, 0, 0) :: (6, 2, 187, 1, 4) :: []) (by decide +kernel) h
  exact h2
theorem eg190_151_4_0 {n : Nat} {w : px_W} {r : Option Value × px_W} (h : ec_E hb_X n 190 4 [(0, .inr (.inl 215))] [] w r) : True ∧ ec_E hb_X n 190 6 [(0, .inr (.inl 215)), (1, .inl 0)] [] w r := by
  have h2 := hb_ecw ((0, 2, 0, 0, 0) :: (0, 3, 1, 0, 0) :: (6, 0, 6, 2, 0) :: []) (by decide +kernel) h
  exact h2
theorem eg190_151_6_0 {n : Nat} {w : px_W} {r : Option Value × px_W} {x1 : Int} (h : ec_E hb_X n 190 6 [(0, .inr (.inl 215)), (1, .inl x1)] [] w r) : ec_tw 8 ≤ ec_tw x1 → True ∧ ec_E hb_X n 190 75 [(0, .inr (.inl 215)), (1, .inl 0)] [] w r := by
  have h2 := hb_ecw ((0, 0, 1, 0, 0) :: (0, 2, 0, 0, 8) :: (4, 2, 3, 1, 0) :: (0, 2, 0, 0, 0) :: (0, 3, 1, 0, 0) :: (6, 0, 75, 2, 0) :: []) (by decide +kernel) h
  exact h2
theorem eg190_151_6_1 {n : Nat} {w : px_W} {r : Option Value × px_W} {x1 : Int} (h : ec_E hb_X n 190 6 [(0, .inr (.inl 215)), (1, .inl x1)] [] w r) : ec_tw x1 < ec_tw 8 → True ∧ ∃ (v : Option Value) (w1 : px_W), ec_E hb_X n 188 0 [(0, .inr (.inl 215)), (1, .inl x1)] [] w (v, w1) ∧ ∀ zz : Int, v = ec_R zz → ec_W hb_A w1 → ec_E hb_X n 190 17 [(0, .inr (.inl 215)), (1, .inl x1)] [.inl zz] w1 r := by
  have h2 := hb_ecw ((0, 0, 1, 0, 0) :: (0, 2, 0, 0, 8) :: (4, 2, 2, 0, 0) :: (0, 1, 0, 0, 0) :: (0, 0, 1, 0, 0) :: (6, 1, 188, 2, 17) :: []) (by decide +kernel) h
  exact h2
theorem eg190_151_75_0 {n : Nat} {w : px_W} {r : Option Value × px_W} {x1 : Int} (h : ec_E hb_X n 190 75 [(0, .inr (.inl 215)), (1, .inl x1)] [] w r) : ec_tw 7 ≤ ec_tw x1 → True ∧ ec_E hb_X n 190 234 [(0, .inr (.inl 215)), (1, .inl 0)] [] w r := by
  have h2 := hb_ecw ((0, 0, 1, 0, 0) :: (0, 2, 0, 0, 7) :: (4, 2, 3, 1, 0) :: (0, 2, 0, 0, 0) :: (0, 3, 1, 0, 0) :: (6, 0, 234, 2, 0) :: []) (by decide +kernel) h
  exact h2
theorem eg190_151_75_1 {n : Nat} {w : px_W} {r : Option Value × px_W} {x1 : Int} (h : ec_E hb_X n 190 75 [(0, .inr (.inl 215)), (1, .inl x1)] [] w r) : ec_tw x1 < ec_tw 7 → True ∧ ∃ (v : Option Value) (w1 : px_W), ec_E hb_X n 189 0 [(0, .inr (.inl 215)), (1, .inl x1)] [] w (v, w1) ∧ ∀ zz : Int, v = ec_R zz → ec_W hb_A w1 → ec_E hb_X n 190 86 [(0, .inr (.inl 215)), (1, .inl x1)] [.inl zz] w1 r := by
  have h2 := hb_ecw ((0, 0, 1, 0, 0) :: (0, 2, 0, 0, 7) :: (4, 2, 2, 0, 0) :: (0, 1, 0, 0, 0) :: (0, 0, 1, 0, 0) :: (6, 1, 189, 2, 86) :: []) (by decide +kernel) h
  exact h2
theorem eg190_151_17_0 {n : Nat} {w : px_W} {r : Option Value × px_W} {x1 s0 : Int} (h : ec_E hb_X n 190 17 [(0, .inr (.inl 215)), (1, .inl x1)] [.inl s0] w r) : True ∧ ∃ (v : Option Value) (w1 : px_W), ec_E hb_X n 189 0 [(0, .inr (.inl 215)), (1, .inl x1)] [] w (v, w1) ∧ ∀ zz : Int, v = ec_R zz → ec_W hb_A w1 → ec_E hb_X n 190 22 [(0, .inr (.inl 215)), (1, .inl x1)] [.inl zz, .inl s0] w1 r := by
  have h2 := hb_ecw ((0, 1, 0, 0, 0) :: (0, 0, 1, 0, 0) :: (6, 1, 189, 2, 22) :: []) (by decide +kernel) h
  exact h2
theorem eg190_151_234_0 {n : Nat} {w : px_W} {r : Option Value × px_W} {x1 : Int} (h : ec_E hb_X n 190 234 [(0, .inr (.inl 215)), (1, .inl x1)] [] w r) : ec_tw 8 ≤ ec_tw x1 → True ∧ ∃ (v : Option Value) (w1 : px_W), ec_E hb_X n 187 0 [(0, .inr (.inl 215))] [] w (v, w1) ∧ (v = none → ec_W hb_A w1 → ec_E hb_X n 190 282 [(0, .inr (.inl 215)), (1, .inl x1)] [] w1 r) := by
  have h2 := hb_ecw ((0, 0, 1, 0, 0) :: (0, 2, 0, 0, 8) :: (4, 2, 3, 1, 0) :: (0, 1, 0, 0, 0) :: (6, 2, 187, 1, 282) :: []) (by decide +kernel) h
  exact h2
theorem eg190_151_234_1 {n : Nat} {w : px_W} {r : Option Value × px_W} {x1 : Int} (h : ec_E hb_X n 190 234 [(0, .inr (.inl 215)), (1, .inl x1)] [] w r) : ec_tw x1 < ec_tw 8 → (((True ∧ 0 ≤ ec_tw x1 ∧ ec_tw x1 < 8) ∧ 0 ≤ ec_tw x1 ∧ ec_tw x1 < 8) ∧ 0 ≤ ec_tw (16 + x1) ∧ ec_tw (16 + x1) < 1580) ∧ ∃ (v : Option Value) (w1 : px_W), ec_E hb_X n 185 0 [(0, .inl ((ec_rd w 155 (ec_tw x1)) + (ec_rd w 158 (ec_tw x1)))), (1, .inl 0), (2, .inl (ec_rd w 152 (ec_tw (16 + x1))))] [] w (v, w1) ∧ ∀ zz : Int, v = ec_R zz → ec_W hb_A w1 → ec_E hb_X n 190 271 [(0, .inr (.inl 215)), (1, .inl x1)] [.inl zz, .inl x1, .inr (.inl 219)] w1 r := by
  have h2 := hb_ecw ((0, 0, 1, 0, 0) :: (0, 2, 0, 0, 8) :: (4, 2, 2, 0, 0) :: (0, 1, 0, 0, 0) :: (5, 1, 151, 219, 0) :: (0, 0, 1, 0, 0) :: (0, 1, 0, 0, 0) :: (5, 1, 151, 219, 0) :: (0, 0, 1, 0, 0) :: (5, 2, 155, 0, 8) :: (0, 1, 0, 0, 0) :: (5, 1, 151, 222, 0) :: (0, 0, 1, 0, 0) :: (5, 2, 158, 0, 8) :: (1, 0, 0, 0, 0) :: (0, 2, 0, 0, 0) :: (0, 1, 0, 0, 0) :: (5, 1, 151, 216, 0) :: (0, 2, 0, 0, 16) :: (0, 0, 1, 0, 0) :: (1, 0, 0, 0, 0) :: (5, 2, 152, 0, 1580) :: (6, 1, 185, 3, 271) :: []) (by decide +kernel) h
  exact h2
theorem eg190_151_86_0 {n : Nat} {w : px_W} {r : Option Value × px_W} {x1 s0 : Int} (h : ec_E hb_X n 190 86 [(0, .inr (.inl 215)), (1, .inl x1)] [.inl s0] w r) : True ∧ ∃ (v : Option Value) (w1 : px_W), ec_E hb_X n 189 0 [(0, .inr (.inl 215)), (1, .inl (x1 + 1))] [] w (v, w1) ∧ ∀ zz : Int, v = ec_R zz → ec_W hb_A w1 → ec_E hb_X n 190 94 [(0, .inr (.inl 215)), (1, .inl x1), (2, .inl s0)] [.inl zz] w1 r := by
  have h2 := hb_ecw ((0, 3, 2, 0, 0) :: (0, 1, 0, 0, 0) :: (0, 0, 1, 0, 0) :: (0, 2, 0, 0, 1) :: (1, 0, 0, 0, 0) :: (6, 1, 189, 2, 94) :: []) (by decide +kernel) h
  exact h2
theorem eg190_151_22_0 {n : Nat} {w : px_W} {r : Option Value × px_W} {x1 s0 s1 : Int} (h : ec_E hb_X n 190 22 [(0, .inr (.inl 215)), (1, .inl x1)] [.inl s1, .inl s0] w r) : ec_tw (s0 - s1) ≤ ec_tw 0 → ((((True ∧ 0 ≤ ec_tw x1 ∧ ec_tw x1 < 8) ∧ 0 ≤ ec_tw x1 ∧ ec_tw x1 < 8) ∧ 0 ≤ ec_tw (40 + x1) ∧ ec_tw (40 + x1) < 1580) ∧ 0 ≤ ec_tw x1 ∧ ec_tw x1 < 8) ∧ ec_E hb_X n 190 6 [(0, .inr (.inl 215)), (1, .inl (x1 + 1))] [] (ec_wr (ec_wr w 158 (ec_tw x1) 0) 158 (ec_tw x1) ((ec_rd (ec_wr w 158 (ec_tw x1) 0) 158 (ec_tw x1)) - (ec_rd (ec_wr w 158 (ec_tw x1) 0) 152 (ec_tw (40 + x1))))) r := by
  have h2 := hb_ecw ((1, 1, 0, 0, 0) :: (0, 3, 2, 0, 0) :: (0, 1, 0, 0, 0) :: (5, 1, 151, 222, 0) :: (0, 0, 1, 0, 0) :: (0, 0, 2, 0, 0) :: (4, 1, 5, 1, 0) :: (0, 2, 0, 0, 0) :: (5, 3, 158, 0, 8) :: (0, 1, 0, 0, 0) :: (5, 1, 151, 222, 0) :: (0, 0, 1, 0, 0) :: (3, 3, 0, 0, 0) :: (5, 2, 158, 0, 8) :: (0, 1, 0, 0, 0) :: (5, 1, 151, 216, 0) :: (0, 2, 0, 0, 40) :: (0, 0, 1, 0, 0) :: (1, 0, 0, 0, 0) :: (5, 2, 152, 0, 1580) :: (1, 1, 0, 0, 0) :: (5, 3, 158, 0, 8) :: (0, 5, 1, 0, 1) :: (4, 0, 0, 0, 0) :: (6, 0, 6, 2, 0) :: []) (by decide +kernel) h
  exact h2
theorem eg190_151_22_1 {n : Nat} {w : px_W} {r : Option Value × px_W} {x1 s0 s1 : Int} (h : ec_E hb_X n 190 22 [(0, .inr (.inl 215)), (1, .inl x1)] [.inl s1, .inl s0] w r) : ec_tw 0 < ec_tw (s0 - s1) → ((((((True ∧ 0 ≤ ec_tw x1 ∧ ec_tw x1 < 8) ∧ ec_tw 10 ≠ 0) ∧ 0 ≤ ec_tw x1 ∧ ec_tw x1 < 8) ∧ 0 ≤ ec_tw x1 ∧ ec_tw x1 < 8) ∧ 0 ≤ ec_tw (40 + x1) ∧ ec_tw (40 + x1) < 1580) ∧ 0 ≤ ec_tw x1 ∧ ec_tw x1 < 8) ∧ ec_E hb_X n 190 6 [(0, .inr (.inl 215)), (1, .inl (x1 + 1))] [] (ec_wr (ec_wr w 158 (ec_tw x1) (ec_dv ((ec_rd w 156 (ec_tw x1)) * (s0 - s1)) 10)) 158 (ec_tw x1) ((ec_rd (ec_wr w 158 (ec_tw x1) (ec_dv ((ec_rd w 156 (ec_tw x1)) * (s0 - s1)) 10)) 158 (ec_tw x1)) - (ec_rd (ec_wr w 158 (ec_tw x1) (ec_dv ((ec_rd w 156 (ec_tw x1)) * (s0 - s1)) 10)) 152 (ec_tw (40 + x1))))) r := by
  have h2 := hb_ecw ((1, 1, 0, 0, 0) :: (0, 3, 2, 0, 0) :: (0, 1, 0, 0, 0) :: (5, 1, 151, 222, 0) :: (0, 0, 1, 0, 0) :: (0, 0, 2, 0, 0) :: (4, 1, 4, 0, 0) :: (0, 1, 0, 0, 0) :: (5, 1, 151, 220, 0) :: (0, 0, 1, 0, 0) :: (5, 2, 156, 0, 8) :: (0, 0, 2, 0, 0) :: (1, 2, 0, 0, 0) :: (0, 2, 0, 0, 10) :: (2, 0, 0, 0, 0) :: (4, 0, 0, 0, 0) :: (5, 3, 158, 0, 8) :: (0, 1, 0, 0, 0) :: (5, 1, 151, 222, 0) :: (0, 0, 1, 0, 0) :: (3, 3, 0, 0, 0) :: (5, 2, 158, 0, 8) :: (0, 1, 0, 0, 0) :: (5, 1, 151, 216, 0) :: (0, 2, 0, 0, 40) :: (0, 0, 1, 0, 0) :: (1, 0, 0, 0, 0) :: (5, 2, 152, 0, 1580) :: (1, 1, 0, 0, 0) :: (5, 3, 158, 0, 8) :: (0, 5, 1, 0, 1) :: (4, 0, 0, 0, 0) :: (6, 0, 6, 2, 0) :: []) (by decide +kernel) h
  exact h2
theorem eg190_151_282_0 {n : Nat} {w : px_W} {r : Option Value × px_W} {x1 : Int} (h : ec_E hb_X n 190 282 [(0, .inr (.inl 215)), (1, .inl x1)] [] w r) : True ∧ ∃ (v : Option Value) (w1 : px_W), ec_E hb_X n 188 0 [(0, .inr (.inl 215)), (1, .inl 0)] [] w (v, w1) ∧ ∀ zz : Int, v = ec_R zz → ec_W hb_A w1 → ec_E hb_X n 190 287 [(0, .inr (.inl 215)), (1, .inl x1)] [.inl zz] w1 r := by
  have h2 := hb_ecw ((0, 1, 0, 0, 0) :: (0, 2, 0, 0, 0) :: (6, 1, 188, 2, 287) :: []) (by decide +kernel) h
  exact h2
theorem eg190_151_271_0 {n : Nat} {w : px_W} {r : Option Value × px_W} {x1 s1 s2 : Int} (h : ec_E hb_X n 190 271 [(0, .inr (.inl 215)), (1, .inl x1)] [.inl s2, .inl s1, .inr (.inl 219)] w r) : (True ∧ 0 ≤ ec_tw s1 ∧ ec_tw s1 < 8) ∧ ec_E hb_X n 190 234 [(0, .inr (.inl 215)), (1, .inl (x1 + 1))] [] (ec_wr w 155 (ec_tw s1) s2) r := by
  have h2 := hb_ecw ((5, 3, 155, 0, 8) :: (0, 5, 1, 0, 1) :: (4, 0, 0, 0, 0) :: (6, 0, 234, 2, 0) :: []) (by decide +kernel) h
  exact h2
theorem eg190_151_94_0 {n : Nat} {w : px_W} {r : Option Value × px_W} {x1 x2 s0 : Int} (h : ec_E hb_X n 190 94 [(0, .inr (.inl 215)), (1, .inl x1), (2, .inl x2)] [.inl s0] w r) : ec_tw (ec_rd w 152 (ec_tw (56 + x1))) ≠ ec_tw 1 → ((True ∧ 0 ≤ ec_tw (56 + x1) ∧ ec_tw (56 + x1) < 1580) ∧ 0 ≤ ec_tw x1 ∧ ec_tw x1 < 8) ∧ ec_E hb_X n 190 118 [(0, .inr (.inl 215)), (1, .inl x1), (2, .inl x2), (3, .inl s0)] [.inl (ec_rd w 157 (ec_tw x1))] w r := by
  have h2 := hb_ecw ((0, 3, 3, 0, 0) :: (0, 1, 0, 0, 0) :: (5, 1, 151, 216, 0) :: (0, 2, 0, 0, 56) :: (0, 0, 1, 0, 0) :: (1, 0, 0, 0, 0) :: (5, 2, 152, 0, 1580) :: (0, 2, 0, 0, 1) :: (4, 2, 1, 1, 0) :: (0, 1, 0, 0, 0) :: (5, 1, 151, 221, 0) :: (0, 0, 1, 0, 0) :: (5, 2, 157, 0, 8) :: (6, 0, 118, 4, 0) :: []) (by decide +kernel) h
  exact h2
theorem eg190_151_94_1 {n : Nat} {w : px_W} {r : Option Value × px_W} {x1 x2 s0 : Int} (h : ec_E hb_X n 190 94 [(0, .inr (.inl 215)), (1, .inl x1), (2, .inl x2)] [.inl s0] w r) : ec_tw (ec_rd w 152 (ec_tw (56 + x1))) = ec_tw 1 → (True ∧ 0 ≤ ec_tw (56 + x1) ∧ ec_tw (56 + x1) < 1580) ∧ ec_E hb_X n 190 118 [(0, .inr (.inl 215)), (1, .inl x1), (2, .inl x2), (3, .inl s0)] [.inl 0] w r := by
  have h2 := hb_ecw ((0, 3, 3, 0, 0) :: (0, 1, 0, 0, 0) :: (5, 1, 151, 216, 0) :: (0, 2, 0, 0, 56) :: (0, 0, 1, 0, 0) :: (1, 0, 0, 0, 0) :: (5, 2, 152, 0, 1580) :: (0, 2, 0, 0, 1) :: (4, 2, 0, 0, 0) :: (0, 2, 0, 0, 0) :: (4, 0, 0, 0, 0) :: (6, 0, 118, 4, 0) :: []) (by decide +kernel) h
  exact h2
theorem eg190_151_287_0 {n : Nat} {w : px_W} {r : Option Value × px_W} {x1 s0 : Int} (h : ec_E hb_X n 190 287 [(0, .inr (.inl 215)), (1, .inl x1)] [.inl s0] w r) : ec_tw s0 = ec_tw 100 → True ∧ r = (ec_R 1, w) ∧ ec_W hb_A w := by
  have h2 := hb_ecw ((0, 2, 0, 0, 100) :: (4, 2, 0, 1, 0) :: (0, 2, 0, 0, 1) :: (4, 0, 0, 0, 0) :: (6, 3, 0, 0, 0) :: []) (by decide +kernel) h
  exact h2
theorem eg190_151_287_1 {n : Nat} {w : px_W} {r : Option Value × px_W} {x1 s0 : Int} (h : ec_E hb_X n 190 287 [(0, .inr (.inl 215)), (1, .inl x1)] [.inl s0] w r) : ec_tw s0 ≠ ec_tw 100 → True ∧ ∃ (v : Option Value) (w1 : px_W), ec_E hb_X n 188 0 [(0, .inr (.inl 215)), (1, .inl 7)] [] w (v, w1) ∧ ∀ zz : Int, v = ec_R zz → ec_W hb_A w1 → ec_E hb_X n 190 298 [(0, .inr (.inl 215)), (1, .inl x1)] [.inl zz] w1 r := by
  have h2 := hb_ecw ((0, 2, 0, 0, 100) :: (4, 2, 1, 0, 0) :: (0, 1, 0, 0, 0) :: (0, 2, 0, 0, 7) :: (6, 1, 188, 2, 298) :: []) (by decide +kernel) h
  exact h2
theorem eg190_151_118_0 {n : Nat} {w : px_W} {r : Option Value × px_W} {x1 x2 x3 s0 : Int} (h : ec_E hb_X n 190 118 [(0, .inr (.inl 215)), (1, .inl x1), (2, .inl x2), (3, .inl x3)] [.inl s0] w r) : ec_tw x3 ≤ ec_tw x2 → True ∧ ec_E hb_X n 190 130 [(0, .inr (.inl 215)), (1, .inl x1), (2, .inl x2), (3, .inl x3), (4, .inl s0)] [.inl x3] w r := by
  have h2 := hb_ecw ((0, 3, 4, 0, 0) :: (0, 0, 2, 0, 0) :: (0, 0, 3, 0, 0) :: (4, 2, 3, 1, 0) :: (0, 0, 3, 0, 0) :: (6, 0, 130, 5, 0) :: []) (by decide +kernel) h
  exact h2
theorem eg190_151_118_1 {n : Nat} {w : px_W} {r : Option Value × px_W} {x1 x2 x3 s0 : Int} (h : ec_E hb_X n 190 118 [(0, .inr (.inl 215)), (1, .inl x1), (2, .inl x2), (3, .inl x3)] [.inl s0] w r) : ec_tw x2 < ec_tw x3 → True ∧ ec_E hb_X n 190 130 [(0, .inr (.inl 215)), (1, .inl x1), (2, .inl x2), (3, .inl x3), (4, .inl s0)] [.inl x2] w r := by
  have h2 := hb_ecw ((0, 3, 4, 0, 0) :: (0, 0, 2, 0, 0) :: (0, 0, 3, 0, 0) :: (4, 2, 2, 0, 0) :: (0, 0, 2, 0, 0) :: (4, 0, 0, 0, 0) :: (6, 0, 130, 5, 0) :: []) (by decide +kernel) h
  exact h2
theorem eg190_151_298_0 {n : Nat} {w : px_W} {r : Option Value × px_W} {x1 s0 : Int} (h : ec_E hb_X n 190 298 [(0, .inr (.inl 215)), (1, .inl x1)] [.inl s0] w r) : ec_tw s0 ≠ ec_tw 100 → True ∧ r = (ec_R 0, w) ∧ ec_W hb_A w := by
  have h2 := hb_ecw ((0, 2, 0, 0, 100) :: (4, 2, 1, 1, 0) :: (0, 2, 0, 0, 0) :: (6, 3, 0, 0, 0) :: []) (by decide +kernel) h
  exact h2
theorem eg190_151_298_1 {n : Nat} {w : px_W} {r : Option Value × px_W} {x1 s0 : Int} (h : ec_E hb_X n 190 298 [(0, .inr (.inl 215)), (1, .inl x1)] [.inl s0] w r) : ec_tw s0 = ec_tw 100 → True ∧ r = (ec_R 1, w) ∧ ec_W hb_A w := by
  have h2 := hb_ecw ((0, 2, 0, 0, 100) :: (4, 2, 0, 0, 0) :: (0, 2, 0, 0, 1) :: (4, 0, 0, 0, 0) :: (6, 3, 0, 0, 0) :: []) (by decide +kernel) h
  exact h2
theorem eg190_151_130_0 {n : Nat} {w : px_W} {r : Option Value × px_W} {x1 x2 x3 x4 s0 : Int} (h : ec_E hb_X n 190 130 [(0, .inr (.inl 215)), (1, .inl x1), (2, .inl x2), (3, .inl x3), (4, .inl x4)] [.inl s0] w r) : ec_tw x3 ≤ ec_tw x2 → True ∧ ec_E hb_X n 190 142 [(0, .inr (.inl 215)), (1, .inl x1), (2, .inl x2), (3, .inl x3), (4, .inl x4), (5, .inl s0)] [.inl x2] w r := by
  have h2 := hb_ecw ((0, 3, 5, 0, 0) :: (0, 0, 2, 0, 0) :: (0, 0, 3, 0, 0) :: (4, 2, 3, 1, 0) :: (0, 0, 2, 0, 0) :: (6, 0, 142, 6, 0) :: []) (by decide +kernel) h
  exact h2
theorem eg190_151_130_1 {n : Nat} {w : px_W} {r : Option Value × px_W} {x1 x2 x3 x4 s0 : Int} (h : ec_E hb_X n 190 130 [(0, .inr (.inl 215)), (1, .inl x1), (2, .inl x2), (3, .inl x3), (4, .inl x4)] [.inl s0] w r) : ec_tw x2 < ec_tw x3 → True ∧ ec_E hb_X n 190 142 [(0, .inr (.inl 215)), (1, .inl x1), (2, .inl x2), (3, .inl x3), (4, .inl x4), (5, .inl s0)] [.inl x3] w r := by
  have h2 := hb_ecw ((0, 3, 5, 0, 0) :: (0, 0, 2, 0, 0) :: (0, 0, 3, 0, 0) :: (4, 2, 2, 0, 0) :: (0, 0, 3, 0, 0) :: (4, 0, 0, 0, 0) :: (6, 0, 142, 6, 0) :: []) (by decide +kernel) h
  exact h2
theorem eg190_151_142_0 {n : Nat} {w : px_W} {r : Option Value × px_W} {x1 x2 x3 x4 x5 s0 : Int} (h : ec_E hb_X n 190 142 [(0, .inr (.inl 215)), (1, .inl x1), (2, .inl x2), (3, .inl x3), (4, .inl x4), (5, .inl x5)] [.inl s0] w r) : ec_tw x4 ≤ ec_tw x5 → True ∧ ec_E hb_X n 190 158 [(0, .inr (.inl 215)), (1, .inl x1), (2, .inl x2), (3, .inl x3), (4, .inl x4), (5, .inl x5), (6, .inl s0)] [.inl x5] w r := by
  have h2 := hb_ecw ((0, 3, 6, 0, 0) :: (0, 0, 4, 0, 0) :: (0, 0, 5, 0, 0) :: (4, 2, 5, 1, 0) :: (0, 0, 5, 0, 0) :: (6, 0, 158, 7, 0) :: []) (by decide +kernel) h
  exact h2
theorem eg190_151_142_1 {n : Nat} {w : px_W} {r : Option Value × px_W} {x1 x2 x3 x4 x5 s0 : Int} (h : ec_E hb_X n 190 142 [(0, .inr (.inl 215)), (1, .inl x1), (2, .inl x2), (3, .inl x3), (4, .inl x4), (5, .inl x5)] [.inl s0] w r) : ec_tw x5 < ec_tw x4 → True ∧ ec_E hb_X n 190 158 [(0, .inr (.inl 215)), (1, .inl x1), (2, .inl x2), (3, .inl x3), (4, .inl x4), (5, .inl x5), (6, .inl s0)] [.inl x4] w r := by
  have h2 := hb_ecw ((0, 3, 6, 0, 0) :: (0, 0, 4, 0, 0) :: (0, 0, 5, 0, 0) :: (4, 2, 4, 0, 0) :: (0, 0, 4, 0, 0) :: (4, 0, 0, 0, 0) :: (6, 0, 158, 7, 0) :: []) (by decide +kernel) h
  exact h2
theorem eg190_151_158_0 {n : Nat} {w : px_W} {r : Option Value × px_W} {x1 x2 x3 x4 x5 x6 s0 : Int} (h : ec_E hb_X n 190 158 [(0, .inr (.inl 215)), (1, .inl x1), (2, .inl x2), (3, .inl x3), (4, .inl x4), (5, .inl x5), (6, .inl x6)] [.inl s0] w r) : ec_tw x6 ≤ ec_tw s0 → True ∧ ec_E hb_X n 190 178 [(0, .inr (.inl 215)), (1, .inl x1), (2, .inl x2), (3, .inl x3), (4, .inl x4), (5, .inl x5), (6, .inl x6), (7, .inl s0)] [.inl 0] w r := by
  have h2 := hb_ecw ((0, 3, 7, 0, 0) :: (0, 0, 6, 0, 0) :: (0, 0, 7, 0, 0) :: (4, 2, 5, 1, 0) :: (0, 2, 0, 0, 0) :: (6, 0, 178, 8, 0) :: []) (by decide +kernel) h
  exact h2
theorem eg190_151_158_1 {n : Nat} {w : px_W} {r : Option Value × px_W} {x1 x2 x3 x4 x5 x6 s0 : Int} (h : ec_E hb_X n 190 158 [(0, .inr (.inl 215)), (1, .inl x1), (2, .inl x2), (3, .inl x3), (4, .inl x4), (5, .inl x5), (6, .inl x6)] [.inl s0] w r) : ec_tw s0 < ec_tw x6 → (True ∧ ec_tw 4 ≠ 0) ∧ ec_E hb_X n 190 178 [(0, .inr (.inl 215)), (1, .inl x1), (2, .inl x2), (3, .inl x3), (4, .inl x4), (5, .inl x5), (6, .inl x6), (7, .inl s0)] [.inl (ec_dv (x6 - s0) 4)] w r := by
  have h2 := hb_ecw ((0, 3, 7, 0, 0) :: (0, 0, 6, 0, 0) :: (0, 0, 7, 0, 0) :: (4, 2, 4, 0, 0) :: (0, 0, 6, 0, 0) :: (0, 0, 7, 0, 0) :: (1, 1, 0, 0, 0) :: (0, 2, 0, 0, 4) :: (2, 0, 0, 0, 0) :: (4, 0, 0, 0, 0) :: (6, 0, 178, 8, 0) :: []) (by decide +kernel) h
  exact h2
theorem eg190_151_178_0 {n : Nat} {w : px_W} {r : Option Value × px_W} {x1 x2 x3 x4 x5 x6 x7 s0 : Int} (h : ec_E hb_X n 190 178 [(0, .inr (.inl 215)), (1, .inl x1), (2, .inl x2), (3, .inl x3), (4, .inl x4), (5, .inl x5), (6, .inl x6), (7, .inl x7)] [.inl s0] w r) : ec_tw x3 ≤ ec_tw x2 → (True ∧ 0 ≤ ec_tw x1 ∧ ec_tw x1 < 8) ∧ ec_E hb_X n 190 200 [(0, .inr (.inl 215)), (1, .inl x1), (2, .inl x2), (3, .inl x3), (4, .inl x4), (5, .inl x5), (6, .inl x6), (7, .inl x7), (8, .inl s0)] [.inl (-s0), .inl (ec_rd w 158 (ec_tw x1)), .inl x1, .inr (.inl 222)] w r := by
  have h2 := hb_ecw ((0, 3, 8, 0, 0) :: (0, 1, 0, 0, 0) :: (5, 1, 151, 222, 0) :: (0, 0, 1, 0, 0) :: (3, 3, 0, 0, 0) :: (5, 2, 158, 0, 8) :: (0, 0, 2, 0, 0) :: (0, 0, 3, 0, 0) :: (4, 2, 3, 1, 0) :: (0, 0, 8, 0, 0) :: (3, 4, 0, 0, 0) :: (6, 0, 200, 9, 0) :: []) (by decide +kernel) h
  exact h2
theorem eg190_151_178_1 {n : Nat} {w : px_W} {r : Option Value × px_W} {x1 x2 x3 x4 x5 x6 x7 s0 : Int} (h : ec_E hb_X n 190 178 [(0, .inr (.inl 215)), (1, .inl x1), (2, .inl x2), (3, .inl x3), (4, .inl x4), (5, .inl x5), (6, .inl x6), (7, .inl x7)] [.inl s0] w r) : ec_tw x2 < ec_tw x3 → (True ∧ 0 ≤ ec_tw x1 ∧ ec_tw x1 < 8) ∧ ec_E hb_X n 190 200 [(0, .inr (.inl 215)), (1, .inl x1), (2, .inl x2), (3, .inl x3), (4, .inl x4), (5, .inl x5), (6, .inl x6), (7, .inl x7), (8, .inl s0)] [.inl s0, .inl (ec_rd w 158 (ec_tw x1)), .inl x1, .inr (.inl 222)] w r := by
  have h2 := hb_ecw ((0, 3, 8, 0, 0) :: (0, 1, 0, 0, 0) :: (5, 1, 151, 222, 0) :: (0, 0, 1, 0, 0) :: (3, 3, 0, 0, 0) :: (5, 2, 158, 0, 8) :: (0, 0, 2, 0, 0) :: (0, 0, 3, 0, 0) :: (4, 2, 2, 0, 0) :: (0, 0, 8, 0, 0) :: (4, 0, 0, 0, 0) :: (6, 0, 200, 9, 0) :: []) (by decide +kernel) h
  exact h2
theorem eg190_151_200_0 {n : Nat} {w : px_W} {r : Option Value × px_W} {x1 x2 x3 x4 x5 x6 x7 x8 s1 s2 s3 : Int} (h : ec_E hb_X n 190 200 [(0, .inr (.inl 215)), (1, .inl x1), (2, .inl x2), (3, .inl x3), (4, .inl x4), (5, .inl x5), (6, .inl x6), (7, .inl x7), (8, .inl x8)] [.inl s3, .inl s2, .inl s1, .inr (.inl 222)] w r) : ec_tw x3 ≤ ec_tw x2 → ((True ∧ 0 ≤ ec_tw s1 ∧ ec_tw s1 < 8) ∧ 0 ≤ ec_tw (x1 + 1) ∧ ec_tw (x1 + 1) < 8) ∧ ec_E hb_X n 190 224 [(0, .inr (.inl 215)), (1, .inl x1), (2, .inl x2), (3, .inl x3), (4, .inl x4), (5, .inl x5), (6, .inl x6), (7, .inl x7), (8, .inl x8)] [.inl x8, .inl (ec_rd (ec_wr w 158 (ec_tw s1) (s2 + s3)) 158 (ec_tw (x1 + 1))), .inl (x1 + 1), .inr (.inl 222)] (ec_wr w 158 (ec_tw s1) (s2 + s3)) r := by
  have h2 := hb_ecw ((1, 0, 0, 0, 0) :: (5, 3, 158, 0, 8) :: (0, 1, 0, 0, 0) :: (5, 1, 151, 222, 0) :: (0, 0, 1, 0, 0) :: (0, 2, 0, 0, 1) :: (1, 0, 0, 0, 0) :: (3, 3, 0, 0, 0) :: (5, 2, 158, 0, 8) :: (0, 0, 2, 0, 0) :: (0, 0, 3, 0, 0) :: (4, 2, 3, 1, 0) :: (0, 0, 8, 0, 0) :: (6, 0, 224, 9, 0) :: []) (by decide +kernel) h
  exact h2
theorem eg190_151_200_1 {n : Nat} {w : px_W} {r : Option Value × px_W} {x1 x2 x3 x4 x5 x6 x7 x8 s1 s2 s3 : Int} (h : ec_E hb_X n 190 200 [(0, .inr (.inl 215)), (1, .inl x1), (2, .inl x2), (3, .inl x3), (4, .inl x4), (5, .inl x5), (6, .inl x6), (7, .inl x7), (8, .inl x8)] [.inl s3, .inl s2, .inl s1, .inr (.inl 222)] w r) : ec_tw x2 < ec_tw x3 → ((True ∧ 0 ≤ ec_tw s1 ∧ ec_tw s1 < 8) ∧ 0 ≤ ec_tw (x1 + 1) ∧ ec_tw (x1 + 1) < 8) ∧ ec_E hb_X n 190 224 [(0, .inr (.inl 215)), (1, .inl x1), (2, .inl x2), (3, .inl x3), (4, .inl x4), (5, .inl x5), (6, .inl x6), (7, .inl x7), (8, .inl x8)] [.inl (-x8), .inl (ec_rd (ec_wr w 158 (ec_tw s1) (s2 + s3)) 158 (ec_tw (x1 + 1))), .inl (x1 + 1), .inr (.inl 222)] (ec_wr w 158 (ec_tw s1) (s2 + s3)) r := by
  have h2 := hb_ecw ((1, 0, 0, 0, 0) :: (5, 3, 158, 0, 8) :: (0, 1, 0, 0, 0) :: (5, 1, 151, 222, 0) :: (0, 0, 1, 0, 0) :: (0, 2, 0, 0, 1) :: (1, 0, 0, 0, 0) :: (3, 3, 0, 0, 0) :: (5, 2, 158, 0, 8) :: (0, 0, 2, 0, 0) :: (0, 0, 3, 0, 0) :: (4, 2, 2, 0, 0) :: (0, 0, 8, 0, 0) :: (3, 4, 0, 0, 0) :: (4, 0, 0, 0, 0) :: (6, 0, 224, 9, 0) :: []) (by decide +kernel) h
  exact h2
theorem eg190_151_224_0 {n : Nat} {w : px_W} {r : Option Value × px_W} {x1 x2 x3 x4 x5 x6 x7 x8 s1 s2 s3 : Int} (h : ec_E hb_X n 190 224 [(0, .inr (.inl 215)), (1, .inl x1), (2, .inl x2), (3, .inl x3), (4, .inl x4), (5, .inl x5), (6, .inl x6), (7, .inl x7), (8, .inl x8)] [.inl s3, .inl s2, .inl s1, .inr (.inl 222)] w r) : (True ∧ 0 ≤ ec_tw s1 ∧ ec_tw s1 < 8) ∧ ec_E hb_X n 190 75 [(0, .inr (.inl 215)), (1, .inl (x1 + 1))] [] (ec_wr w 158 (ec_tw s1) (s2 + s3)) r := by
  have h2 := hb_ecw ((1, 0, 0, 0, 0) :: (5, 3, 158, 0, 8) :: (0, 5, 1, 0, 1) :: (4, 0, 0, 0, 0) :: (6, 0, 75, 2, 0) :: []) (by decide +kernel) h
  exact h2
/-! X12_minutes -/
theorem eg191_151_0_0 {n : Nat} {w : px_W} {r : Option Value × px_W} {x1 : Int} (h : ec_E hb_X n 191 0 [(0, .inr (.inl 215)), (1, .inl x1)] [] w r) : True ∧ ∃ (v : Option Value) (w1 : px_W), ec_E hb_X n 182 0 [(0, .inl x1), (1, .inl 1), (2, .inl 200)] [] w (v, w1) ∧ ∀ zz : Int, v = ec_R zz → ec_W hb_A w1 → ec_E hb_X n 191 8 [(0, .inr (.inl 215)), (1, .inl x1)] [.inl zz] w1 r := by
  have h2 := hb_ecw ((0, 0, 1, 0, 0) :: (0, 2, 0, 0, 1) :: (0, 2, 0, 0, 200) :: (6, 1, 182, 3, 8) :: []) (by decide +kernel) h
  exact h2
theorem eg191_151_8_0 {n : Nat} {w : px_W} {r : Option Value × px_W} {x1 s0 : Int} (h : ec_E hb_X n 191 8 [(0, .inr (.inl 215)), (1, .inl x1)] [.inl s0] w r) : ec_tw s0 ≠ ec_tw 0 → ec_tw ((ec_rd w 152 (ec_tw 0)) + x1) ≤ ec_tw 999 → (True ∧ 0 ≤ ec_tw 0 ∧ ec_tw 0 < 1580) ∧ ec_E hb_X n 191 32 [(0, .inr (.inl 215)), (1, .inl x1), (2, .inl 0)] [] w r := by
  have h2 := hb_ecw ((4, 1, 1, 1, 0) :: (0, 1, 0, 0, 0) :: (5, 1, 151, 216, 0) :: (0, 2, 0, 0, 0) :: (5, 2, 152, 0, 1580) :: (0, 0, 1, 0, 0) :: (1, 0, 0, 0, 0) :: (0, 2, 0, 0, 999) :: (4, 2, 5, 1, 0) :: (0, 2, 0, 0, 0) :: (0, 3, 2, 0, 0) :: (6, 0, 32, 3, 0) :: []) (by decide +kernel) h
  exact h2
theorem eg191_151_8_1 {n : Nat} {w : px_W} {r : Option Value × px_W} {x1 s0 : Int} (h : ec_E hb_X n 191 8 [(0, .inr (.inl 215)), (1, .inl x1)] [.inl s0] w r) : ec_tw s0 ≠ ec_tw 0 → ec_tw 999 < ec_tw ((ec_rd w 152 (ec_tw 0)) + x1) → (True ∧ 0 ≤ ec_tw 0 ∧ ec_tw 0 < 1580) ∧ r = (ec_R (-4), w) ∧ ec_W hb_A w := by
  have h2 := hb_ecw ((4, 1, 1, 1, 0) :: (0, 1, 0, 0, 0) :: (5, 1, 151, 216, 0) :: (0, 2, 0, 0, 0) :: (5, 2, 152, 0, 1580) :: (0, 0, 1, 0, 0) :: (1, 0, 0, 0, 0) :: (0, 2, 0, 0, 999) :: (4, 2, 4, 0, 0) :: (0, 2, 0, 0, (-4)) :: (6, 3, 0, 0, 0) :: []) (by decide +kernel) h
  exact h2
theorem eg191_151_8_2 {n : Nat} {w : px_W} {r : Option Value × px_W} {x1 s0 : Int} (h : ec_E hb_X n 191 8 [(0, .inr (.inl 215)), (1, .inl x1)] [.inl s0] w r) : ec_tw s0 = ec_tw 0 → True ∧ r = (ec_R (-1), w) ∧ ec_W hb_A w := by
  have h2 := hb_ecw ((4, 1, 0, 0, 0) :: (0, 2, 0, 0, (-1)) :: (6, 3, 0, 0, 0) :: []) (by decide +kernel) h
  exact h2
theorem eg191_151_32_0 {n : Nat} {w : px_W} {r : Option Value × px_W} {x1 x2 : Int} (h : ec_E hb_X n 191 32 [(0, .inr (.inl 215)), (1, .inl x1), (2, .inl x2)] [] w r) : ec_tw x1 ≤ ec_tw x2 → (True ∧ 0 ≤ ec_tw 0 ∧ ec_tw 0 < 1580) ∧ r = (ec_R (ec_rd w 152 (ec_tw 0)), w) ∧ ec_W hb_A w := by
  have h2 := hb_ecw ((0, 0, 2, 0, 0) :: (0, 0, 1, 0, 0) :: (4, 2, 3, 1, 0) :: (0, 1, 0, 0, 0) :: (5, 1, 151, 216, 0) :: (0, 2, 0, 0, 0) :: (5, 2, 152, 0, 1580) :: (6, 3, 0, 0, 0) :: []) (by decide +kernel) h
  exact h2
theorem eg191_151_32_1 {n : Nat} {w : px_W} {r : Option Value × px_W} {x1 x2 : Int} (h : ec_E hb_X n 191 32 [(0, .inr (.inl 215)), (1, .inl x1), (2, .inl x2)] [] w r) : ec_tw x2 < ec_tw x1 → ec_tw 0 ≤ ec_tw (ec_rd (ec_wr w 152 (ec_tw 0) ((ec_rd w 152 (ec_tw 0)) + 1)) 152 (ec_tw 1)) → (((True ∧ 0 ≤ ec_tw 0 ∧ ec_tw 0 < 1580) ∧ 0 ≤ ec_tw 0 ∧ ec_tw 0 < 1580) ∧ 0 ≤ ec_tw 1 ∧ ec_tw 1 < 1580) ∧ ec_E hb_X n 191 32 [(0, .inr (.inl 215)), (1, .inl x1), (2, .inl (x2 + 1))] [] (ec_wr w 152 (ec_tw 0) ((ec_rd w 152 (ec_tw 0)) + 1)) r := by
  have h2 := hb_ecw ((0, 0, 2, 0, 0) :: (0, 0, 1, 0, 0) :: (4, 2, 2, 0, 0) :: (0, 1, 0, 0, 0) :: (5, 1, 151, 216, 0) :: (0, 2, 0, 0, 0) :: (3, 3, 0, 0, 0) :: (5, 2, 152, 0, 1580) :: (0, 2, 0, 0, 1) :: (1, 0, 0, 0, 0) :: (5, 3, 152, 0, 1580) :: (0, 1, 0, 0, 0) :: (5, 1, 151, 216, 0) :: (0, 2, 0, 0, 1) :: (5, 2, 152, 0, 1580) :: (4, 1, 3, 1, 0) :: (0, 5, 2, 0, 1) :: (4, 0, 0, 0, 0) :: (6, 0, 32, 3, 0) :: []) (by decide +kernel) h
  exact h2
theorem eg191_151_32_2 {n : Nat} {w : px_W} {r : Option Value × px_W} {x1 x2 : Int} (h : ec_E hb_X n 191 32 [(0, .inr (.inl 215)), (1, .inl x1), (2, .inl x2)] [] w r) : ec_tw x2 < ec_tw x1 → ec_tw (ec_rd (ec_wr w 152 (ec_tw 0) ((ec_rd w 152 (ec_tw 0)) + 1)) 152 (ec_tw 1)) < ec_tw 0 → (((True ∧ 0 ≤ ec_tw 0 ∧ ec_tw 0 < 1580) ∧ 0 ≤ ec_tw 0 ∧ ec_tw 0 < 1580) ∧ 0 ≤ ec_tw 1 ∧ ec_tw 1 < 1580) ∧ ∃ (v : Option Value) (w1 : px_W), ec_E hb_X n 186 0 [(0, .inr (.inl 215))] [] (ec_wr w 152 (ec_tw 0) ((ec_rd w 152 (ec_tw 0)) + 1)) (v, w1) ∧ (v = none → ec_W hb_A w1 → ec_E hb_X n 191 60 [(0, .inr (.inl 215)), (1, .inl x1), (2, .inl x2)] [] w1 r) := by
  have h2 := hb_ecw ((0, 0, 2, 0, 0) :: (0, 0, 1, 0, 0) :: (4, 2, 2, 0, 0) :: (0, 1, 0, 0, 0) :: (5, 1, 151, 216, 0) :: (0, 2, 0, 0, 0) :: (3, 3, 0, 0, 0) :: (5, 2, 152, 0, 1580) :: (0, 2, 0, 0, 1) :: (1, 0, 0, 0, 0) :: (5, 3, 152, 0, 1580) :: (0, 1, 0, 0, 0) :: (5, 1, 151, 216, 0) :: (0, 2, 0, 0, 1) :: (5, 2, 152, 0, 1580) :: (4, 1, 2, 0, 0) :: (0, 1, 0, 0, 0) :: (6, 2, 186, 1, 60) :: []) (by decide +kernel) h
  exact h2
theorem eg191_151_60_0 {n : Nat} {w : px_W} {r : Option Value × px_W} {x1 x2 : Int} (h : ec_E hb_X n 191 60 [(0, .inr (.inl 215)), (1, .inl x1), (2, .inl x2)] [] w r) : True ∧ ∃ (v : Option Value) (w1 : px_W), ec_E hb_X n 190 0 [(0, .inr (.inl 215))] [] w (v, w1) ∧ ∀ zz : Int, v = ec_R zz → ec_W hb_A w1 → ec_E hb_X n 191 69 [(0, .inr (.inl 215)), (1, .inl x1), (2, .inl x2)] [.inl zz, .inl 1, .inr (.inl 216)] w1 r := by
  have h2 := hb_ecw ((0, 1, 0, 0, 0) :: (5, 1, 151, 216, 0) :: (0, 2, 0, 0, 1) :: (0, 1, 0, 0, 0) :: (6, 1, 190, 1, 69) :: []) (by decide +kernel) h
  exact h2
theorem eg191_151_69_0 {n : Nat} {w : px_W} {r : Option Value × px_W} {x1 x2 s1 s2 : Int} (h : ec_E hb_X n 191 69 [(0, .inr (.inl 215)), (1, .inl x1), (2, .inl x2)] [.inl s2, .inl s1, .inr (.inl 216)] w r) : ec_tw s2 = ec_tw 0 → True ∧ ec_E hb_X n 191 82 [(0, .inr (.inl 215)), (1, .inl x1), (2, .inl x2)] [.inl (-1), .inl s1, .inr (.inl 216)] w r := by
  have h2 := hb_ecw ((4, 1, 0, 1, 0) :: (0, 2, 0, 0, (-1)) :: (6, 0, 82, 3, 0) :: []) (by decide +kernel) h
  exact h2
theorem eg191_151_69_1 {n : Nat} {w : px_W} {r : Option Value × px_W} {x1 x2 s1 s2 : Int} (h : ec_E hb_X n 191 69 [(0, .inr (.inl 215)), (1, .inl x1), (2, .inl x2)] [.inl s2, .inl s1, .inr (.inl 216)] w r) : ec_tw s2 ≠ ec_tw 0 → (True ∧ 0 ≤ ec_tw 0 ∧ ec_tw 0 < 1580) ∧ ec_E hb_X n 191 82 [(0, .inr (.inl 215)), (1, .inl x1), (2, .inl x2)] [.inl (ec_rd w 152 (ec_tw 0)), .inl s1, .inr (.inl 216)] w r := by
  have h2 := hb_ecw ((4, 1, 1, 0, 0) :: (0, 1, 0, 0, 0) :: (5, 1, 151, 216, 0) :: (0, 2, 0, 0, 0) :: (5, 2, 152, 0, 1580) :: (4, 0, 0, 0, 0) :: (6, 0, 82, 3, 0) :: []) (by decide +kernel) h
  exact h2
theorem eg191_151_82_0 {n : Nat} {w : px_W} {r : Option Value × px_W} {x1 x2 s1 s2 : Int} (h : ec_E hb_X n 191 82 [(0, .inr (.inl 215)), (1, .inl x1), (2, .inl x2)] [.inl s2, .inl s1, .inr (.inl 216)] w r) : (True ∧ 0 ≤ ec_tw s1 ∧ ec_tw s1 < 1580) ∧ ec_E hb_X n 191 85 [(0, .inr (.inl 215)), (1, .inl x1), (2, .inl x2), (3, .inl 0)] [] (ec_wr w 152 (ec_tw s1) s2) r := by
  have h2 := hb_ecw ((5, 3, 152, 0, 1580) :: (0, 2, 0, 0, 0) :: (0, 3, 3, 0, 0) :: (6, 0, 85, 4, 0) :: []) (by decide +kernel) h
  exact h2
theorem eg191_151_85_0 {n : Nat} {w : px_W} {r : Option Value × px_W} {x1 x2 x3 : Int} (h : ec_E hb_X n 191 85 [(0, .inr (.inl 215)), (1, .inl x1), (2, .inl x2), (3, .inl x3)] [] w r) : ec_tw 8 ≤ ec_tw x3 → True ∧ ec_E hb_X n 191 32 [(0, .inr (.inl 215)), (1, .inl x1), (2, .inl (x2 + 1))] [] w r := by
  have h2 := hb_ecw ((0, 0, 3, 0, 0) :: (0, 2, 0, 0, 8) :: (4, 2, 3, 1, 0) :: (0, 5, 2, 0, 1) :: (4, 0, 0, 0, 0) :: (6, 0, 32, 3, 0) :: []) (by decide +kernel) h
  exact h2
theorem eg191_151_85_1 {n : Nat} {w : px_W} {r : Option Value × px_W} {x1 x2 x3 : Int} (h : ec_E hb_X n 191 85 [(0, .inr (.inl 215)), (1, .inl x1), (2, .inl x2), (3, .inl x3)] [] w r) : ec_tw x3 < ec_tw 8 → ((True ∧ 0 ≤ ec_tw x3 ∧ ec_tw x3 < 8) ∧ 0 ≤ ec_tw (24 + x3) ∧ ec_tw (24 + x3) < 1580) ∧ ec_E hb_X n 191 85 [(0, .inr (.inl 215)), (1, .inl x1), (2, .inl x2), (3, .inl (x3 + 1))] [] (ec_wr w 152 (ec_tw (24 + x3)) (ec_rd w 155 (ec_tw x3))) r := by
  have h2 := hb_ecw ((0, 0, 3, 0, 0) :: (0, 2, 0, 0, 8) :: (4, 2, 2, 0, 0) :: (0, 1, 0, 0, 0) :: (5, 1, 151, 216, 0) :: (0, 2, 0, 0, 24) :: (0, 0, 3, 0, 0) :: (1, 0, 0, 0, 0) :: (0, 1, 0, 0, 0) :: (5, 1, 151, 219, 0) :: (0, 0, 3, 0, 0) :: (5, 2, 155, 0, 8) :: (5, 3, 152, 0, 1580) :: (0, 5, 3, 0, 1) :: (4, 0, 0, 0, 0) :: (6, 0, 85, 4, 0) :: []) (by decide +kernel) h
  exact h2
/-! X12_set -/
theorem eg192_151_0_0 {n : Nat} {w : px_W} {r : Option Value × px_W} {x1 x2 x3 : Int} (h : ec_E hb_X n 192 0 [(0, .inr (.inl 215)), (1, .inl x1), (2, .inl x2), (3, .inl x3)] [] w r) : True ∧ ∃ (v : Option Value) (w1 : px_W), ec_E hb_X n 184 0 [(0, .inl x1)] [] w (v, w1) ∧ ∀ zz : Int, v = ec_R zz → ec_W hb_A w1 → ec_E hb_X n 192 4 [(0, .inr (.inl 215)), (1, .inl x1), (2, .inl x2), (3, .inl x3)] [.inl zz] w1 r := by
  have h2 := hb_ecw ((0, 0, 1, 0, 0) :: (6, 1, 184, 1, 4) :: []) (by decide +kernel) h
  exact h2
theorem eg192_151_4_0 {n : Nat} {w : px_W} {r : Option Value × px_W} {x1 x2 x3 s0 : Int} (h : ec_E hb_X n 192 4 [(0, .inr (.inl 215)), (1, .inl x1), (2, .inl x2), (3, .inl x3)] [.inl s0] w r) : ec_tw s0 = ec_tw 0 → True ∧ r = (ec_R (-1), w) ∧ ec_W hb_A w := by
  have h2 := hb_ecw ((4, 1, 0, 1, 0) :: (0, 2, 0, 0, (-1)) :: (6, 3, 0, 0, 0) :: []) (by decide +kernel) h
  exact h2
theorem eg192_151_4_1 {n : Nat} {w : px_W} {r : Option Value × px_W} {x1 x2 x3 s0 : Int} (h : ec_E hb_X n 192 4 [(0, .inr (.inl 215)), (1, .inl x1), (2, .inl x2), (3, .inl x3)] [.inl s0] w r) : ec_tw s0 ≠ ec_tw 0 → True ∧ ∃ (v : Option Value) (w1 : px_W), ec_E hb_X n 182 0 [(0, .inl x2), (1, .inl 0), (2, .inl 2)] [] w (v, w1) ∧ ∀ zz : Int, v = ec_R zz → ec_W hb_A w1 → ec_E hb_X n 192 13 [(0, .inr (.inl 215)), (1, .inl x1), (2, .inl x2), (3, .inl x3)] [.inl zz] w1 r := by
  have h2 := hb_ecw ((4, 1, 1, 0, 0) :: (0, 0, 2, 0, 0) :: (0, 2, 0, 0, 0) :: (0, 2, 0, 0, 2) :: (6, 1, 182, 3, 13) :: []) (by decide +kernel) h
  exact h2
theorem eg192_151_13_0 {n : Nat} {w : px_W} {r : Option Value × px_W} {x1 x2 x3 s0 : Int} (h : ec_E hb_X n 192 13 [(0, .inr (.inl 215)), (1, .inl x1), (2, .inl x2), (3, .inl x3)] [.inl s0] w r) : ec_tw s0 = ec_tw 0 → True ∧ r = (ec_R (-1), w) ∧ ec_W hb_A w := by
  have h2 := hb_ecw ((4, 1, 0, 1, 0) :: (0, 2, 0, 0, (-1)) :: (6, 3, 0, 0, 0) :: []) (by decide +kernel) h
  exact h2
theorem eg192_151_13_1 {n : Nat} {w : px_W} {r : Option Value × px_W} {x1 x2 x3 s0 : Int} (h : ec_E hb_X n 192 13 [(0, .inr (.inl 215)), (1, .inl x1), (2, .inl x2), (3, .inl x3)] [.inl s0] w r) : ec_tw s0 ≠ ec_tw 0 → ec_tw x2 ≠ ec_tw 0 → True ∧ ec_E hb_X n 192 27 [(0, .inr (.inl 215)), (1, .inl x1), (2, .inl x2), (3, .inl x3)] [.inl 0, .inl x3] w r := by
  have h2 := hb_ecw ((4, 1, 1, 0, 0) :: (0, 0, 3, 0, 0) :: (0, 0, 2, 0, 0) :: (4, 1, 1, 1, 0) :: (0, 2, 0, 0, 0) :: (6, 0, 27, 4, 0) :: []) (by decide +kernel) h
  exact h2
theorem eg192_151_13_2 {n : Nat} {w : px_W} {r : Option Value × px_W} {x1 x2 x3 s0 : Int} (h : ec_E hb_X n 192 13 [(0, .inr (.inl 215)), (1, .inl x1), (2, .inl x2), (3, .inl x3)] [.inl s0] w r) : ec_tw s0 ≠ ec_tw 0 → ec_tw x2 = ec_tw 0 → True ∧ ec_E hb_X n 192 27 [(0, .inr (.inl 215)), (1, .inl x1), (2, .inl x2), (3, .inl x3)] [.inl 10, .inl x3] w r := by
  have h2 := hb_ecw ((4, 1, 1, 0, 0) :: (0, 0, 3, 0, 0) :: (0, 0, 2, 0, 0) :: (4, 1, 0, 0, 0) :: (0, 2, 0, 0, 10) :: (4, 0, 0, 0, 0) :: (6, 0, 27, 4, 0) :: []) (by decide +kernel) h
  exact h2
theorem eg192_151_27_0 {n : Nat} {w : px_W} {r : Option Value × px_W} {x1 x2 x3 s0 s1 : Int} (h : ec_E hb_X n 192 27 [(0, .inr (.inl 215)), (1, .inl x1), (2, .inl x2), (3, .inl x3)] [.inl s1, .inl s0] w r) : ec_tw x2 ≠ ec_tw 0 → True ∧ ec_E hb_X n 192 39 [(0, .inr (.inl 215)), (1, .inl x1), (2, .inl x2), (3, .inl x3)] [.inl 9, .inl s1, .inl s0] w r := by
  have h2 := hb_ecw ((0, 0, 2, 0, 0) :: (4, 1, 1, 1, 0) :: (0, 2, 0, 0, 9) :: (6, 0, 39, 4, 0) :: []) (by decide +kernel) h
  exact h2
theorem eg192_151_27_1 {n : Nat} {w : px_W} {r : Option Value × px_W} {x1 x2 x3 s0 s1 : Int} (h : ec_E hb_X n 192 27 [(0, .inr (.inl 215)), (1, .inl x1), (2, .inl x2), (3, .inl x3)] [.inl s1, .inl s0] w r) : ec_tw x2 = ec_tw 0 → True ∧ ec_E hb_X n 192 39 [(0, .inr (.inl 215)), (1, .inl x1), (2, .inl x2), (3, .inl x3)] [.inl 999, .inl s1, .inl s0] w r := by
  have h2 := hb_ecw ((0, 0, 2, 0, 0) :: (4, 1, 0, 0, 0) :: (0, 2, 0, 0, 999) :: (4, 0, 0, 0, 0) :: (6, 0, 39, 4, 0) :: []) (by decide +kernel) h
  exact h2
theorem eg192_151_39_0 {n : Nat} {w : px_W} {r : Option Value × px_W} {x1 x2 x3 s0 s1 s2 : Int} (h : ec_E hb_X n 192 39 [(0, .inr (.inl 215)), (1, .inl x1), (2, .inl x2), (3, .inl x3)] [.inl s2, .inl s1, .inl s0] w r) : True ∧ ∃ (v : Option Value) (w1 : px_W), ec_E hb_X n 182 0 [(0, .inl s0), (1, .inl s1), (2, .inl s2)] [] w (v, w1) ∧ ∀ zz : Int, v = ec_R zz → ec_W hb_A w1 → ec_E hb_X n 192 42 [(0, .inr (.inl 215)), (1, .inl x1), (2, .inl x2), (3, .inl x3)] [.inl zz] w1 r := by
  have h2 := hb_ecw ((6, 1, 182, 3, 42) :: []) (by decide +kernel) h
  exact h2
theorem eg192_151_42_0 {n : Nat} {w : px_W} {r : Option Value × px_W} {x1 x2 x3 s0 : Int} (h : ec_E hb_X n 192 42 [(0, .inr (.inl 215)), (1, .inl x1), (2, .inl x2), (3, .inl x3)] [.inl s0] w r) : ec_tw s0 ≠ ec_tw 0 → ec_tw x2 ≠ ec_tw 0 → ec_tw x2 ≠ ec_tw 1 → True ∧ ec_E hb_X n 192 68 [(0, .inr (.inl 215)), (1, .inl x1), (2, .inl x2), (3, .inl x3)] [.inl 40] w r := by
  have h2 := hb_ecw ((4, 1, 1, 1, 0) :: (0, 0, 2, 0, 0) :: (4, 1, 1, 1, 0) :: (0, 0, 2, 0, 0) :: (0, 2, 0, 0, 1) :: (4, 2, 1, 1, 0) :: (0, 2, 0, 0, 40) :: (6, 0, 68, 4, 0) :: []) (by decide +kernel) h
  exact h2
theorem eg192_151_42_1 {n : Nat} {w : px_W} {r : Option Value × px_W} {x1 x2 x3 s0 : Int} (h : ec_E hb_X n 192 42 [(0, .inr (.inl 215)), (1, .inl x1), (2, .inl x2), (3, .inl x3)] [.inl s0] w r) : ec_tw s0 ≠ ec_tw 0 → ec_tw x2 ≠ ec_tw 0 → ec_tw x2 = ec_tw 1 → True ∧ ec_E hb_X n 192 68 [(0, .inr (.inl 215)), (1, .inl x1), (2, .inl x2), (3, .inl x3)] [.inl 32] w r := by
  have h2 := hb_ecw ((4, 1, 1, 1, 0) :: (0, 0, 2, 0, 0) :: (4, 1, 1, 1, 0) :: (0, 0, 2, 0, 0) :: (0, 2, 0, 0, 1) :: (4, 2, 0, 0, 0) :: (0, 2, 0, 0, 32) :: (4, 0, 0, 0, 0) :: (6, 0, 68, 4, 0) :: []) (by decide +kernel) h
  exact h2
theorem eg192_151_42_2 {n : Nat} {w : px_W} {r : Option Value × px_W} {x1 x2 x3 s0 : Int} (h : ec_E hb_X n 192 42 [(0, .inr (.inl 215)), (1, .inl x1), (2, .inl x2), (3, .inl x3)] [.inl s0] w r) : ec_tw s0 ≠ ec_tw 0 → ec_tw x2 = ec_tw 0 → True ∧ ec_E hb_X n 192 68 [(0, .inr (.inl 215)), (1, .inl x1), (2, .inl x2), (3, .inl x3)] [.inl 16] w r := by
  have h2 := hb_ecw ((4, 1, 1, 1, 0) :: (0, 0, 2, 0, 0) :: (4, 1, 0, 0, 0) :: (0, 2, 0, 0, 16) :: (4, 0, 0, 0, 0) :: (6, 0, 68, 4, 0) :: []) (by decide +kernel) h
  exact h2
theorem eg192_151_42_3 {n : Nat} {w : px_W} {r : Option Value × px_W} {x1 x2 x3 s0 : Int} (h : ec_E hb_X n 192 42 [(0, .inr (.inl 215)), (1, .inl x1), (2, .inl x2), (3, .inl x3)] [.inl s0] w r) : ec_tw s0 = ec_tw 0 → True ∧ r = (ec_R (-1), w) ∧ ec_W hb_A w := by
  have h2 := hb_ecw ((4, 1, 0, 0, 0) :: (0, 2, 0, 0, (-1)) :: (6, 3, 0, 0, 0) :: []) (by decide +kernel) h
  exact h2
theorem eg192_151_68_0 {n : Nat} {w : px_W} {r : Option Value × px_W} {x1 x2 x3 s0 : Int} (h : ec_E hb_X n 192 68 [(0, .inr (.inl 215)), (1, .inl x1), (2, .inl x2), (3, .inl x3)] [.inl s0] w r) : ((((True ∧ 0 ≤ ec_tw (s0 + x1) ∧ ec_tw (s0 + x1) < 1580) ∧ 0 ≤ ec_tw (s0 + x1) ∧ ec_tw (s0 + x1) < 1580) ∧ 0 ≤ ec_tw (24 + x1) ∧ ec_tw (24 + x1) < 1580) ∧ 0 ≤ ec_tw (16 + x1) ∧ ec_tw (16 + x1) < 1580) ∧ ∃ (v : Option Value) (w1 : px_W), ec_E hb_X n 185 0 [(0, .inl (ec_rd (ec_wr w 152 (ec_tw (s0 + x1)) x3) 152 (ec_tw (24 + x1)))), (1, .inl 0), (2, .inl (ec_rd (ec_wr w 152 (ec_tw (s0 + x1)) x3) 152 (ec_tw (16 + x1))))] [] (ec_wr w 152 (ec_tw (s0 + x1)) x3) (v, w1) ∧ ∀ zz : Int, v = ec_R zz → ec_W hb_A w1 → ec_E hb_X n 192 121 [(0, .inr (.inl 215)), (1, .inl x1), (2, .inl x2), (3, .inl x3), (4, .inl s0), (5, .inl (ec_rd w 152 (ec_tw (s0 + x1))))] [.inl zz, .inl (24 + x1), .inr (.inl 216)] w1 r := by
  have h2 := hb_ecw ((0, 3, 4, 0, 0) :: (0, 1, 0, 0, 0) :: (5, 1, 151, 216, 0) :: (0, 0, 4, 0, 0) :: (0, 0, 1, 0, 0) :: (1, 0, 0, 0, 0) :: (5, 2, 152, 0, 1580) :: (0, 3, 5, 0, 0) :: (0, 1, 0, 0, 0) :: (5, 1, 151, 216, 0) :: (0, 0, 4, 0, 0) :: (0, 0, 1, 0, 0) :: (1, 0, 0, 0, 0) :: (0, 0, 3, 0, 0) :: (5, 3, 152, 0, 1580) :: (0, 1, 0, 0, 0) :: (5, 1, 151, 216, 0) :: (0, 2, 0, 0, 24) :: (0, 0, 1, 0, 0) :: (1, 0, 0, 0, 0) :: (0, 1, 0, 0, 0) :: (5, 1, 151, 216, 0) :: (0, 2, 0, 0, 24) :: (0, 0, 1, 0, 0) :: (1, 0, 0, 0, 0) :: (5, 2, 152, 0, 1580) :: (0, 2, 0, 0, 0) :: (0, 1, 0, 0, 0) :: (5, 1, 151, 216, 0) :: (0, 2, 0, 0, 16) :: (0, 0, 1, 0, 0) :: (1, 0, 0, 0, 0) :: (5, 2, 152, 0, 1580) :: (6, 1, 185, 3, 121) :: []) (by decide +kernel) h
  exact h2
theorem eg192_151_121_0 {n : Nat} {w : px_W} {r : Option Value × px_W} {x1 x2 x3 x4 x5 s1 s2 : Int} (h : ec_E hb_X n 192 121 [(0, .inr (.inl 215)), (1, .inl x1), (2, .inl x2), (3, .inl x3), (4, .inl x4), (5, .inl x5)] [.inl s2, .inl s1, .inr (.inl 216)] w r) : (True ∧ 0 ≤ ec_tw s1 ∧ ec_tw s1 < 1580) ∧ r = (ec_R x5, ec_wr w 152 (ec_tw s1) s2) ∧ ec_W hb_A (ec_wr w 152 (ec_tw s1) s2) := by
  have h2 := hb_ecw ((5, 3, 152, 0, 1580) :: (0, 0, 5, 0, 0) :: (6, 3, 0, 0, 0) :: []) (by decide +kernel) h
  exact h2
/-! X12_wall -/
theorem eg194_151_0_0 {n : Nat} {w : px_W} {r : Option Value × px_W} {x1 x2 : Int} (h : ec_E hb_X n 194 0 [(0, .inr (.inl 215)), (1, .inl x1), (2, .inl x2)] [] w r) : True ∧ ∃ (v : Option Value) (w1 : px_W), ec_E hb_X n 193 0 [(0, .inl x1)] [] w (v, w1) ∧ ∀ zz : Int, v = ec_R zz → ec_W hb_A w1 → ec_E hb_X n 194 4 [(0, .inr (.inl 215)), (1, .inl x1), (2, .inl x2)] [.inl zz] w1 r := by
  have h2 := hb_ecw ((0, 0, 1, 0, 0) :: (6, 1, 193, 1, 4) :: []) (by decide +kernel) h
  exact h2
theorem eg194_151_4_0 {n : Nat} {w : px_W} {r : Option Value × px_W} {x1 x2 s0 : Int} (h : ec_E hb_X n 194 4 [(0, .inr (.inl 215)), (1, .inl x1), (2, .inl x2)] [.inl s0] w r) : ec_tw s0 = ec_tw 0 → True ∧ r = (ec_R (-1), w) ∧ ec_W hb_A w := by
  have h2 := hb_ecw ((4, 1, 0, 1, 0) :: (0, 2, 0, 0, (-1)) :: (6, 3, 0, 0, 0) :: []) (by decide +kernel) h
  exact h2
theorem eg194_151_4_1 {n : Nat} {w : px_W} {r : Option Value × px_W} {x1 x2 s0 : Int} (h : ec_E hb_X n 194 4 [(0, .inr (.inl 215)), (1, .inl x1), (2, .inl x2)] [.inl s0] w r) : ec_tw s0 ≠ ec_tw 0 → True ∧ ∃ (v : Option Value) (w1 : px_W), ec_E hb_X n 182 0 [(0, .inl x2), (1, .inl 0), (2, .inl 100)] [] w (v, w1) ∧ ∀ zz : Int, v = ec_R zz → ec_W hb_A w1 → ec_E hb_X n 194 14 [(0, .inr (.inl 215)), (1, .inl x1), (2, .inl x2)] [.inl zz] w1 r := by
  have h2 := hb_ecw ((4, 1, 1, 0, 0) :: (0, 0, 2, 0, 0) :: (0, 2, 0, 0, 0) :: (0, 2, 0, 0, 100) :: (6, 1, 182, 3, 14) :: []) (by decide +kernel) h
  exact h2
theorem eg194_151_14_0 {n : Nat} {w : px_W} {r : Option Value × px_W} {x1 x2 s0 : Int} (h : ec_E hb_X n 194 14 [(0, .inr (.inl 215)), (1, .inl x1), (2, .inl x2)] [.inl s0] w r) : ec_tw s0 ≠ ec_tw 0 → ((True ∧ 0 ≤ ec_tw (48 + x1) ∧ ec_tw (48 + x1) < 1580) ∧ 0 ≤ ec_tw (48 + x1) ∧ ec_tw (48 + x1) < 1580) ∧ r = (ec_R (ec_rd w 152 (ec_tw (48 + x1))), ec_wr w 152 (ec_tw (48 + x1)) x2) ∧ ec_W hb_A (ec_wr w 152 (ec_tw (48 + x1)) x2) := by
  have h2 := hb_ecw ((4, 1, 1, 1, 0) :: (0, 1, 0, 0, 0) :: (5, 1, 151, 216, 0) :: (0, 2, 0, 0, 48) :: (0, 0, 1, 0, 0) :: (1, 0, 0, 0, 0) :: (5, 2, 152, 0, 1580) :: (0, 3, 3, 0, 0) :: (0, 1, 0, 0, 0) :: (5, 1, 151, 216, 0) :: (0, 2, 0, 0, 48) :: (0, 0, 1, 0, 0) :: (1, 0, 0, 0, 0) :: (0, 0, 2, 0, 0) :: (5, 3, 152, 0, 1580) :: (0, 0, 3, 0, 0) :: (6, 3, 0, 0, 0) :: []) (by decide +kernel) h
  exact h2
theorem eg194_151_14_1 {n : Nat} {w : px_W} {r : Option Value × px_W} {x1 x2 s0 : Int} (h : ec_E hb_X n 194 14 [(0, .inr (.inl 215)), (1, .inl x1), (2, .inl x2)] [.inl s0] w r) : ec_tw s0 = ec_tw 0 → True ∧ r = (ec_R (-1), w) ∧ ec_W hb_A w := by
  have h2 := hb_ecw ((4, 1, 0, 0, 0) :: (0, 2, 0, 0, (-1)) :: (6, 3, 0, 0, 0) :: []) (by decide +kernel) h
  exact h2
/-! X12_door -/
theorem eg195_151_0_0 {n : Nat} {w : px_W} {r : Option Value × px_W} {x1 x2 : Int} (h : ec_E hb_X n 195 0 [(0, .inr (.inl 215)), (1, .inl x1), (2, .inl x2)] [] w r) : True ∧ ∃ (v : Option Value) (w1 : px_W), ec_E hb_X n 193 0 [(0, .inl x1)] [] w (v, w1) ∧ ∀ zz : Int, v = ec_R zz → ec_W hb_A w1 → ec_E hb_X n 195 4 [(0, .inr (.inl 215)), (1, .inl x1), (2, .inl x2)] [.inl zz] w1 r := by
  have h2 := hb_ecw ((0, 0, 1, 0, 0) :: (6, 1, 193, 1, 4) :: []) (by decide +kernel) h
  exact h2
theorem eg195_151_4_0 {n : Nat} {w : px_W} {r : Option Value × px_W} {x1 x2 s0 : Int} (h : ec_E hb_X n 195 4 [(0, .inr (.inl 215)), (1, .inl x1), (2, .inl x2)] [.inl s0] w r) : ec_tw s0 ≠ ec_tw 0 → ec_tw x2 = ec_tw 0 → (True ∧ 0 ≤ ec_tw (56 + x1) ∧ ec_tw (56 + x1) < 1580) ∧ ec_E hb_X n 195 36 [(0, .inr (.inl 215)), (1, .inl x1), (2, .inl x2), (3, .inl (ec_rd w 152 (ec_tw (56 + x1))))] [.inl 0, .inl (56 + x1), .inr (.inl 216)] w r := by
  have h2 := hb_ecw ((4, 1, 1, 1, 0) :: (0, 1, 0, 0, 0) :: (5, 1, 151, 216, 0) :: (0, 2, 0, 0, 56) :: (0, 0, 1, 0, 0) :: (1, 0, 0, 0, 0) :: (5, 2, 152, 0, 1580) :: (0, 3, 3, 0, 0) :: (0, 1, 0, 0, 0) :: (5, 1, 151, 216, 0) :: (0, 2, 0, 0, 56) :: (0, 0, 1, 0, 0) :: (1, 0, 0, 0, 0) :: (0, 0, 2, 0, 0) :: (4, 1, 0, 1, 0) :: (0, 2, 0, 0, 0) :: (6, 0, 36, 4, 0) :: []) (by decide +kernel) h
  exact h2
theorem eg195_151_4_1 {n : Nat} {w : px_W} {r : Option Value × px_W} {x1 x2 s0 : Int} (h : ec_E hb_X n 195 4 [(0, .inr (.inl 215)), (1, .inl x1), (2, .inl x2)] [.inl s0] w r) : ec_tw s0 ≠ ec_tw 0 → ec_tw x2 ≠ ec_tw 0 → (True ∧ 0 ≤ ec_tw (56 + x1) ∧ ec_tw (56 + x1) < 1580) ∧ ec_E hb_X n 195 36 [(0, .inr (.inl 215)), (1, .inl x1), (2, .inl x2), (3, .inl (ec_rd w 152 (ec_tw (56 + x1))))] [.inl 1, .inl (56 + x1), .inr (.inl 216)] w r := by
  have h2 := hb_ecw ((4, 1, 1, 1, 0) :: (0, 1, 0, 0, 0) :: (5, 1, 151, 216, 0) :: (0, 2, 0, 0, 56) :: (0, 0, 1, 0, 0) :: (1, 0, 0, 0, 0) :: (5, 2, 152, 0, 1580) :: (0, 3, 3, 0, 0) :: (0, 1, 0, 0, 0) :: (5, 1, 151, 216, 0) :: (0, 2, 0, 0, 56) :: (0, 0, 1, 0, 0) :: (1, 0, 0, 0, 0) :: (0, 0, 2, 0, 0) :: (4, 1, 1, 0, 0) :: (0, 2, 0, 0, 1) :: (4, 0, 0, 0, 0) :: (6, 0, 36, 4, 0) :: []) (by decide +kernel) h
  exact h2
theorem eg195_151_4_2 {n : Nat} {w : px_W} {r : Option Value × px_W} {x1 x2 s0 : Int} (h : ec_E hb_X n 195 4 [(0, .inr (.inl 215)), (1, .inl x1), (2, .inl x2)] [.inl s0] w r) : ec_tw s0 = ec_tw 0 → True ∧ r = (ec_R (-1), w) ∧ ec_W hb_A w := by
  have h2 := hb_ecw ((4, 1, 0, 0, 0) :: (0, 2, 0, 0, (-1)) :: (6, 3, 0, 0, 0) :: []) (by decide +kernel) h
  exact h2
theorem eg195_151_36_0 {n : Nat} {w : px_W} {r : Option Value × px_W} {x1 x2 x3 s1 s2 : Int} (h : ec_E hb_X n 195 36 [(0, .inr (.inl 215)), (1, .inl x1), (2, .inl x2), (3, .inl x3)] [.inl s2, .inl s1, .inr (.inl 216)] w r) : (True ∧ 0 ≤ ec_tw s1 ∧ ec_tw s1 < 1580) ∧ r = (ec_R x3, ec_wr w 152 (ec_tw s1) s2) ∧ ec_W hb_A (ec_wr w 152 (ec_tw s1) s2) := by
  have h2 := hb_ecw ((5, 3, 152, 0, 1580) :: (0, 0, 3, 0, 0) :: (6, 3, 0, 0, 0) :: []) (by decide +kernel) h
  exact h2
/-! X12_cell -/
theorem eg196_151_0_0 {n : Nat} {w : px_W} {r : Option Value × px_W} {x1 x2 : Int} (h : ec_E hb_X n 196 0 [(0, .inr (.inl 215)), (1, .inl x1), (2, .inl x2)] [] w r) : True ∧ ∃ (v : Option Value) (w1 : px_W), ec_E hb_X n 184 0 [(0, .inl x1)] [] w (v, w1) ∧ ∀ zz : Int, v = ec_R zz → ec_W hb_A w1 → ec_E hb_X n 196 4 [(0, .inr (.inl 215)), (1, .inl x1), (2, .inl x2)] [.inl zz] w1 r := by
  have h2 := hb_ecw ((0, 0, 1, 0, 0) :: (6, 1, 184, 1, 4) :: []) (by decide +kernel) h
  exact h2
theorem eg196_151_4_0 {n : Nat} {w : px_W} {r : Option Value × px_W} {x1 x2 s0 : Int} (h : ec_E hb_X n 196 4 [(0, .inr (.inl 215)), (1, .inl x1), (2, .inl x2)] [.inl s0] w r) : ec_tw s0 = ec_tw 0 → True ∧ r = (ec_R (-1), w) ∧ ec_W hb_A w := by
  have h2 := hb_ecw ((4, 1, 0, 1, 0) :: (0, 2, 0, 0, (-1)) :: (6, 3, 0, 0, 0) :: []) (by decide +kernel) h
  exact h2
theorem eg196_151_4_1 {n : Nat} {w : px_W} {r : Option Value × px_W} {x1 x2 s0 : Int} (h : ec_E hb_X n 196 4 [(0, .inr (.inl 215)), (1, .inl x1), (2, .inl x2)] [.inl s0] w r) : ec_tw s0 ≠ ec_tw 0 → True ∧ ∃ (v : Option Value) (w1 : px_W), ec_E hb_X n 182 0 [(0, .inl x2), (1, .inl 0), (2, .inl 2)] [] w (v, w1) ∧ ∀ zz : Int, v = ec_R zz → ec_W hb_A w1 → ec_E hb_X n 196 13 [(0, .inr (.inl 215)), (1, .inl x1), (2, .inl x2)] [.inl zz] w1 r := by
  have h2 := hb_ecw ((4, 1, 1, 0, 0) :: (0, 0, 2, 0, 0) :: (0, 2, 0, 0, 0) :: (0, 2, 0, 0, 2) :: (6, 1, 182, 3, 13) :: []) (by decide +kernel) h
  exact h2
theorem eg196_151_13_0 {n : Nat} {w : px_W} {r : Option Value × px_W} {x1 x2 s0 : Int} (h : ec_E hb_X n 196 13 [(0, .inr (.inl 215)), (1, .inl x1), (2, .inl x2)] [.inl s0] w r) : ec_tw s0 ≠ ec_tw 0 → True ∧ ∃ (v : Option Value) (w1 : px_W), ec_E hb_X n 186 0 [(0, .inr (.inl 215))] [] w (v, w1) ∧ (v = none → ec_W hb_A w1 → ec_E hb_X n 196 22 [(0, .inr (.inl 215)), (1, .inl x1), (2, .inl x2)] [] w1 r) := by
  have h2 := hb_ecw ((4, 1, 1, 1, 0) :: (0, 1, 0, 0, 0) :: (6, 2, 186, 1, 22) :: []) (by decide +kernel) h
  exact h2
theorem eg196_151_13_1 {n : Nat} {w : px_W} {r : Option Value × px_W} {x1 x2 s0 : Int} (h : ec_E hb_X n 196 13 [(0, .inr (.inl 215)), (1, .inl x1), (2, .inl x2)] [.inl s0] w r) : ec_tw s0 = ec_tw 0 → True ∧ r = (ec_R (-1), w) ∧ ec_W hb_A w := by
  have h2 := hb_ecw ((4, 1, 0, 0, 0) :: (0, 2, 0, 0, (-1)) :: (6, 3, 0, 0, 0) :: []) (by decide +kernel) h
  exact h2
theorem eg196_151_22_0 {n : Nat} {w : px_W} {r : Option Value × px_W} {x1 x2 : Int} (h : ec_E hb_X n 196 22 [(0, .inr (.inl 215)), (1, .inl x1), (2, .inl x2)] [] w r) : True ∧ ∃ (v : Option Value) (w1 : px_W), ec_E hb_X n 187 0 [(0, .inr (.inl 215))] [] w (v, w1) ∧ (v = none → ec_W hb_A w1 → ec_E hb_X n 196 26 [(0, .inr (.inl 215)), (1, .inl x1), (2, .inl x2)] [] w1 r) := by
  have h2 := hb_ecw ((0, 1, 0, 0, 0) :: (6, 2, 187, 1, 26) :: []) (by decide +kernel) h
  exact h2
theorem eg196_151_26_0 {n : Nat} {w : px_W} {r : Option Value × px_W} {x1 x2 : Int} (h : ec_E hb_X n 196 26 [(0, .inr (.inl 215)), (1, .inl x1), (2, .inl x2)] [] w r) : ec_tw x2 ≠ ec_tw 0 → ec_tw x2 ≠ ec_tw 1 → True ∧ ∃ (v : Option Value) (w1 : px_W), ec_E hb_X n 188 0 [(0, .inr (.inl 215)), (1, .inl x1)] [] w (v, w1) ∧ ∀ zz : Int, v = ec_R zz → ec_W hb_A w1 → ec_E hb_X n 196 57 [(0, .inr (.inl 215)), (1, .inl x1), (2, .inl x2)] [.inl zz] w1 r := by
  have h2 := hb_ecw ((0, 0, 2, 0, 0) :: (4, 1, 1, 1, 0) :: (0, 0, 2, 0, 0) :: (0, 2, 0, 0, 1) :: (4, 2, 1, 1, 0) :: (0, 1, 0, 0, 0) :: (0, 0, 1, 0, 0) :: (6, 1, 188, 2, 57) :: []) (by decide +kernel) h
  exact h2
theorem eg196_151_26_1 {n : Nat} {w : px_W} {r : Option Value × px_W} {x1 x2 : Int} (h : ec_E hb_X n 196 26 [(0, .inr (.inl 215)), (1, .inl x1), (2, .inl x2)] [] w r) : ec_tw x2 ≠ ec_tw 0 → ec_tw x2 = ec_tw 1 → True ∧ ∃ (v : Option Value) (w1 : px_W), ec_E hb_X n 189 0 [(0, .inr (.inl 215)), (1, .inl x1)] [] w (v, w1) ∧ ∀ zz : Int, v = ec_R zz → ec_W hb_A w1 → ec_E hb_X n 196 49 [(0, .inr (.inl 215)), (1, .inl x1), (2, .inl x2)] [.inl zz] w1 r := by
  have h2 := hb_ecw ((0, 0, 2, 0, 0) :: (4, 1, 1, 1, 0) :: (0, 0, 2, 0, 0) :: (0, 2, 0, 0, 1) :: (4, 2, 0, 0, 0) :: (0, 1, 0, 0, 0) :: (0, 0, 1, 0, 0) :: (6, 1, 189, 2, 49) :: []) (by decide +kernel) h
  exact h2
theorem eg196_151_26_2 {n : Nat} {w : px_W} {r : Option Value × px_W} {x1 x2 : Int} (h : ec_E hb_X n 196 26 [(0, .inr (.inl 215)), (1, .inl x1), (2, .inl x2)] [] w r) : ec_tw x2 = ec_tw 0 → (True ∧ 0 ≤ ec_tw x1 ∧ ec_tw x1 < 8) ∧ r = (ec_R (ec_rd w 155 (ec_tw x1)), w) ∧ ec_W hb_A w := by
  have h2 := hb_ecw ((0, 0, 2, 0, 0) :: (4, 1, 0, 0, 0) :: (0, 1, 0, 0, 0) :: (5, 1, 151, 219, 0) :: (0, 0, 1, 0, 0) :: (5, 2, 155, 0, 8) :: (4, 0, 0, 0, 0) :: (6, 3, 0, 0, 0) :: []) (by decide +kernel) h
  exact h2
theorem eg196_151_57_0 {n : Nat} {w : px_W} {r : Option Value × px_W} {x1 x2 s0 : Int} (h : ec_E hb_X n 196 57 [(0, .inr (.inl 215)), (1, .inl x1), (2, .inl x2)] [.inl s0] w r) : True ∧ r = (ec_R s0, w) ∧ ec_W hb_A w := by
  have h2 := hb_ecw ((6, 3, 0, 0, 0) :: []) (by decide +kernel) h
  exact h2
theorem eg196_151_49_0 {n : Nat} {w : px_W} {r : Option Value × px_W} {x1 x2 s0 : Int} (h : ec_E hb_X n 196 49 [(0, .inr (.inl 215)), (1, .inl x1), (2, .inl x2)] [.inl s0] w r) : True ∧ r = (ec_R s0, w) ∧ ec_W hb_A w := by
  have h2 := hb_ecw ((4, 0, 0, 0, 0) :: (6, 3, 0, 0, 0) :: []) (by decide +kernel) h
  exact h2
/-! X12_sunk -/
theorem eg197_151_0_0 {n : Nat} {w : px_W} {r : Option Value × px_W} (h : ec_E hb_X n 197 0 [(0, .inr (.inl 215))] [] w r) : ec_tw 0 ≤ ec_tw (ec_rd w 152 (ec_tw 1)) → ((True ∧ 0 ≤ ec_tw 1 ∧ ec_tw 1 < 1580) ∧ 0 ≤ ec_tw 1 ∧ ec_tw 1 < 1580) ∧ r = (ec_R (ec_rd w 152 (ec_tw 1)), w) ∧ ec_W hb_A w := by
  have h2 := hb_ecw ((0, 1, 0, 0, 0) :: (5, 1, 151, 216, 0) :: (0, 2, 0, 0, 1) :: (5, 2, 152, 0, 1580) :: (4, 1, 3, 1, 0) :: (0, 1, 0, 0, 0) :: (5, 1, 151, 216, 0) :: (0, 2, 0, 0, 1) :: (5, 2, 152, 0, 1580) :: (6, 3, 0, 0, 0) :: []) (by decide +kernel) h
  exact h2
theorem eg197_151_0_1 {n : Nat} {w : px_W} {r : Option Value × px_W} (h : ec_E hb_X n 197 0 [(0, .inr (.inl 215))] [] w r) : ec_tw (ec_rd w 152 (ec_tw 1)) < ec_tw 0 → (True ∧ 0 ≤ ec_tw 1 ∧ ec_tw 1 < 1580) ∧ r = (ec_R (-3), w) ∧ ec_W hb_A w := by
  have h2 := hb_ecw ((0, 1, 0, 0, 0) :: (5, 1, 151, 216, 0) :: (0, 2, 0, 0, 1) :: (5, 2, 152, 0, 1580) :: (4, 1, 2, 0, 0) :: (0, 2, 0, 0, (-3)) :: (4, 0, 0, 0, 0) :: (6, 3, 0, 0, 0) :: []) (by decide +kernel) h
  exact h2

end

noncomputable section
/-! X7_isHeard -/
theorem eg92_29_0_0 {n : Nat} {w : px_W} {r : Option Value × px_W} {x1 x2 : Int} (h : ec_E hb_X n 92 0 [(0, .inr (.inl 93)), (1, .inl x1), (2, .inl x2)] [] w r) : (((True ∧ 0 ≤ ec_tw x2 ∧ ec_tw x2 < 10) ∧ 0 ≤ ec_tw x1 ∧ ec_tw x1 < 6) ∧ 0 ≤ ec_tw x1 ∧ ec_tw x1 < 6) ∧ ∃ (v : Option Value) (w1 : px_W), ec_E hb_X n 173 0 [(0, .inl (ec_rd w 35 (ec_tw x2))), (1, .inl (ec_rd w 32 (ec_tw x1))), (2, .inl (ec_rd w 33 (ec_tw x1)))] [] w (v, w1) ∧ ∀ zz : Int, v = ec_R zz → ec_W hb_A w1 → ec_E hb_X n 92 21 [(0, .inr (.inl 93)), (1, .inl x1), (2, .inl x2)] [.inl zz] w1 r := by
  have h2 := hb_ecw ((0, 1, 0, 0, 0) :: (5, 1, 29, 99, 0) :: (0, 0, 2, 0, 0) :: (5, 2, 35, 0, 10) :: (0, 1, 0, 0, 0) :: (5, 1, 29, 96, 0) :: (0, 0, 1, 0, 0) :: (5, 2, 32, 0, 6) :: (0, 1, 0, 0, 0) :: (5, 1, 29, 97, 0) :: (0, 0, 1, 0, 0) :: (5, 2, 33, 0, 6) :: (6, 1, 173, 3, 21) :: []) (by decide +kernel) h
  exact h2
theorem eg92_29_21_0 {n : Nat} {w : px_W} {r : Option Value × px_W} {x1 x2 s0 : Int} (h : ec_E hb_X n 92 21 [(0, .inr (.inl 93)), (1, .inl x1), (2, .inl x2)] [.inl s0] w r) : ec_tw s0 = ec_tw 0 → True ∧ r = (ec_R 0, w) ∧ ec_W hb_A w := by
  have h2 := hb_ecw ((4, 1, 0, 1, 0) :: (0, 2, 0, 0, 0) :: (6, 3, 0, 0, 0) :: []) (by decide +kernel) h
  exact h2
theorem eg92_29_21_1 {n : Nat} {w : px_W} {r : Option Value × px_W} {x1 x2 s0 : Int} (h : ec_E hb_X n 92 21 [(0, .inr (.inl 93)), (1, .inl x1), (2, .inl x2)] [.inl s0] w r) : ec_tw s0 ≠ ec_tw 0 → ec_tw (ec_rd w 34 (ec_tw x1)) < ec_tw (ec_rd w 30 (ec_tw x1)) → ((True ∧ 0 ≤ ec_tw x1 ∧ ec_tw x1 < 6) ∧ 0 ≤ ec_tw x1 ∧ ec_tw x1 < 6) ∧ r = (ec_R 0, w) ∧ ec_W hb_A w := by
  have h2 := hb_ecw ((4, 1, 1, 0, 0) :: (0, 1, 0, 0, 0) :: (5, 1, 29, 94, 0) :: (0, 0, 1, 0, 0) :: (5, 2, 30, 0, 6) :: (0, 1, 0, 0, 0) :: (5, 1, 29, 98, 0) :: (0, 0, 1, 0, 0) :: (5, 2, 34, 0, 6) :: (4, 2, 4, 1, 0) :: (0, 2, 0, 0, 0) :: (6, 3, 0, 0, 0) :: []) (by decide +kernel) h
  exact h2
theorem eg92_29_21_2 {n : Nat} {w : px_W} {r : Option Value × px_W} {x1 x2 s0 : Int} (h : ec_E hb_X n 92 21 [(0, .inr (.inl 93)), (1, .inl x1), (2, .inl x2)] [.inl s0] w r) : ec_tw s0 ≠ ec_tw 0 → ec_tw (ec_rd w 30 (ec_tw x1)) ≤ ec_tw (ec_rd w 34 (ec_tw x1)) → ((True ∧ 0 ≤ ec_tw x1 ∧ ec_tw x1 < 6) ∧ 0 ≤ ec_tw x1 ∧ ec_tw x1 < 6) ∧ r = (ec_R 1, w) ∧ ec_W hb_A w := by
  have h2 := hb_ecw ((4, 1, 1, 0, 0) :: (0, 1, 0, 0, 0) :: (5, 1, 29, 94, 0) :: (0, 0, 1, 0, 0) :: (5, 2, 30, 0, 6) :: (0, 1, 0, 0, 0) :: (5, 1, 29, 98, 0) :: (0, 0, 1, 0, 0) :: (5, 2, 34, 0, 6) :: (4, 2, 5, 0, 0) :: (0, 2, 0, 0, 1) :: (4, 0, 0, 0, 0) :: (6, 3, 0, 0, 0) :: []) (by decide +kernel) h
  exact h2
/-! X7_firstHeard -/
theorem eg93_29_0_0 {n : Nat} {w : px_W} {r : Option Value × px_W} {x1 : Int} (h : ec_E hb_X n 93 0 [(0, .inr (.inl 93)), (1, .inl x1)] [] w r) : True ∧ ec_E hb_X n 93 5 [(0, .inr (.inl 93)), (1, .inl x1), (2, .inl (-3)), (3, .inl 0)] [] w r := by
  have h2 := hb_ecw ((0, 2, 0, 0, (-3)) :: (0, 3, 2, 0, 0) :: (0, 2, 0, 0, 0) :: (0, 3, 3, 0, 0) :: (6, 0, 5, 4, 0) :: []) (by decide +kernel) h
  exact h2
theorem eg93_29_5_0 {n : Nat} {w : px_W} {r : Option Value × px_W} {x1 x2 x3 : Int} (h : ec_E hb_X n 93 5 [(0, .inr (.inl 93)), (1, .inl x1), (2, .inl x2), (3, .inl x3)] [] w r) : ec_tw (ec_fd w 29 7) ≤ ec_tw x3 → True ∧ r = (ec_R x2, w) ∧ ec_W hb_A w := by
  have h2 := hb_ecw ((0, 0, 3, 0, 0) :: (0, 1, 0, 0, 0) :: (5, 0, 29, 7, 0) :: (4, 2, 3, 1, 0) :: (0, 0, 2, 0, 0) :: (6, 3, 0, 0, 0) :: []) (by decide +kernel) h
  exact h2
theorem eg93_29_5_1 {n : Nat} {w : px_W} {r : Option Value × px_W} {x1 x2 x3 : Int} (h : ec_E hb_X n 93 5 [(0, .inr (.inl 93)), (1, .inl x1), (2, .inl x2), (3, .inl x3)] [] w r) : ec_tw x3 < ec_tw (ec_fd w 29 7) → True ∧ ∃ (v : Option Value) (w1 : px_W), ec_E hb_X n 92 0 [(0, .inr (.inl 93)), (1, .inl x1), (2, .inl x3)] [] w (v, w1) ∧ ∀ zz : Int, v = ec_R zz → ec_W hb_A w1 → ec_E hb_X n 93 19 [(0, .inr (.inl 93)), (1, .inl x1), (2, .inl x2), (3, .inl x3)] [.inl zz] w1 r := by
  have h2 := hb_ecw ((0, 0, 3, 0, 0) :: (0, 1, 0, 0, 0) :: (5, 0, 29, 7, 0) :: (4, 2, 2, 0, 0) :: (0, 1, 0, 0, 0) :: (0, 0, 1, 0, 0) :: (0, 0, 3, 0, 0) :: (6, 1, 92, 3, 19) :: []) (by decide +kernel) h
  exact h2
theorem eg93_29_19_0 {n : Nat} {w : px_W} {r : Option Value × px_W} {x1 x2 x3 s0 : Int} (h : ec_E hb_X n 93 19 [(0, .inr (.inl 93)), (1, .inl x1), (2, .inl x2), (3, .inl x3)] [.inl s0] w r) : ec_tw s0 = ec_tw 0 → True ∧ ec_E hb_X n 93 45 [(0, .inr (.inl 93)), (1, .inl x1), (2, .inl x2), (3, .inl x3)] [] w r := by
  have h2 := hb_ecw ((4, 1, 0, 1, 0) :: (6, 0, 45, 4, 0) :: []) (by decide +kernel) h
  exact h2
theorem eg93_29_19_1 {n : Nat} {w : px_W} {r : Option Value × px_W} {x1 x2 x3 s0 : Int} (h : ec_E hb_X n 93 19 [(0, .inr (.inl 93)), (1, .inl x1), (2, .inl x2), (3, .inl x3)] [.inl s0] w r) : ec_tw s0 ≠ ec_tw 0 → ec_tw x2 = ec_tw (-3) → (True ∧ 0 ≤ ec_tw x3 ∧ ec_tw x3 < 10) ∧ ec_E hb_X n 93 45 [(0, .inr (.inl 93)), (1, .inl x1), (2, .inl (ec_rd w 35 (ec_tw x3))), (3, .inl x3)] [] w r := by
  have h2 := hb_ecw ((4, 1, 1, 0, 0) :: (0, 0, 2, 0, 0) :: (0, 2, 0, 0, (-3)) :: (4, 2, 0, 1, 0) :: (0, 1, 0, 0, 0) :: (5, 1, 29, 99, 0) :: (0, 0, 3, 0, 0) :: (5, 2, 35, 0, 10) :: (0, 3, 2, 0, 0) :: (6, 0, 45, 4, 0) :: []) (by decide +kernel) h
  exact h2
theorem eg93_29_19_2 {n : Nat} {w : px_W} {r : Option Value × px_W} {x1 x2 x3 s0 : Int} (h : ec_E hb_X n 93 19 [(0, .inr (.inl 93)), (1, .inl x1), (2, .inl x2), (3, .inl x3)] [.inl s0] w r) : ec_tw s0 ≠ ec_tw 0 → ec_tw x2 ≠ ec_tw (-3) → ec_tw x2 ≤ ec_tw (ec_rd w 35 (ec_tw x3)) → (True ∧ 0 ≤ ec_tw x3 ∧ ec_tw x3 < 10) ∧ ec_E hb_X n 93 45 [(0, .inr (.inl 93)), (1, .inl x1), (2, .inl x2), (3, .inl x3)] [] w r := by
  have h2 := hb_ecw ((4, 1, 1, 0, 0) :: (0, 0, 2, 0, 0) :: (0, 2, 0, 0, (-3)) :: (4, 2, 1, 0, 0) :: (0, 1, 0, 0, 0) :: (5, 1, 29, 99, 0) :: (0, 0, 3, 0, 0) :: (5, 2, 35, 0, 10) :: (0, 0, 2, 0, 0) :: (4, 2, 3, 1, 0) :: (6, 0, 45, 4, 0) :: []) (by decide +kernel) h
  exact h2
theorem eg93_29_19_3 {n : Nat} {w : px_W} {r : Option Value × px_W} {x1 x2 x3 s0 : Int} (h : ec_E hb_X n 93 19 [(0, .inr (.inl 93)), (1, .inl x1), (2, .inl x2), (3, .inl x3)] [.inl s0] w r) : ec_tw s0 ≠ ec_tw 0 → ec_tw x2 ≠ ec_tw (-3) → ec_tw (ec_rd w 35 (ec_tw x3)) < ec_tw x2 → ((True ∧ 0 ≤ ec_tw x3 ∧ ec_tw x3 < 10) ∧ 0 ≤ ec_tw x3 ∧ ec_tw x3 < 10) ∧ ec_E hb_X n 93 45 [(0, .inr (.inl 93)), (1, .inl x1), (2, .inl (ec_rd w 35 (ec_tw x3))), (3, .inl x3)] [] w r := by
  have h2 := hb_ecw ((4, 1, 1, 0, 0) :: (0, 0, 2, 0, 0) :: (0, 2, 0, 0, (-3)) :: (4, 2, 1, 0, 0) :: (0, 1, 0, 0, 0) :: (5, 1, 29, 99, 0) :: (0, 0, 3, 0, 0) :: (5, 2, 35, 0, 10) :: (0, 0, 2, 0, 0) :: (4, 2, 2, 0, 0) :: (0, 1, 0, 0, 0) :: (5, 1, 29, 99, 0) :: (0, 0, 3, 0, 0) :: (5, 2, 35, 0, 10) :: (0, 3, 2, 0, 0) :: (6, 0, 45, 4, 0) :: []) (by decide +kernel) h
  exact h2
theorem eg93_29_45_0 {n : Nat} {w : px_W} {r : Option Value × px_W} {x1 x2 x3 : Int} (h : ec_E hb_X n 93 45 [(0, .inr (.inl 93)), (1, .inl x1), (2, .inl x2), (3, .inl x3)] [] w r) : True ∧ ec_E hb_X n 93 5 [(0, .inr (.inl 93)), (1, .inl x1), (2, .inl x2), (3, .inl (x3 + 1))] [] w r := by
  have h2 := hb_ecw ((0, 5, 3, 0, 1) :: (4, 0, 0, 0, 0) :: (6, 0, 5, 4, 0) :: []) (by decide +kernel) h
  exact h2
/-! X12_farOf -/
theorem eg229_151_0_0 {n : Nat} {w : px_W} {r : Option Value × px_W} {x1 : Int} (h : ec_E hb_X n 229 0 [(0, .inr (.inl 215)), (1, .inl x1)] [] w r) : ec_tw 0 ≤ ec_tw ((ec_rd w 152 (ec_tw (248 + (6 * x1)))) - 50) → ((True ∧ 0 ≤ ec_tw (248 + (6 * x1)) ∧ ec_tw (248 + (6 * x1)) < 1580) ∧ 0 ≤ ec_tw ((248 + (6 * x1)) + 1) ∧ ec_tw ((248 + (6 * x1)) + 1) < 1580) ∧ ec_E hb_X n 229 46 [(0, .inr (.inl 215)), (1, .inl x1), (2, .inl ((ec_rd w 152 (ec_tw (248 + (6 * x1)))) - 50)), (3, .inl ((ec_rd w 152 (ec_tw ((248 + (6 * x1)) + 1))) - 50))] [.inl ((ec_rd w 152 (ec_tw (248 + (6 * x1)))) - 50)] w r := by
  have h2 := hb_ecw ((0, 1, 0, 0, 0) :: (5, 1, 151, 216, 0) :: (0, 2, 0, 0, 248) :: (0, 2, 0, 0, 6) :: (0, 0, 1, 0, 0) :: (1, 2, 0, 0, 0) :: (1, 0, 0, 0, 0) :: (5, 2, 152, 0, 1580) :: (0, 2, 0, 0, 50) :: (1, 1, 0, 0, 0) :: (0, 3, 2, 0, 0) :: (0, 1, 0, 0, 0) :: (5, 1, 151, 216, 0) :: (0, 2, 0, 0, 248) :: (0, 2, 0, 0, 6) :: (0, 0, 1, 0, 0) :: (1, 2, 0, 0, 0) :: (1, 0, 0, 0, 0) :: (0, 2, 0, 0, 1) :: (1, 0, 0, 0, 0) :: (5, 2, 152, 0, 1580) :: (0, 2, 0, 0, 50) :: (1, 1, 0, 0, 0) :: (0, 3, 3, 0, 0) :: (0, 0, 2, 0, 0) :: (4, 1, 3, 1, 0) :: (0, 0, 2, 0, 0) :: (6, 0, 46, 4, 0) :: []) (by decide +kernel) h
  exact h2
theorem eg229_151_0_1 {n : Nat} {w : px_W} {r : Option Value × px_W} {x1 : Int} (h : ec_E hb_X n 229 0 [(0, .inr (.inl 215)), (1, .inl x1)] [] w r) : ec_tw ((ec_rd w 152 (ec_tw (248 + (6 * x1)))) - 50) < ec_tw 0 → ((True ∧ 0 ≤ ec_tw (248 + (6 * x1)) ∧ ec_tw (248 + (6 * x1)) < 1580) ∧ 0 ≤ ec_tw ((248 + (6 * x1)) + 1) ∧ ec_tw ((248 + (6 * x1)) + 1) < 1580) ∧ ec_E hb_X n 229 46 [(0, .inr (.inl 215)), (1, .inl x1), (2, .inl ((ec_rd w 152 (ec_tw (248 + (6 * x1)))) - 50)), (3, .inl ((ec_rd w 152 (ec_tw ((248 + (6 * x1)) + 1))) - 50))] [.inl (-((ec_rd w 152 (ec_tw (248 + (6 * x1)))) - 50))] w r := by
  have h2 := hb_ecw ((0, 1, 0, 0, 0) :: (5, 1, 151, 216, 0) :: (0, 2, 0, 0, 248) :: (0, 2, 0, 0, 6) :: (0, 0, 1, 0, 0) :: (1, 2, 0, 0, 0) :: (1, 0, 0, 0, 0) :: (5, 2, 152, 0, 1580) :: (0, 2, 0, 0, 50) :: (1, 1, 0, 0, 0) :: (0, 3, 2, 0, 0) :: (0, 1, 0, 0, 0) :: (5, 1, 151, 216, 0) :: (0, 2, 0, 0, 248) :: (0, 2, 0, 0, 6) :: (0, 0, 1, 0, 0) :: (1, 2, 0, 0, 0) :: (1, 0, 0, 0, 0) :: (0, 2, 0, 0, 1) :: (1, 0, 0, 0, 0) :: (5, 2, 152, 0, 1580) :: (0, 2, 0, 0, 50) :: (1, 1, 0, 0, 0) :: (0, 3, 3, 0, 0) :: (0, 0, 2, 0, 0) :: (4, 1, 2, 0, 0) :: (0, 0, 2, 0, 0) :: (3, 4, 0, 0, 0) :: (4, 0, 0, 0, 0) :: (6, 0, 46, 4, 0) :: []) (by decide +kernel) h
  exact h2
theorem eg229_151_46_0 {n : Nat} {w : px_W} {r : Option Value × px_W} {x1 x2 x3 s0 : Int} (h : ec_E hb_X n 229 46 [(0, .inr (.inl 215)), (1, .inl x1), (2, .inl x2), (3, .inl x3)] [.inl s0] w r) : ec_tw 0 ≤ ec_tw x3 → True ∧ r = (ec_R (s0 + x3), w) ∧ ec_W hb_A w := by
  have h2 := hb_ecw ((0, 0, 3, 0, 0) :: (4, 1, 3, 1, 0) :: (0, 0, 3, 0, 0) :: (1, 0, 0, 0, 0) :: (6, 3, 0, 0, 0) :: []) (by decide +kernel) h
  exact h2
theorem eg229_151_46_1 {n : Nat} {w : px_W} {r : Option Value × px_W} {x1 x2 x3 s0 : Int} (h : ec_E hb_X n 229 46 [(0, .inr (.inl 215)), (1, .inl x1), (2, .inl x2), (3, .inl x3)] [.inl s0] w r) : ec_tw x3 < ec_tw 0 → True ∧ r = (ec_R (s0 + (-x3)), w) ∧ ec_W hb_A w := by
  have h2 := hb_ecw ((0, 0, 3, 0, 0) :: (4, 1, 2, 0, 0) :: (0, 0, 3, 0, 0) :: (3, 4, 0, 0, 0) :: (4, 0, 0, 0, 0) :: (1, 0, 0, 0, 0) :: (6, 3, 0, 0, 0) :: []) (by decide +kernel) h
  exact h2
/-! X12_doesHear -/
theorem eg232_151_0_0 {n : Nat} {w : px_W} {r : Option Value × px_W} {x1 x2 : Int} (h : ec_E hb_X n 232 0 [(0, .inr (.inl 215)), (1, .inl x1), (2, .inl x2)] [] w r) : ((True ∧ 0 ≤ ec_tw ((248 + (6 * x1)) + 3) ∧ ec_tw ((248 + (6 * x1)) + 3) < 1580) ∧ 0 ≤ ec_tw ((248 + (6 * x1)) + 4) ∧ ec_tw ((248 + (6 * x1)) + 4) < 1580) ∧ ∃ (v : Option Value) (w1 : px_W), ec_E hb_X n 182 0 [(0, .inl x2), (1, .inl (ec_rd w 152 (ec_tw ((248 + (6 * x1)) + 3)))), (2, .inl (ec_rd w 152 (ec_tw ((248 + (6 * x1)) + 4))))] [] w (v, w1) ∧ ∀ zz : Int, v = ec_R zz → ec_W hb_A w1 → ec_E hb_X n 232 29 [(0, .inr (.inl 215)), (1, .inl x1), (2, .inl x2), (3, .inl (248 + (6 * x1)))] [.inl zz] w1 r := by
  have h2 := hb_ecw ((0, 2, 0, 0, 248) :: (0, 2, 0, 0, 6) :: (0, 0, 1, 0, 0) :: (1, 2, 0, 0, 0) :: (1, 0, 0, 0, 0) :: (0, 3, 3, 0, 0) :: (0, 0, 2, 0, 0) :: (0, 1, 0, 0, 0) :: (5, 1, 151, 216, 0) :: (0, 0, 3, 0, 0) :: (0, 2, 0, 0, 3) :: (1, 0, 0, 0, 0) :: (5, 2, 152, 0, 1580) :: (0, 1, 0, 0, 0) :: (5, 1, 151, 216, 0) :: (0, 0, 3, 0, 0) :: (0, 2, 0, 0, 4) :: (1, 0, 0, 0, 0) :: (5, 2, 152, 0, 1580) :: (6, 1, 182, 3, 29) :: []) (by decide +kernel) h
  exact h2
theorem eg232_151_29_0 {n : Nat} {w : px_W} {r : Option Value × px_W} {x1 x2 x3 s0 : Int} (h : ec_E hb_X n 232 29 [(0, .inr (.inl 215)), (1, .inl x1), (2, .inl x2), (3, .inl x3)] [.inl s0] w r) : ec_tw s0 = ec_tw 0 → True ∧ r = (ec_R 0, w) ∧ ec_W hb_A w := by
  have h2 := hb_ecw ((4, 1, 0, 1, 0) :: (0, 2, 0, 0, 0) :: (6, 3, 0, 0, 0) :: []) (by decide +kernel) h
  exact h2
theorem eg232_151_29_1 {n : Nat} {w : px_W} {r : Option Value × px_W} {x1 x2 x3 s0 : Int} (h : ec_E hb_X n 232 29 [(0, .inr (.inl 215)), (1, .inl x1), (2, .inl x2), (3, .inl x3)] [.inl s0] w r) : ec_tw s0 ≠ ec_tw 0 → True ∧ ∃ (v : Option Value) (w1 : px_W), ec_E hb_X n 229 0 [(0, .inr (.inl 215)), (1, .inl x1)] [] w (v, w1) ∧ ∀ zz : Int, v = ec_R zz → ec_W hb_A w1 → ec_E hb_X n 232 37 [(0, .inr (.inl 215)), (1, .inl x1), (2, .inl x2), (3, .inl x3)] [.inl zz] w1 r := by
  have h2 := hb_ecw ((4, 1, 1, 0, 0) :: (0, 1, 0, 0, 0) :: (0, 0, 1, 0, 0) :: (6, 1, 229, 2, 37) :: []) (by decide +kernel) h
  exact h2
theorem eg232_151_37_0 {n : Nat} {w : px_W} {r : Option Value × px_W} {x1 x2 x3 s0 : Int} (h : ec_E hb_X n 232 37 [(0, .inr (.inl 215)), (1, .inl x1), (2, .inl x2), (3, .inl x3)] [.inl s0] w r) : ec_tw (ec_rd w 152 (ec_tw (x3 + 5))) < ec_tw s0 → (True ∧ 0 ≤ ec_tw (x3 + 5) ∧ ec_tw (x3 + 5) < 1580) ∧ r = (ec_R 0, w) ∧ ec_W hb_A w := by
  have h2 := hb_ecw ((0, 1, 0, 0, 0) :: (5, 1, 151, 216, 0) :: (0, 0, 3, 0, 0) :: (0, 2, 0, 0, 5) :: (1, 0, 0, 0, 0) :: (5, 2, 152, 0, 1580) :: (4, 2, 4, 1, 0) :: (0, 2, 0, 0, 0) :: (6, 3, 0, 0, 0) :: []) (by decide +kernel) h
  exact h2
theorem eg232_151_37_1 {n : Nat} {w : px_W} {r : Option Value × px_W} {x1 x2 x3 s0 : Int} (h : ec_E hb_X n 232 37 [(0, .inr (.inl 215)), (1, .inl x1), (2, .inl x2), (3, .inl x3)] [.inl s0] w r) : ec_tw s0 ≤ ec_tw (ec_rd w 152 (ec_tw (x3 + 5))) → (True ∧ 0 ≤ ec_tw (x3 + 5) ∧ ec_tw (x3 + 5) < 1580) ∧ r = (ec_R 1, w) ∧ ec_W hb_A w := by
  have h2 := hb_ecw ((0, 1, 0, 0, 0) :: (5, 1, 151, 216, 0) :: (0, 0, 3, 0, 0) :: (0, 2, 0, 0, 5) :: (1, 0, 0, 0, 0) :: (5, 2, 152, 0, 1580) :: (4, 2, 5, 0, 0) :: (0, 2, 0, 0, 1) :: (4, 0, 0, 0, 0) :: (6, 3, 0, 0, 0) :: []) (by decide +kernel) h
  exact h2
/-! X12_earliest -/
theorem eg234_151_0_0 {n : Nat} {w : px_W} {r : Option Value × px_W} {x1 : Int} (h : ec_E hb_X n 234 0 [(0, .inr (.inl 215)), (1, .inl x1)] [] w r) : True ∧ ec_E hb_X n 234 5 [(0, .inr (.inl 215)), (1, .inl x1), (2, .inl 1000000), (3, .inl 0)] [] w r := by
  have h2 := hb_ecw ((0, 2, 0, 0, 1000000) :: (0, 3, 2, 0, 0) :: (0, 2, 0, 0, 0) :: (0, 3, 3, 0, 0) :: (6, 0, 5, 4, 0) :: []) (by decide +kernel) h
  exact h2
theorem eg234_151_5_0 {n : Nat} {w : px_W} {r : Option Value × px_W} {x1 x2 x3 : Int} (h : ec_E hb_X n 234 5 [(0, .inr (.inl 215)), (1, .inl x1), (2, .inl x2), (3, .inl x3)] [] w r) : ec_tw (ec_rd w 152 (ec_tw 7)) ≤ ec_tw x3 → (True ∧ 0 ≤ ec_tw 7 ∧ ec_tw 7 < 1580) ∧ r = (ec_R x2, w) ∧ ec_W hb_A w := by
  have h2 := hb_ecw ((0, 0, 3, 0, 0) :: (0, 1, 0, 0, 0) :: (5, 1, 151, 216, 0) :: (0, 2, 0, 0, 7) :: (5, 2, 152, 0, 1580) :: (4, 2, 3, 1, 0) :: (0, 0, 2, 0, 0) :: (6, 3, 0, 0, 0) :: []) (by decide +kernel) h
  exact h2
theorem eg234_151_5_1 {n : Nat} {w : px_W} {r : Option Value × px_W} {x1 x2 x3 : Int} (h : ec_E hb_X n 234 5 [(0, .inr (.inl 215)), (1, .inl x1), (2, .inl x2), (3, .inl x3)] [] w r) : ec_tw x3 < ec_tw (ec_rd w 152 (ec_tw 7)) → ((True ∧ 0 ≤ ec_tw 7 ∧ ec_tw 7 < 1580) ∧ 0 ≤ ec_tw (284 + x3) ∧ ec_tw (284 + x3) < 1580) ∧ ∃ (v : Option Value) (w1 : px_W), ec_E hb_X n 232 0 [(0, .inr (.inl 215)), (1, .inl x1), (2, .inl (ec_rd w 152 (ec_tw (284 + x3))))] [] w (v, w1) ∧ ∀ zz : Int, v = ec_R zz → ec_W hb_A w1 → ec_E hb_X n 234 35 [(0, .inr (.inl 215)), (1, .inl x1), (2, .inl x2), (3, .inl x3), (4, .inl (ec_rd w 152 (ec_tw (284 + x3))))] [.inl zz] w1 r := by
  have h2 := hb_ecw ((0, 0, 3, 0, 0) :: (0, 1, 0, 0, 0) :: (5, 1, 151, 216, 0) :: (0, 2, 0, 0, 7) :: (5, 2, 152, 0, 1580) :: (4, 2, 2, 0, 0) :: (0, 1, 0, 0, 0) :: (5, 1, 151, 216, 0) :: (0, 2, 0, 0, 284) :: (0, 0, 3, 0, 0) :: (1, 0, 0, 0, 0) :: (5, 2, 152, 0, 1580) :: (0, 3, 4, 0, 0) :: (0, 1, 0, 0, 0) :: (0, 0, 1, 0, 0) :: (0, 0, 4, 0, 0) :: (6, 1, 232, 3, 35) :: []) (by decide +kernel) h
  exact h2
theorem eg234_151_35_0 {n : Nat} {w : px_W} {r : Option Value × px_W} {x1 x2 x3 x4 s0 : Int} (h : ec_E hb_X n 234 35 [(0, .inr (.inl 215)), (1, .inl x1), (2, .inl x2), (3, .inl x3), (4, .inl x4)] [.inl s0] w r) : ec_tw s0 = ec_tw 0 → True ∧ ec_E hb_X n 234 50 [(0, .inr (.inl 215)), (1, .inl x1), (2, .inl x2), (3, .inl x3), (4, .inl x4)] [.inl x2] w r := by
  have h2 := hb_ecw ((4, 1, 0, 1, 0) :: (0, 0, 2, 0, 0) :: (6, 0, 50, 5, 0) :: []) (by decide +kernel) h
  exact h2
theorem eg234_151_35_1 {n : Nat} {w : px_W} {r : Option Value × px_W} {x1 x2 x3 x4 s0 : Int} (h : ec_E hb_X n 234 35 [(0, .inr (.inl 215)), (1, .inl x1), (2, .inl x2), (3, .inl x3), (4, .inl x4)] [.inl s0] w r) : ec_tw s0 ≠ ec_tw 0 → ec_tw x2 ≤ ec_tw x4 → True ∧ ec_E hb_X n 234 50 [(0, .inr (.inl 215)), (1, .inl x1), (2, .inl x2), (3, .inl x3), (4, .inl x4)] [.inl x2] w r := by
  have h2 := hb_ecw ((4, 1, 1, 0, 0) :: (0, 0, 4, 0, 0) :: (0, 0, 2, 0, 0) :: (4, 2, 3, 1, 0) :: (0, 0, 2, 0, 0) :: (6, 0, 50, 5, 0) :: []) (by decide +kernel) h
  exact h2
theorem eg234_151_35_2 {n : Nat} {w : px_W} {r : Option Value × px_W} {x1 x2 x3 x4 s0 : Int} (h : ec_E hb_X n 234 35 [(0, .inr (.inl 215)), (1, .inl x1), (2, .inl x2), (3, .inl x3), (4, .inl x4)] [.inl s0] w r) : ec_tw s0 ≠ ec_tw 0 → ec_tw x4 < ec_tw x2 → True ∧ ec_E hb_X n 234 50 [(0, .inr (.inl 215)), (1, .inl x1), (2, .inl x2), (3, .inl x3), (4, .inl x4)] [.inl x4] w r := by
  have h2 := hb_ecw ((4, 1, 1, 0, 0) :: (0, 0, 4, 0, 0) :: (0, 0, 2, 0, 0) :: (4, 2, 2, 0, 0) :: (0, 0, 4, 0, 0) :: (4, 0, 0, 0, 0) :: (6, 0, 50, 5, 0) :: []) (by decide +kernel) h
  exact h2
theorem eg234_151_50_0 {n : Nat} {w : px_W} {r : Option Value × px_W} {x1 x2 x3 x4 s0 : Int} (h : ec_E hb_X n 234 50 [(0, .inr (.inl 215)), (1, .inl x1), (2, .inl x2), (3, .inl x3), (4, .inl x4)] [.inl s0] w r) : True ∧ ec_E hb_X n 234 5 [(0, .inr (.inl 215)), (1, .inl x1), (2, .inl s0), (3, .inl (x3 + 1))] [] w r := by
  have h2 := hb_ecw ((0, 3, 2, 0, 0) :: (0, 5, 3, 0, 1) :: (4, 0, 0, 0, 0) :: (6, 0, 5, 4, 0) :: []) (by decide +kernel) h
  exact h2
/-! X7_hearersOf -/
theorem eg91_29_0_0 {n : Nat} {w : px_W} {r : Option Value × px_W} {x1 : Int} (h : ec_E hb_X n 91 0 [(0, .inr (.inl 93)), (1, .inl x1)] [] w r) : True ∧ ec_E hb_X n 91 4 [(0, .inr (.inl 93)), (1, .inl x1), (2, .inl 0), (3, .inl 0)] [] w r := by
  have h2 := hb_ecw ((0, 2, 0, 0, 0) :: (0, 3, 2, 0, 0) :: (0, 2, 0, 0, 0) :: (0, 3, 3, 0, 0) :: (6, 0, 4, 4, 0) :: []) (by decide +kernel) h
  exact h2
theorem eg91_29_4_0 {n : Nat} {w : px_W} {r : Option Value × px_W} {x1 x2 x3 : Int} (h : ec_E hb_X n 91 4 [(0, .inr (.inl 93)), (1, .inl x1), (2, .inl x2), (3, .inl x3)] [] w r) : ec_tw (ec_fd w 29 1) ≤ ec_tw x3 → True ∧ r = (ec_R x2, w) ∧ ec_W hb_A w := by
  have h2 := hb_ecw ((0, 0, 3, 0, 0) :: (0, 1, 0, 0, 0) :: (5, 0, 29, 1, 0) :: (4, 2, 3, 1, 0) :: (0, 0, 2, 0, 0) :: (6, 3, 0, 0, 0) :: []) (by decide +kernel) h
  exact h2
theorem eg91_29_4_1 {n : Nat} {w : px_W} {r : Option Value × px_W} {x1 x2 x3 : Int} (h : ec_E hb_X n 91 4 [(0, .inr (.inl 93)), (1, .inl x1), (2, .inl x2), (3, .inl x3)] [] w r) : ec_tw x3 < ec_tw (ec_fd w 29 1) → True ∧ ∃ (v : Option Value) (w1 : px_W), ec_E hb_X n 92 0 [(0, .inr (.inl 93)), (1, .inl x3), (2, .inl x1)] [] w (v, w1) ∧ ∀ zz : Int, v = ec_R zz → ec_W hb_A w1 → ec_E hb_X n 91 19 [(0, .inr (.inl 93)), (1, .inl x1), (2, .inl x2), (3, .inl x3)] [.inl zz, .inl x2] w1 r := by
  have h2 := hb_ecw ((0, 0, 3, 0, 0) :: (0, 1, 0, 0, 0) :: (5, 0, 29, 1, 0) :: (4, 2, 2, 0, 0) :: (0, 0, 2, 0, 0) :: (0, 1, 0, 0, 0) :: (0, 0, 3, 0, 0) :: (0, 0, 1, 0, 0) :: (6, 1, 92, 3, 19) :: []) (by decide +kernel) h
  exact h2
theorem eg91_29_19_0 {n : Nat} {w : px_W} {r : Option Value × px_W} {x1 x2 x3 s0 s1 : Int} (h : ec_E hb_X n 91 19 [(0, .inr (.inl 93)), (1, .inl x1), (2, .inl x2), (3, .inl x3)] [.inl s1, .inl s0] w r) : ec_tw s1 = ec_tw 0 → True ∧ ec_E hb_X n 91 29 [(0, .inr (.inl 93)), (1, .inl x1), (2, .inl x2), (3, .inl x3)] [.inl 0, .inl s0] w r := by
  have h2 := hb_ecw ((4, 1, 0, 1, 0) :: (0, 2, 0, 0, 0) :: (6, 0, 29, 4, 0) :: []) (by decide +kernel) h
  exact h2
theorem eg91_29_19_1 {n : Nat} {w : px_W} {r : Option Value × px_W} {x1 x2 x3 s0 s1 : Int} (h : ec_E hb_X n 91 19 [(0, .inr (.inl 93)), (1, .inl x1), (2, .inl x2), (3, .inl x3)] [.inl s1, .inl s0] w r) : ec_tw s1 ≠ ec_tw 0 → True ∧ ec_E hb_X n 91 29 [(0, .inr (.inl 93)), (1, .inl x1), (2, .inl x2), (3, .inl x3)] [.inl (ec_shl 1 x3), .inl s0] w r := by
  have h2 := hb_ecw ((4, 1, 1, 0, 0) :: (0, 2, 0, 0, 1) :: (0, 0, 3, 0, 0) :: (1, 6, 0, 0, 0) :: (4, 0, 0, 0, 0) :: (6, 0, 29, 4, 0) :: []) (by decide +kernel) h
  exact h2
theorem eg91_29_29_0 {n : Nat} {w : px_W} {r : Option Value × px_W} {x1 x2 x3 s0 s1 : Int} (h : ec_E hb_X n 91 29 [(0, .inr (.inl 93)), (1, .inl x1), (2, .inl x2), (3, .inl x3)] [.inl s1, .inl s0] w r) : True ∧ ec_E hb_X n 91 4 [(0, .inr (.inl 93)), (1, .inl x1), (2, .inl (ec_or s0 s1)), (3, .inl (x3 + 1))] [] w r := by
  have h2 := hb_ecw ((1, 4, 0, 0, 0) :: (0, 3, 2, 0, 0) :: (0, 5, 3, 0, 1) :: (4, 0, 0, 0, 0) :: (6, 0, 4, 4, 0) :: []) (by decide +kernel) h
  exact h2
/-! X11_hears -/
theorem eg144_0_0_0 {n : Nat} {w : px_W} {r : Option Value × px_W} {x1 : Int} (h : ec_E hb_X n 144 0 [(0, .inr (.inl 64)), (1, .inl x1)] [] w r) : True ∧ ∃ (v : Option Value) (w1 : px_W), ec_E hb_X n 173 0 [(0, .inl x1), (1, .inl 0), (2, .inl ((ec_fd w 29 7) - 1))] [] w (v, w1) ∧ ∀ zz : Int, v = ec_R zz → ec_W hb_A w1 → ec_E hb_X n 144 14 [(0, .inr (.inl 64)), (1, .inl x1)] [.inl zz] w1 r := by
  have h2 := hb_ecw ((0, 0, 1, 0, 0) :: (0, 2, 0, 0, 0) :: (0, 1, 0, 0, 0) :: (5, 1, 0, 93, 0) :: (5, 0, 29, 7, 0) :: (0, 2, 0, 0, 1) :: (1, 1, 0, 0, 0) :: (6, 1, 173, 3, 14) :: []) (by decide +kernel) h
  exact h2
theorem eg144_0_14_0 {n : Nat} {w : px_W} {r : Option Value × px_W} {x1 s0 : Int} (h : ec_E hb_X n 144 14 [(0, .inr (.inl 64)), (1, .inl x1)] [.inl s0] w r) : ec_tw s0 = ec_tw 0 → True ∧ r = (ec_R (-1), w) ∧ ec_W hb_A w := by
  have h2 := hb_ecw ((4, 1, 0, 1, 0) :: (0, 2, 0, 0, (-1)) :: (6, 3, 0, 0, 0) :: []) (by decide +kernel) h
  exact h2
theorem eg144_0_14_1 {n : Nat} {w : px_W} {r : Option Value × px_W} {x1 s0 : Int} (h : ec_E hb_X n 144 14 [(0, .inr (.inl 64)), (1, .inl x1)] [.inl s0] w r) : ec_tw s0 ≠ ec_tw 0 → True ∧ ∃ (v : Option Value) (w1 : px_W), ec_E hb_X n 91 0 [(0, .inr (.inl 93)), (1, .inl x1)] [] w (v, w1) ∧ ∀ zz : Int, v = ec_R zz → ec_W hb_A w1 → ec_E hb_X n 144 25 [(0, .inr (.inl 64)), (1, .inl x1)] [.inl zz] w1 r := by
  have h2 := hb_ecw ((4, 1, 1, 0, 0) :: (0, 1, 0, 0, 0) :: (5, 1, 0, 93, 0) :: (0, 0, 1, 0, 0) :: (6, 1, 91, 2, 25) :: []) (by decide +kernel) h
  exact h2
theorem eg144_0_25_0 {n : Nat} {w : px_W} {r : Option Value × px_W} {x1 s0 : Int} (h : ec_E hb_X n 144 25 [(0, .inr (.inl 64)), (1, .inl x1)] [.inl s0] w r) : True ∧ r = (ec_R s0, w) ∧ ec_W hb_A w := by
  have h2 := hb_ecw ((4, 0, 0, 0, 0) :: (6, 3, 0, 0, 0) :: []) (by decide +kernel) h
  exact h2
/-! X12_hears -/
theorem eg233_151_0_0 {n : Nat} {w : px_W} {r : Option Value × px_W} {x1 : Int} (h : ec_E hb_X n 233 0 [(0, .inr (.inl 215)), (1, .inl x1)] [] w r) : (True ∧ 0 ≤ ec_tw 7 ∧ ec_tw 7 < 1580) ∧ ∃ (v : Option Value) (w1 : px_W), ec_E hb_X n 182 0 [(0, .inl x1), (1, .inl 0), (2, .inl ((ec_rd w 152 (ec_tw 7)) - 1))] [] w (v, w1) ∧ ∀ zz : Int, v = ec_R zz → ec_W hb_A w1 → ec_E hb_X n 233 14 [(0, .inr (.inl 215)), (1, .inl x1)] [.inl zz] w1 r := by
  have h2 := hb_ecw ((0, 0, 1, 0, 0) :: (0, 2, 0, 0, 0) :: (0, 1, 0, 0, 0) :: (5, 1, 151, 216, 0) :: (0, 2, 0, 0, 7) :: (5, 2, 152, 0, 1580) :: (0, 2, 0, 0, 1) :: (1, 1, 0, 0, 0) :: (6, 1, 182, 3, 14) :: []) (by decide +kernel) h
  exact h2
theorem eg233_151_14_0 {n : Nat} {w : px_W} {r : Option Value × px_W} {x1 s0 : Int} (h : ec_E hb_X n 233 14 [(0, .inr (.inl 215)), (1, .inl x1)] [.inl s0] w r) : ec_tw s0 ≠ ec_tw 0 → True ∧ ec_E hb_X n 233 23 [(0, .inr (.inl 215)), (1, .inl x1), (2, .inl 0), (3, .inl 0)] [] w r := by
  have h2 := hb_ecw ((4, 1, 1, 1, 0) :: (0, 2, 0, 0, 0) :: (0, 3, 2, 0, 0) :: (0, 2, 0, 0, 0) :: (0, 3, 3, 0, 0) :: (6, 0, 23, 4, 0) :: []) (by decide +kernel) h
  exact h2
theorem eg233_151_14_1 {n : Nat} {w : px_W} {r : Option Value × px_W} {x1 s0 : Int} (h : ec_E hb_X n 233 14 [(0, .inr (.inl 215)), (1, .inl x1)] [.inl s0] w r) : ec_tw s0 = ec_tw 0 → True ∧ r = (ec_R (-1), w) ∧ ec_W hb_A w := by
  have h2 := hb_ecw ((4, 1, 0, 0, 0) :: (0, 2, 0, 0, (-1)) :: (6, 3, 0, 0, 0) :: []) (by decide +kernel) h
  exact h2
theorem eg233_151_23_0 {n : Nat} {w : px_W} {r : Option Value × px_W} {x1 x2 x3 : Int} (h : ec_E hb_X n 233 23 [(0, .inr (.inl 215)), (1, .inl x1), (2, .inl x2), (3, .inl x3)] [] w r) : ec_tw (ec_rd w 152 (ec_tw 6)) ≤ ec_tw x3 → (True ∧ 0 ≤ ec_tw 6 ∧ ec_tw 6 < 1580) ∧ r = (ec_R x2, w) ∧ ec_W hb_A w := by
  have h2 := hb_ecw ((0, 0, 3, 0, 0) :: (0, 1, 0, 0, 0) :: (5, 1, 151, 216, 0) :: (0, 2, 0, 0, 6) :: (5, 2, 152, 0, 1580) :: (4, 2, 3, 1, 0) :: (0, 0, 2, 0, 0) :: (6, 3, 0, 0, 0) :: []) (by decide +kernel) h
  exact h2
theorem eg233_151_23_1 {n : Nat} {w : px_W} {r : Option Value × px_W} {x1 x2 x3 : Int} (h : ec_E hb_X n 233 23 [(0, .inr (.inl 215)), (1, .inl x1), (2, .inl x2), (3, .inl x3)] [] w r) : ec_tw x3 < ec_tw (ec_rd w 152 (ec_tw 6)) → ((True ∧ 0 ≤ ec_tw 6 ∧ ec_tw 6 < 1580) ∧ 0 ≤ ec_tw (284 + x1) ∧ ec_tw (284 + x1) < 1580) ∧ ∃ (v : Option Value) (w1 : px_W), ec_E hb_X n 232 0 [(0, .inr (.inl 215)), (1, .inl x3), (2, .inl (ec_rd w 152 (ec_tw (284 + x1))))] [] w (v, w1) ∧ ∀ zz : Int, v = ec_R zz → ec_W hb_A w1 → ec_E hb_X n 233 50 [(0, .inr (.inl 215)), (1, .inl x1), (2, .inl x2), (3, .inl x3)] [.inl zz, .inl x2] w1 r := by
  have h2 := hb_ecw ((0, 0, 3, 0, 0) :: (0, 1, 0, 0, 0) :: (5, 1, 151, 216, 0) :: (0, 2, 0, 0, 6) :: (5, 2, 152, 0, 1580) :: (4, 2, 2, 0, 0) :: (0, 0, 2, 0, 0) :: (0, 1, 0, 0, 0) :: (0, 0, 3, 0, 0) :: (0, 1, 0, 0, 0) :: (5, 1, 151, 216, 0) :: (0, 2, 0, 0, 284) :: (0, 0, 1, 0, 0) :: (1, 0, 0, 0, 0) :: (5, 2, 152, 0, 1580) :: (6, 1, 232, 3, 50) :: []) (by decide +kernel) h
  exact h2
theorem eg233_151_50_0 {n : Nat} {w : px_W} {r : Option Value × px_W} {x1 x2 x3 s0 s1 : Int} (h : ec_E hb_X n 233 50 [(0, .inr (.inl 215)), (1, .inl x1), (2, .inl x2), (3, .inl x3)] [.inl s1, .inl s0] w r) : ec_tw s1 = ec_tw 0 → True ∧ ec_E hb_X n 233 60 [(0, .inr (.inl 215)), (1, .inl x1), (2, .inl x2), (3, .inl x3)] [.inl 0, .inl s0] w r := by
  have h2 := hb_ecw ((4, 1, 0, 1, 0) :: (0, 2, 0, 0, 0) :: (6, 0, 60, 4, 0) :: []) (by decide +kernel) h
  exact h2
theorem eg233_151_50_1 {n : Nat} {w : px_W} {r : Option Value × px_W} {x1 x2 x3 s0 s1 : Int} (h : ec_E hb_X n 233 50 [(0, .inr (.inl 215)), (1, .inl x1), (2, .inl x2), (3, .inl x3)] [.inl s1, .inl s0] w r) : ec_tw s1 ≠ ec_tw 0 → True ∧ ec_E hb_X n 233 60 [(0, .inr (.inl 215)), (1, .inl x1), (2, .inl x2), (3, .inl x3)] [.inl (ec_shl 1 x3), .inl s0] w r := by
  have h2 := hb_ecw ((4, 1, 1, 0, 0) :: (0, 2, 0, 0, 1) :: (0, 0, 3, 0, 0) :: (1, 6, 0, 0, 0) :: (4, 0, 0, 0, 0) :: (6, 0, 60, 4, 0) :: []) (by decide +kernel) h
  exact h2
theorem eg233_151_60_0 {n : Nat} {w : px_W} {r : Option Value × px_W} {x1 x2 x3 s0 s1 : Int} (h : ec_E hb_X n 233 60 [(0, .inr (.inl 215)), (1, .inl x1), (2, .inl x2), (3, .inl x3)] [.inl s1, .inl s0] w r) : True ∧ ec_E hb_X n 233 23 [(0, .inr (.inl 215)), (1, .inl x1), (2, .inl (ec_or s0 s1)), (3, .inl (x3 + 1))] [] w r := by
  have h2 := hb_ecw ((1, 4, 0, 0, 0) :: (0, 3, 2, 0, 0) :: (0, 5, 3, 0, 1) :: (4, 0, 0, 0, 0) :: (6, 0, 23, 4, 0) :: []) (by decide +kernel) h
  exact h2

end

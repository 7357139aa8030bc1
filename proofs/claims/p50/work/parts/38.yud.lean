noncomputable section
/-! X2_place -/
theorem eg30_142_0_0 {n : Nat} {w : px_W} {r : Option Value × px_W} {x1 x2 x3 : Int} (h : ec_E hb_X n 30 0 [(0, .inr (.inl 206)), (1, .inl x1), (2, .inl x2), (3, .inl x3)] [] w r) : ec_tw x2 ≠ ec_tw 5 → True ∧ ec_E hb_X n 30 22 [(0, .inr (.inl 206)), (1, .inl x1), (2, .inl x2), (3, .inl x3), (4, .inl 0)] [] w r := by
  have h2 := hb_ecw ((0, 0, 2, 0, 0) :: (0, 2, 0, 0, 5) :: (4, 2, 1, 1, 0) :: (0, 2, 0, 0, 0) :: (0, 3, 4, 0, 0) :: (6, 0, 22, 5, 0) :: []) (by decide +kernel) h
  exact h2
theorem eg30_142_0_1 {n : Nat} {w : px_W} {r : Option Value × px_W} {x1 x2 x3 : Int} (h : ec_E hb_X n 30 0 [(0, .inr (.inl 206)), (1, .inl x1), (2, .inl x2), (3, .inl x3)] [] w r) : ec_tw x2 = ec_tw 5 → ec_tw (ec_rd w 143 (ec_tw x3)) ≠ ec_tw (-1) → (True ∧ 0 ≤ ec_tw x3 ∧ ec_tw x3 < 4) ∧ ec_E hb_X n 30 22 [(0, .inr (.inl 206)), (1, .inl x1), (2, .inl x2), (3, .inl x3), (4, .inl 0)] [] w r := by
  have h2 := hb_ecw ((0, 0, 2, 0, 0) :: (0, 2, 0, 0, 5) :: (4, 2, 0, 0, 0) :: (0, 1, 0, 0, 0) :: (5, 1, 142, 207, 0) :: (0, 0, 3, 0, 0) :: (5, 2, 143, 0, 4) :: (0, 2, 0, 0, (-1)) :: (4, 2, 1, 1, 0) :: (0, 2, 0, 0, 0) :: (0, 3, 4, 0, 0) :: (6, 0, 22, 5, 0) :: []) (by decide +kernel) h
  exact h2
theorem eg30_142_0_2 {n : Nat} {w : px_W} {r : Option Value × px_W} {x1 x2 x3 : Int} (h : ec_E hb_X n 30 0 [(0, .inr (.inl 206)), (1, .inl x1), (2, .inl x2), (3, .inl x3)] [] w r) : ec_tw x2 = ec_tw 5 → ec_tw (ec_rd w 143 (ec_tw x3)) = ec_tw (-1) → (True ∧ 0 ≤ ec_tw x3 ∧ ec_tw x3 < 4) ∧ ec_E hb_X n 30 22 [(0, .inr (.inl 206)), (1, .inl x1), (2, .inl x2), (3, .inl x3), (4, .inl 1)] [] w r := by
  have h2 := hb_ecw ((0, 0, 2, 0, 0) :: (0, 2, 0, 0, 5) :: (4, 2, 0, 0, 0) :: (0, 1, 0, 0, 0) :: (5, 1, 142, 207, 0) :: (0, 0, 3, 0, 0) :: (5, 2, 143, 0, 4) :: (0, 2, 0, 0, (-1)) :: (4, 2, 0, 0, 0) :: (0, 2, 0, 0, 1) :: (4, 0, 0, 0, 0) :: (0, 3, 4, 0, 0) :: (6, 0, 22, 5, 0) :: []) (by decide +kernel) h
  exact h2
theorem eg30_142_22_0 {n : Nat} {w : px_W} {r : Option Value × px_W} {x1 x2 x3 x4 : Int} (h : ec_E hb_X n 30 22 [(0, .inr (.inl 206)), (1, .inl x1), (2, .inl x2), (3, .inl x3), (4, .inl x4)] [] w r) : ec_tw x4 = ec_tw 0 → (True ∧ 0 ≤ ec_tw x1 ∧ ec_tw x1 < 4) ∧ ec_E hb_X n 30 39 [(0, .inr (.inl 206)), (1, .inl x1), (2, .inl x2), (3, .inl x3), (4, .inl x4)] [] (ec_wr w 144 (ec_tw x1) x2) r := by
  have h2 := hb_ecw ((0, 1, 0, 0, 0) :: (5, 1, 142, 208, 0) :: (0, 0, 1, 0, 0) :: (0, 0, 4, 0, 0) :: (4, 1, 0, 1, 0) :: (0, 0, 2, 0, 0) :: (5, 3, 144, 0, 4) :: (6, 0, 39, 5, 0) :: []) (by decide +kernel) h
  exact h2
theorem eg30_142_22_1 {n : Nat} {w : px_W} {r : Option Value × px_W} {x1 x2 x3 x4 : Int} (h : ec_E hb_X n 30 22 [(0, .inr (.inl 206)), (1, .inl x1), (2, .inl x2), (3, .inl x3), (4, .inl x4)] [] w r) : ec_tw x4 ≠ ec_tw 0 → (True ∧ 0 ≤ ec_tw x1 ∧ ec_tw x1 < 4) ∧ ec_E hb_X n 30 39 [(0, .inr (.inl 206)), (1, .inl x1), (2, .inl x2), (3, .inl x3), (4, .inl x4)] [] (ec_wr w 144 (ec_tw x1) 6) r := by
  have h2 := hb_ecw ((0, 1, 0, 0, 0) :: (5, 1, 142, 208, 0) :: (0, 0, 1, 0, 0) :: (0, 0, 4, 0, 0) :: (4, 1, 1, 0, 0) :: (0, 2, 0, 0, 6) :: (4, 0, 0, 0, 0) :: (5, 3, 144, 0, 4) :: (6, 0, 39, 5, 0) :: []) (by decide +kernel) h
  exact h2
theorem eg30_142_39_0 {n : Nat} {w : px_W} {r : Option Value × px_W} {x1 x2 x3 x4 : Int} (h : ec_E hb_X n 30 39 [(0, .inr (.inl 206)), (1, .inl x1), (2, .inl x2), (3, .inl x3), (4, .inl x4)] [] w r) : ec_tw x2 ≠ ec_tw 5 → (True ∧ 0 ≤ ec_tw x1 ∧ ec_tw x1 < 4) ∧ ec_E hb_X n 30 60 [(0, .inr (.inl 206)), (1, .inl x1), (2, .inl x2), (3, .inl x3), (4, .inl x4)] [] (ec_wr w 145 (ec_tw x1) x3) r := by
  have h2 := hb_ecw ((0, 1, 0, 0, 0) :: (5, 1, 142, 209, 0) :: (0, 0, 1, 0, 0) :: (0, 0, 2, 0, 0) :: (0, 2, 0, 0, 5) :: (4, 2, 1, 1, 0) :: (0, 0, 3, 0, 0) :: (5, 3, 145, 0, 4) :: (6, 0, 60, 5, 0) :: []) (by decide +kernel) h
  exact h2
theorem eg30_142_39_1 {n : Nat} {w : px_W} {r : Option Value × px_W} {x1 x2 x3 x4 : Int} (h : ec_E hb_X n 30 39 [(0, .inr (.inl 206)), (1, .inl x1), (2, .inl x2), (3, .inl x3), (4, .inl x4)] [] w r) : ec_tw x2 = ec_tw 5 → ((True ∧ 0 ≤ ec_tw x3 ∧ ec_tw x3 < 4) ∧ 0 ≤ ec_tw x1 ∧ ec_tw x1 < 4) ∧ ec_E hb_X n 30 60 [(0, .inr (.inl 206)), (1, .inl x1), (2, .inl x2), (3, .inl x3), (4, .inl x4)] [] (ec_wr w 145 (ec_tw x1) (ec_rd w 147 (ec_tw x3))) r := by
  have h2 := hb_ecw ((0, 1, 0, 0, 0) :: (5, 1, 142, 209, 0) :: (0, 0, 1, 0, 0) :: (0, 0, 2, 0, 0) :: (0, 2, 0, 0, 5) :: (4, 2, 0, 0, 0) :: (0, 1, 0, 0, 0) :: (5, 1, 142, 211, 0) :: (0, 0, 3, 0, 0) :: (5, 2, 147, 0, 4) :: (4, 0, 0, 0, 0) :: (5, 3, 145, 0, 4) :: (6, 0, 60, 5, 0) :: []) (by decide +kernel) h
  exact h2
theorem eg30_142_60_0 {n : Nat} {w : px_W} {r : Option Value × px_W} {x1 x2 x3 x4 : Int} (h : ec_E hb_X n 30 60 [(0, .inr (.inl 206)), (1, .inl x1), (2, .inl x2), (3, .inl x3), (4, .inl x4)] [] w r) : ec_tw x2 ≠ ec_tw 5 → (True ∧ 0 ≤ ec_tw x1 ∧ ec_tw x1 < 4) ∧ r = (none, ec_wr w 146 (ec_tw x1) 0) ∧ ec_W hb_A (ec_wr w 146 (ec_tw x1) 0) := by
  have h2 := hb_ecw ((0, 1, 0, 0, 0) :: (5, 1, 142, 210, 0) :: (0, 0, 1, 0, 0) :: (0, 0, 2, 0, 0) :: (0, 2, 0, 0, 5) :: (4, 2, 1, 1, 0) :: (0, 2, 0, 0, 0) :: (5, 3, 146, 0, 4) :: (6, 4, 0, 0, 0) :: []) (by decide +kernel) h
  exact h2
theorem eg30_142_60_1 {n : Nat} {w : px_W} {r : Option Value × px_W} {x1 x2 x3 x4 : Int} (h : ec_E hb_X n 30 60 [(0, .inr (.inl 206)), (1, .inl x1), (2, .inl x2), (3, .inl x3), (4, .inl x4)] [] w r) : ec_tw x2 = ec_tw 5 → ((True ∧ 0 ≤ ec_tw x3 ∧ ec_tw x3 < 4) ∧ 0 ≤ ec_tw x1 ∧ ec_tw x1 < 4) ∧ r = (none, ec_wr w 146 (ec_tw x1) (ec_rd w 143 (ec_tw x3))) ∧ ec_W hb_A (ec_wr w 146 (ec_tw x1) (ec_rd w 143 (ec_tw x3))) := by
  have h2 := hb_ecw ((0, 1, 0, 0, 0) :: (5, 1, 142, 210, 0) :: (0, 0, 1, 0, 0) :: (0, 0, 2, 0, 0) :: (0, 2, 0, 0, 5) :: (4, 2, 0, 0, 0) :: (0, 1, 0, 0, 0) :: (5, 1, 142, 207, 0) :: (0, 0, 3, 0, 0) :: (5, 2, 143, 0, 4) :: (4, 0, 0, 0, 0) :: (5, 3, 146, 0, 4) :: (6, 4, 0, 0, 0) :: []) (by decide +kernel) h
  exact h2
/-! X11_shelf -/
theorem eg166_0_0_0 {n : Nat} {w : px_W} {r : Option Value × px_W} {x1 x2 x3 : Int} (h : ec_E hb_X n 166 0 [(0, .inr (.inl 64)), (1, .inl x1), (2, .inl x2), (3, .inl x3)] [] w r) : True ∧ ∃ (v : Option Value) (w1 : px_W), ec_E hb_X n 23 0 [(0, .inl x1)] [] w (v, w1) ∧ ∀ zz : Int, v = ec_R zz → ec_W hb_A w1 → ec_E hb_X n 166 4 [(0, .inr (.inl 64)), (1, .inl x1), (2, .inl x2), (3, .inl x3)] [.inl zz] w1 r := by
  have h2 := hb_ecw ((0, 0, 1, 0, 0) :: (6, 1, 23, 1, 4) :: []) (by decide +kernel) h
  exact h2
theorem eg166_0_4_0 {n : Nat} {w : px_W} {r : Option Value × px_W} {x1 x2 x3 s0 : Int} (h : ec_E hb_X n 166 4 [(0, .inr (.inl 64)), (1, .inl x1), (2, .inl x2), (3, .inl x3)] [.inl s0] w r) : ec_tw s0 = ec_tw 0 → True ∧ r = (ec_R (-1), w) ∧ ec_W hb_A w := by
  have h2 := hb_ecw ((4, 1, 0, 1, 0) :: (0, 2, 0, 0, (-1)) :: (6, 3, 0, 0, 0) :: []) (by decide +kernel) h
  exact h2
theorem eg166_0_4_1 {n : Nat} {w : px_W} {r : Option Value × px_W} {x1 x2 x3 s0 : Int} (h : ec_E hb_X n 166 4 [(0, .inr (.inl 64)), (1, .inl x1), (2, .inl x2), (3, .inl x3)] [.inl s0] w r) : ec_tw s0 ≠ ec_tw 0 → True ∧ ∃ (v : Option Value) (w1 : px_W), ec_E hb_X n 173 0 [(0, .inl x2), (1, .inl 0), (2, .inl 6)] [] w (v, w1) ∧ ∀ zz : Int, v = ec_R zz → ec_W hb_A w1 → ec_E hb_X n 166 14 [(0, .inr (.inl 64)), (1, .inl x1), (2, .inl x2), (3, .inl x3)] [.inl zz] w1 r := by
  have h2 := hb_ecw ((4, 1, 1, 0, 0) :: (0, 0, 2, 0, 0) :: (0, 2, 0, 0, 0) :: (0, 2, 0, 0, 6) :: (6, 1, 173, 3, 14) :: []) (by decide +kernel) h
  exact h2
theorem eg166_0_14_0 {n : Nat} {w : px_W} {r : Option Value × px_W} {x1 x2 x3 s0 : Int} (h : ec_E hb_X n 166 14 [(0, .inr (.inl 64)), (1, .inl x1), (2, .inl x2), (3, .inl x3)] [.inl s0] w r) : ec_tw s0 ≠ ec_tw 0 → ec_tw x2 = ec_tw 6 → True ∧ ec_E hb_X n 166 42 [(0, .inr (.inl 64)), (1, .inl x1), (2, .inl x2), (3, .inl x3)] [] w r := by
  have h2 := hb_ecw ((4, 1, 1, 1, 0) :: (0, 0, 2, 0, 0) :: (0, 2, 0, 0, 6) :: (4, 2, 0, 1, 0) :: (6, 0, 42, 4, 0) :: []) (by decide +kernel) h
  exact h2
theorem eg166_0_14_1 {n : Nat} {w : px_W} {r : Option Value × px_W} {x1 x2 x3 s0 : Int} (h : ec_E hb_X n 166 14 [(0, .inr (.inl 64)), (1, .inl x1), (2, .inl x2), (3, .inl x3)] [.inl s0] w r) : ec_tw s0 ≠ ec_tw 0 → ec_tw x2 ≠ ec_tw 6 → True ∧ ∃ (v : Option Value) (w1 : px_W), ec_E hb_X n 177 0 [(0, .inr (.inl 64)), (1, .inl x2)] [] w (v, w1) ∧ ∀ zz : Int, v = ec_R zz → ec_W hb_A w1 → ec_E hb_X n 166 32 [(0, .inr (.inl 64)), (1, .inl x1), (2, .inl x2), (3, .inl x3)] [.inl zz, .inl 0, .inl x3] w1 r := by
  have h2 := hb_ecw ((4, 1, 1, 1, 0) :: (0, 0, 2, 0, 0) :: (0, 2, 0, 0, 6) :: (4, 2, 1, 0, 0) :: (0, 0, 3, 0, 0) :: (0, 2, 0, 0, 0) :: (0, 1, 0, 0, 0) :: (0, 0, 2, 0, 0) :: (6, 1, 177, 2, 32) :: []) (by decide +kernel) h
  exact h2
theorem eg166_0_14_2 {n : Nat} {w : px_W} {r : Option Value × px_W} {x1 x2 x3 s0 : Int} (h : ec_E hb_X n 166 14 [(0, .inr (.inl 64)), (1, .inl x1), (2, .inl x2), (3, .inl x3)] [.inl s0] w r) : ec_tw s0 = ec_tw 0 → True ∧ r = (ec_R (-1), w) ∧ ec_W hb_A w := by
  have h2 := hb_ecw ((4, 1, 0, 0, 0) :: (0, 2, 0, 0, (-1)) :: (6, 3, 0, 0, 0) :: []) (by decide +kernel) h
  exact h2
theorem eg166_0_42_0 {n : Nat} {w : px_W} {r : Option Value × px_W} {x1 x2 x3 : Int} (h : ec_E hb_X n 166 42 [(0, .inr (.inl 64)), (1, .inl x1), (2, .inl x2), (3, .inl x3)] [] w r) : True ∧ ∃ (v : Option Value) (w1 : px_W), ec_E hb_X n 30 0 [(0, .inr (.inl 206)), (1, .inl x1), (2, .inl x2), (3, .inl x3)] [] w (v, w1) ∧ (v = none → ec_W hb_A w1 → ec_E hb_X n 166 52 [(0, .inr (.inl 64)), (1, .inl x1), (2, .inl x2), (3, .inl x3)] [] w1 r) := by
  have h2 := hb_ecw ((0, 1, 0, 0, 0) :: (5, 1, 0, 206, 0) :: (0, 0, 1, 0, 0) :: (0, 0, 2, 0, 0) :: (0, 0, 3, 0, 0) :: (6, 2, 30, 4, 52) :: []) (by decide +kernel) h
  exact h2
theorem eg166_0_32_0 {n : Nat} {w : px_W} {r : Option Value × px_W} {x1 x2 x3 s0 s1 s2 : Int} (h : ec_E hb_X n 166 32 [(0, .inr (.inl 64)), (1, .inl x1), (2, .inl x2), (3, .inl x3)] [.inl s2, .inl s1, .inl s0] w r) : True ∧ ∃ (v : Option Value) (w1 : px_W), ec_E hb_X n 173 0 [(0, .inl s0), (1, .inl s1), (2, .inl (s2 - 1))] [] w (v, w1) ∧ ∀ zz : Int, v = ec_R zz → ec_W hb_A w1 → ec_E hb_X n 166 37 [(0, .inr (.inl 64)), (1, .inl x1), (2, .inl x2), (3, .inl x3)] [.inl zz] w1 r := by
  have h2 := hb_ecw ((0, 2, 0, 0, 1) :: (1, 1, 0, 0, 0) :: (6, 1, 173, 3, 37) :: []) (by decide +kernel) h
  exact h2
theorem eg166_0_52_0 {n : Nat} {w : px_W} {r : Option Value × px_W} {x1 x2 x3 : Int} (h : ec_E hb_X n 166 52 [(0, .inr (.inl 64)), (1, .inl x1), (2, .inl x2), (3, .inl x3)] [] w r) : True ∧ r = (ec_R 1, w) ∧ ec_W hb_A w := by
  have h2 := hb_ecw ((0, 2, 0, 0, 1) :: (6, 3, 0, 0, 0) :: []) (by decide +kernel) h
  exact h2
theorem eg166_0_37_0 {n : Nat} {w : px_W} {r : Option Value × px_W} {x1 x2 x3 s0 : Int} (h : ec_E hb_X n 166 37 [(0, .inr (.inl 64)), (1, .inl x1), (2, .inl x2), (3, .inl x3)] [.inl s0] w r) : ec_tw s0 ≠ ec_tw 0 → True ∧ ec_E hb_X n 166 42 [(0, .inr (.inl 64)), (1, .inl x1), (2, .inl x2), (3, .inl x3)] [] w r := by
  have h2 := hb_ecw ((4, 1, 1, 1, 0) :: (6, 0, 42, 4, 0) :: []) (by decide +kernel) h
  exact h2
theorem eg166_0_37_1 {n : Nat} {w : px_W} {r : Option Value × px_W} {x1 x2 x3 s0 : Int} (h : ec_E hb_X n 166 37 [(0, .inr (.inl 64)), (1, .inl x1), (2, .inl x2), (3, .inl x3)] [.inl s0] w r) : ec_tw s0 = ec_tw 0 → True ∧ r = (ec_R (-1), w) ∧ ec_W hb_A w := by
  have h2 := hb_ecw ((4, 1, 0, 0, 0) :: (0, 2, 0, 0, (-1)) :: (6, 3, 0, 0, 0) :: []) (by decide +kernel) h
  exact h2
/-! X12_shelf -/
theorem eg277_151_0_0 {n : Nat} {w : px_W} {r : Option Value × px_W} {x1 x2 x3 : Int} (h : ec_E hb_X n 277 0 [(0, .inr (.inl 215)), (1, .inl x1), (2, .inl x2), (3, .inl x3)] [] w r) : True ∧ ∃ (v : Option Value) (w1 : px_W), ec_E hb_X n 271 0 [(0, .inl x1)] [] w (v, w1) ∧ ∀ zz : Int, v = ec_R zz → ec_W hb_A w1 → ec_E hb_X n 277 4 [(0, .inr (.inl 215)), (1, .inl x1), (2, .inl x2), (3, .inl x3)] [.inl zz] w1 r := by
  have h2 := hb_ecw ((0, 0, 1, 0, 0) :: (6, 1, 271, 1, 4) :: []) (by decide +kernel) h
  exact h2
theorem eg277_151_4_0 {n : Nat} {w : px_W} {r : Option Value × px_W} {x1 x2 x3 s0 : Int} (h : ec_E hb_X n 277 4 [(0, .inr (.inl 215)), (1, .inl x1), (2, .inl x2), (3, .inl x3)] [.inl s0] w r) : ec_tw s0 = ec_tw 0 → True ∧ r = (ec_R (-1), w) ∧ ec_W hb_A w := by
  have h2 := hb_ecw ((4, 1, 0, 1, 0) :: (0, 2, 0, 0, (-1)) :: (6, 3, 0, 0, 0) :: []) (by decide +kernel) h
  exact h2
theorem eg277_151_4_1 {n : Nat} {w : px_W} {r : Option Value × px_W} {x1 x2 x3 s0 : Int} (h : ec_E hb_X n 277 4 [(0, .inr (.inl 215)), (1, .inl x1), (2, .inl x2), (3, .inl x3)] [.inl s0] w r) : ec_tw s0 ≠ ec_tw 0 → True ∧ ∃ (v : Option Value) (w1 : px_W), ec_E hb_X n 182 0 [(0, .inl x2), (1, .inl 0), (2, .inl 6)] [] w (v, w1) ∧ ∀ zz : Int, v = ec_R zz → ec_W hb_A w1 → ec_E hb_X n 277 14 [(0, .inr (.inl 215)), (1, .inl x1), (2, .inl x2), (3, .inl x3)] [.inl zz] w1 r := by
  have h2 := hb_ecw ((4, 1, 1, 0, 0) :: (0, 0, 2, 0, 0) :: (0, 2, 0, 0, 0) :: (0, 2, 0, 0, 6) :: (6, 1, 182, 3, 14) :: []) (by decide +kernel) h
  exact h2
theorem eg277_151_14_0 {n : Nat} {w : px_W} {r : Option Value × px_W} {x1 x2 x3 s0 : Int} (h : ec_E hb_X n 277 14 [(0, .inr (.inl 215)), (1, .inl x1), (2, .inl x2), (3, .inl x3)] [.inl s0] w r) : ec_tw s0 ≠ ec_tw 0 → True ∧ ec_E hb_X n 277 19 [(0, .inr (.inl 215)), (1, .inl x1), (2, .inl x2), (3, .inl x3)] [] w r := by
  have h2 := hb_ecw ((4, 1, 1, 1, 0) :: (6, 0, 19, 4, 0) :: []) (by decide +kernel) h
  exact h2
theorem eg277_151_14_1 {n : Nat} {w : px_W} {r : Option Value × px_W} {x1 x2 x3 s0 : Int} (h : ec_E hb_X n 277 14 [(0, .inr (.inl 215)), (1, .inl x1), (2, .inl x2), (3, .inl x3)] [.inl s0] w r) : ec_tw s0 = ec_tw 0 → True ∧ r = (ec_R (-1), w) ∧ ec_W hb_A w := by
  have h2 := hb_ecw ((4, 1, 0, 0, 0) :: (0, 2, 0, 0, (-1)) :: (6, 3, 0, 0, 0) :: []) (by decide +kernel) h
  exact h2
theorem eg277_151_19_0 {n : Nat} {w : px_W} {r : Option Value × px_W} {x1 x2 x3 : Int} (h : ec_E hb_X n 277 19 [(0, .inr (.inl 215)), (1, .inl x1), (2, .inl x2), (3, .inl x3)] [] w r) : ec_tw x2 ≠ ec_tw 0 → ec_tw x2 ≠ ec_tw 1 → ec_tw x2 ≠ ec_tw 2 → ec_tw x2 ≠ ec_tw 3 → ec_tw x2 ≠ ec_tw 4 → ec_tw x2 = ec_tw 6 → True ∧ ec_E hb_X n 277 118 [(0, .inr (.inl 215)), (1, .inl x1), (2, .inl x2), (3, .inl x3)] [.inl 1] w r := by
  have h2 := hb_ecw ((0, 0, 2, 0, 0) :: (4, 1, 1, 1, 0) :: (0, 0, 2, 0, 0) :: (0, 2, 0, 0, 1) :: (4, 2, 1, 1, 0) :: (0, 0, 2, 0, 0) :: (0, 2, 0, 0, 2) :: (4, 2, 1, 1, 0) :: (0, 0, 2, 0, 0) :: (0, 2, 0, 0, 3) :: (4, 2, 1, 1, 0) :: (0, 0, 2, 0, 0) :: (0, 2, 0, 0, 4) :: (4, 2, 1, 1, 0) :: (0, 0, 2, 0, 0) :: (0, 2, 0, 0, 6) :: (4, 2, 0, 1, 0) :: (0, 2, 0, 0, 1) :: (4, 0, 0, 0, 0) :: (6, 0, 118, 4, 0) :: []) (by decide +kernel) h
  exact h2
theorem eg277_151_19_1 {n : Nat} {w : px_W} {r : Option Value × px_W} {x1 x2 x3 : Int} (h : ec_E hb_X n 277 19 [(0, .inr (.inl 215)), (1, .inl x1), (2, .inl x2), (3, .inl x3)] [] w r) : ec_tw x2 ≠ ec_tw 0 → ec_tw x2 ≠ ec_tw 1 → ec_tw x2 ≠ ec_tw 2 → ec_tw x2 ≠ ec_tw 3 → ec_tw x2 ≠ ec_tw 4 → ec_tw x2 ≠ ec_tw 6 → True ∧ ∃ (v : Option Value) (w1 : px_W), ec_E hb_X n 271 0 [(0, .inl x3)] [] w (v, w1) ∧ ∀ zz : Int, v = ec_R zz → ec_W hb_A w1 → ec_E hb_X n 277 110 [(0, .inr (.inl 215)), (1, .inl x1), (2, .inl x2), (3, .inl x3)] [.inl zz] w1 r := by
  have h2 := hb_ecw ((0, 0, 2, 0, 0) :: (4, 1, 1, 1, 0) :: (0, 0, 2, 0, 0) :: (0, 2, 0, 0, 1) :: (4, 2, 1, 1, 0) :: (0, 0, 2, 0, 0) :: (0, 2, 0, 0, 2) :: (4, 2, 1, 1, 0) :: (0, 0, 2, 0, 0) :: (0, 2, 0, 0, 3) :: (4, 2, 1, 1, 0) :: (0, 0, 2, 0, 0) :: (0, 2, 0, 0, 4) :: (4, 2, 1, 1, 0) :: (0, 0, 2, 0, 0) :: (0, 2, 0, 0, 6) :: (4, 2, 1, 0, 0) :: (0, 0, 3, 0, 0) :: (6, 1, 271, 1, 110) :: []) (by decide +kernel) h
  exact h2
theorem eg277_151_19_2 {n : Nat} {w : px_W} {r : Option Value × px_W} {x1 x2 x3 : Int} (h : ec_E hb_X n 277 19 [(0, .inr (.inl 215)), (1, .inl x1), (2, .inl x2), (3, .inl x3)] [] w r) : ec_tw x2 ≠ ec_tw 0 → ec_tw x2 ≠ ec_tw 1 → ec_tw x2 ≠ ec_tw 2 → ec_tw x2 ≠ ec_tw 3 → ec_tw x2 = ec_tw 4 → (True ∧ 0 ≤ ec_tw 9 ∧ ec_tw 9 < 1580) ∧ ∃ (v : Option Value) (w1 : px_W), ec_E hb_X n 182 0 [(0, .inl x3), (1, .inl 0), (2, .inl ((ec_rd w 152 (ec_tw 9)) - 1))] [] w (v, w1) ∧ ∀ zz : Int, v = ec_R zz → ec_W hb_A w1 → ec_E hb_X n 277 97 [(0, .inr (.inl 215)), (1, .inl x1), (2, .inl x2), (3, .inl x3)] [.inl zz] w1 r := by
  have h2 := hb_ecw ((0, 0, 2, 0, 0) :: (4, 1, 1, 1, 0) :: (0, 0, 2, 0, 0) :: (0, 2, 0, 0, 1) :: (4, 2, 1, 1, 0) :: (0, 0, 2, 0, 0) :: (0, 2, 0, 0, 2) :: (4, 2, 1, 1, 0) :: (0, 0, 2, 0, 0) :: (0, 2, 0, 0, 3) :: (4, 2, 1, 1, 0) :: (0, 0, 2, 0, 0) :: (0, 2, 0, 0, 4) :: (4, 2, 0, 0, 0) :: (0, 0, 3, 0, 0) :: (0, 2, 0, 0, 0) :: (0, 1, 0, 0, 0) :: (5, 1, 151, 216, 0) :: (0, 2, 0, 0, 9) :: (5, 2, 152, 0, 1580) :: (0, 2, 0, 0, 1) :: (1, 1, 0, 0, 0) :: (6, 1, 182, 3, 97) :: []) (by decide +kernel) h
  exact h2
theorem eg277_151_19_3 {n : Nat} {w : px_W} {r : Option Value × px_W} {x1 x2 x3 : Int} (h : ec_E hb_X n 277 19 [(0, .inr (.inl 215)), (1, .inl x1), (2, .inl x2), (3, .inl x3)] [] w r) : ec_tw x2 ≠ ec_tw 0 → ec_tw x2 ≠ ec_tw 1 → ec_tw x2 ≠ ec_tw 2 → ec_tw x2 = ec_tw 3 → True ∧ ∃ (v : Option Value) (w1 : px_W), ec_E hb_X n 237 0 [(0, .inr (.inl 215)), (1, .inl x3)] [] w (v, w1) ∧ ∀ zz : Int, v = ec_R zz → ec_W hb_A w1 → ec_E hb_X n 277 75 [(0, .inr (.inl 215)), (1, .inl x1), (2, .inl x2), (3, .inl x3)] [.inl zz] w1 r := by
  have h2 := hb_ecw ((0, 0, 2, 0, 0) :: (4, 1, 1, 1, 0) :: (0, 0, 2, 0, 0) :: (0, 2, 0, 0, 1) :: (4, 2, 1, 1, 0) :: (0, 0, 2, 0, 0) :: (0, 2, 0, 0, 2) :: (4, 2, 1, 1, 0) :: (0, 0, 2, 0, 0) :: (0, 2, 0, 0, 3) :: (4, 2, 0, 0, 0) :: (0, 1, 0, 0, 0) :: (0, 0, 3, 0, 0) :: (6, 1, 237, 2, 75) :: []) (by decide +kernel) h
  exact h2
theorem eg277_151_19_4 {n : Nat} {w : px_W} {r : Option Value × px_W} {x1 x2 x3 : Int} (h : ec_E hb_X n 277 19 [(0, .inr (.inl 215)), (1, .inl x1), (2, .inl x2), (3, .inl x3)] [] w r) : ec_tw x2 ≠ ec_tw 0 → ec_tw x2 ≠ ec_tw 1 → ec_tw x2 = ec_tw 2 → (True ∧ 0 ≤ ec_tw 7 ∧ ec_tw 7 < 1580) ∧ ∃ (v : Option Value) (w1 : px_W), ec_E hb_X n 182 0 [(0, .inl x3), (1, .inl 0), (2, .inl ((ec_rd w 152 (ec_tw 7)) - 1))] [] w (v, w1) ∧ ∀ zz : Int, v = ec_R zz → ec_W hb_A w1 → ec_E hb_X n 277 62 [(0, .inr (.inl 215)), (1, .inl x1), (2, .inl x2), (3, .inl x3)] [.inl zz] w1 r := by
  have h2 := hb_ecw ((0, 0, 2, 0, 0) :: (4, 1, 1, 1, 0) :: (0, 0, 2, 0, 0) :: (0, 2, 0, 0, 1) :: (4, 2, 1, 1, 0) :: (0, 0, 2, 0, 0) :: (0, 2, 0, 0, 2) :: (4, 2, 0, 0, 0) :: (0, 0, 3, 0, 0) :: (0, 2, 0, 0, 0) :: (0, 1, 0, 0, 0) :: (5, 1, 151, 216, 0) :: (0, 2, 0, 0, 7) :: (5, 2, 152, 0, 1580) :: (0, 2, 0, 0, 1) :: (1, 1, 0, 0, 0) :: (6, 1, 182, 3, 62) :: []) (by decide +kernel) h
  exact h2
theorem eg277_151_19_5 {n : Nat} {w : px_W} {r : Option Value × px_W} {x1 x2 x3 : Int} (h : ec_E hb_X n 277 19 [(0, .inr (.inl 215)), (1, .inl x1), (2, .inl x2), (3, .inl x3)] [] w r) : ec_tw x2 ≠ ec_tw 0 → ec_tw x2 = ec_tw 1 → True ∧ ∃ (v : Option Value) (w1 : px_W), ec_E hb_X n 213 0 [(0, .inr (.inl 215)), (1, .inl x3)] [] w (v, w1) ∧ ∀ zz : Int, v = ec_R zz → ec_W hb_A w1 → ec_E hb_X n 277 40 [(0, .inr (.inl 215)), (1, .inl x1), (2, .inl x2), (3, .inl x3)] [.inl zz] w1 r := by
  have h2 := hb_ecw ((0, 0, 2, 0, 0) :: (4, 1, 1, 1, 0) :: (0, 0, 2, 0, 0) :: (0, 2, 0, 0, 1) :: (4, 2, 0, 0, 0) :: (0, 1, 0, 0, 0) :: (0, 0, 3, 0, 0) :: (6, 1, 213, 2, 40) :: []) (by decide +kernel) h
  exact h2
theorem eg277_151_19_6 {n : Nat} {w : px_W} {r : Option Value × px_W} {x1 x2 x3 : Int} (h : ec_E hb_X n 277 19 [(0, .inr (.inl 215)), (1, .inl x1), (2, .inl x2), (3, .inl x3)] [] w r) : ec_tw x2 = ec_tw 0 → True ∧ ∃ (v : Option Value) (w1 : px_W), ec_E hb_X n 184 0 [(0, .inl x3)] [] w (v, w1) ∧ ∀ zz : Int, v = ec_R zz → ec_W hb_A w1 → ec_E hb_X n 277 27 [(0, .inr (.inl 215)), (1, .inl x1), (2, .inl x2), (3, .inl x3)] [.inl zz] w1 r := by
  have h2 := hb_ecw ((0, 0, 2, 0, 0) :: (4, 1, 0, 0, 0) :: (0, 0, 3, 0, 0) :: (6, 1, 184, 1, 27) :: []) (by decide +kernel) h
  exact h2
theorem eg277_151_118_0 {n : Nat} {w : px_W} {r : Option Value × px_W} {x1 x2 x3 s0 : Int} (h : ec_E hb_X n 277 118 [(0, .inr (.inl 215)), (1, .inl x1), (2, .inl x2), (3, .inl x3)] [.inl s0] w r) : ec_tw s0 ≠ ec_tw 0 → True ∧ ec_E hb_X n 277 127 [(0, .inr (.inl 215)), (1, .inl x1), (2, .inl x2), (3, .inl x3), (4, .inl s0)] [] w r := by
  have h2 := hb_ecw ((0, 3, 4, 0, 0) :: (0, 0, 4, 0, 0) :: (4, 1, 1, 1, 0) :: (6, 0, 127, 5, 0) :: []) (by decide +kernel) h
  exact h2
theorem eg277_151_118_1 {n : Nat} {w : px_W} {r : Option Value × px_W} {x1 x2 x3 s0 : Int} (h : ec_E hb_X n 277 118 [(0, .inr (.inl 215)), (1, .inl x1), (2, .inl x2), (3, .inl x3)] [.inl s0] w r) : ec_tw s0 = ec_tw 0 → True ∧ r = (ec_R (-1), w) ∧ ec_W hb_A w := by
  have h2 := hb_ecw ((0, 3, 4, 0, 0) :: (0, 0, 4, 0, 0) :: (4, 1, 0, 0, 0) :: (0, 2, 0, 0, (-1)) :: (6, 3, 0, 0, 0) :: []) (by decide +kernel) h
  exact h2
theorem eg277_151_110_0 {n : Nat} {w : px_W} {r : Option Value × px_W} {x1 x2 x3 s0 : Int} (h : ec_E hb_X n 277 110 [(0, .inr (.inl 215)), (1, .inl x1), (2, .inl x2), (3, .inl x3)] [.inl s0] w r) : ec_tw s0 = ec_tw 0 → True ∧ ec_E hb_X n 277 118 [(0, .inr (.inl 215)), (1, .inl x1), (2, .inl x2), (3, .inl x3)] [.inl 0] w r := by
  have h2 := hb_ecw ((4, 1, 0, 1, 0) :: (0, 2, 0, 0, 0) :: (6, 0, 118, 4, 0) :: []) (by decide +kernel) h
  exact h2
theorem eg277_151_110_1 {n : Nat} {w : px_W} {r : Option Value × px_W} {x1 x2 x3 s0 : Int} (h : ec_E hb_X n 277 110 [(0, .inr (.inl 215)), (1, .inl x1), (2, .inl x2), (3, .inl x3)] [.inl s0] w r) : ec_tw s0 ≠ ec_tw 0 → True ∧ ec_E hb_X n 277 118 [(0, .inr (.inl 215)), (1, .inl x1), (2, .inl x2), (3, .inl x3)] [.inl 1] w r := by
  have h2 := hb_ecw ((4, 1, 1, 0, 0) :: (0, 2, 0, 0, 1) :: (4, 0, 0, 0, 0) :: (6, 0, 118, 4, 0) :: []) (by decide +kernel) h
  exact h2
theorem eg277_151_97_0 {n : Nat} {w : px_W} {r : Option Value × px_W} {x1 x2 x3 s0 : Int} (h : ec_E hb_X n 277 97 [(0, .inr (.inl 215)), (1, .inl x1), (2, .inl x2), (3, .inl x3)] [.inl s0] w r) : True ∧ ec_E hb_X n 277 118 [(0, .inr (.inl 215)), (1, .inl x1), (2, .inl x2), (3, .inl x3)] [.inl s0] w r := by
  have h2 := hb_ecw ((4, 0, 0, 0, 0) :: (6, 0, 118, 4, 0) :: []) (by decide +kernel) h
  exact h2
theorem eg277_151_75_0 {n : Nat} {w : px_W} {r : Option Value × px_W} {x1 x2 x3 s0 : Int} (h : ec_E hb_X n 277 75 [(0, .inr (.inl 215)), (1, .inl x1), (2, .inl x2), (3, .inl x3)] [.inl s0] w r) : True ∧ ec_E hb_X n 277 118 [(0, .inr (.inl 215)), (1, .inl x1), (2, .inl x2), (3, .inl x3)] [.inl s0] w r := by
  have h2 := hb_ecw ((4, 0, 0, 0, 0) :: (6, 0, 118, 4, 0) :: []) (by decide +kernel) h
  exact h2
theorem eg277_151_62_0 {n : Nat} {w : px_W} {r : Option Value × px_W} {x1 x2 x3 s0 : Int} (h : ec_E hb_X n 277 62 [(0, .inr (.inl 215)), (1, .inl x1), (2, .inl x2), (3, .inl x3)] [.inl s0] w r) : True ∧ ec_E hb_X n 277 118 [(0, .inr (.inl 215)), (1, .inl x1), (2, .inl x2), (3, .inl x3)] [.inl s0] w r := by
  have h2 := hb_ecw ((4, 0, 0, 0, 0) :: (6, 0, 118, 4, 0) :: []) (by decide +kernel) h
  exact h2
theorem eg277_151_40_0 {n : Nat} {w : px_W} {r : Option Value × px_W} {x1 x2 x3 s0 : Int} (h : ec_E hb_X n 277 40 [(0, .inr (.inl 215)), (1, .inl x1), (2, .inl x2), (3, .inl x3)] [.inl s0] w r) : True ∧ ec_E hb_X n 277 118 [(0, .inr (.inl 215)), (1, .inl x1), (2, .inl x2), (3, .inl x3)] [.inl s0] w r := by
  have h2 := hb_ecw ((4, 0, 0, 0, 0) :: (6, 0, 118, 4, 0) :: []) (by decide +kernel) h
  exact h2
theorem eg277_151_27_0 {n : Nat} {w : px_W} {r : Option Value × px_W} {x1 x2 x3 s0 : Int} (h : ec_E hb_X n 277 27 [(0, .inr (.inl 215)), (1, .inl x1), (2, .inl x2), (3, .inl x3)] [.inl s0] w r) : True ∧ ec_E hb_X n 277 118 [(0, .inr (.inl 215)), (1, .inl x1), (2, .inl x2), (3, .inl x3)] [.inl s0] w r := by
  have h2 := hb_ecw ((4, 0, 0, 0, 0) :: (6, 0, 118, 4, 0) :: []) (by decide +kernel) h
  exact h2
theorem eg277_151_127_0 {n : Nat} {w : px_W} {r : Option Value × px_W} {x1 x2 x3 x4 : Int} (h : ec_E hb_X n 277 127 [(0, .inr (.inl 215)), (1, .inl x1), (2, .inl x2), (3, .inl x3), (4, .inl x4)] [] w r) : ec_tw x2 = ec_tw 6 → True ∧ ec_E hb_X n 277 154 [(0, .inr (.inl 215)), (1, .inl x1), (2, .inl x2), (3, .inl x3), (4, .inl x4), (5, .inl 1)] [] w r := by
  have h2 := hb_ecw ((0, 0, 2, 0, 0) :: (0, 2, 0, 0, 6) :: (4, 2, 0, 1, 0) :: (0, 2, 0, 0, 1) :: (4, 0, 0, 0, 0) :: (0, 3, 5, 0, 0) :: (6, 0, 154, 6, 0) :: []) (by decide +kernel) h
  exact h2
theorem eg277_151_127_1 {n : Nat} {w : px_W} {r : Option Value × px_W} {x1 x2 x3 x4 : Int} (h : ec_E hb_X n 277 127 [(0, .inr (.inl 215)), (1, .inl x1), (2, .inl x2), (3, .inl x3), (4, .inl x4)] [] w r) : ec_tw x2 ≠ ec_tw 6 → ec_tw x2 ≠ ec_tw 5 → True ∧ ec_E hb_X n 277 154 [(0, .inr (.inl 215)), (1, .inl x1), (2, .inl x2), (3, .inl x3), (4, .inl x4), (5, .inl 0)] [] w r := by
  have h2 := hb_ecw ((0, 0, 2, 0, 0) :: (0, 2, 0, 0, 6) :: (4, 2, 1, 0, 0) :: (0, 0, 2, 0, 0) :: (0, 2, 0, 0, 5) :: (4, 2, 1, 1, 0) :: (0, 2, 0, 0, 0) :: (0, 3, 5, 0, 0) :: (6, 0, 154, 6, 0) :: []) (by decide +kernel) h
  exact h2
theorem eg277_151_127_2 {n : Nat} {w : px_W} {r : Option Value × px_W} {x1 x2 x3 x4 : Int} (h : ec_E hb_X n 277 127 [(0, .inr (.inl 215)), (1, .inl x1), (2, .inl x2), (3, .inl x3), (4, .inl x4)] [] w r) : ec_tw x2 ≠ ec_tw 6 → ec_tw x2 = ec_tw 5 → ec_tw 0 ≤ ec_tw (ec_rd w 172 (ec_tw x3)) → (True ∧ 0 ≤ ec_tw x3 ∧ ec_tw x3 < 4) ∧ ec_E hb_X n 277 154 [(0, .inr (.inl 215)), (1, .inl x1), (2, .inl x2), (3, .inl x3), (4, .inl x4), (5, .inl 0)] [] w r := by
  have h2 := hb_ecw ((0, 0, 2, 0, 0) :: (0, 2, 0, 0, 6) :: (4, 2, 1, 0, 0) :: (0, 0, 2, 0, 0) :: (0, 2, 0, 0, 5) :: (4, 2, 0, 0, 0) :: (0, 1, 0, 0, 0) :: (5, 1, 151, 236, 0) :: (0, 0, 3, 0, 0) :: (5, 2, 172, 0, 4) :: (4, 1, 3, 1, 0) :: (0, 2, 0, 0, 0) :: (0, 3, 5, 0, 0) :: (6, 0, 154, 6, 0) :: []) (by decide +kernel) h
  exact h2
theorem eg277_151_127_3 {n : Nat} {w : px_W} {r : Option Value × px_W} {x1 x2 x3 x4 : Int} (h : ec_E hb_X n 277 127 [(0, .inr (.inl 215)), (1, .inl x1), (2, .inl x2), (3, .inl x3), (4, .inl x4)] [] w r) : ec_tw x2 ≠ ec_tw 6 → ec_tw x2 = ec_tw 5 → ec_tw (ec_rd w 172 (ec_tw x3)) < ec_tw 0 → (True ∧ 0 ≤ ec_tw x3 ∧ ec_tw x3 < 4) ∧ ec_E hb_X n 277 154 [(0, .inr (.inl 215)), (1, .inl x1), (2, .inl x2), (3, .inl x3), (4, .inl x4), (5, .inl 1)] [] w r := by
  have h2 := hb_ecw ((0, 0, 2, 0, 0) :: (0, 2, 0, 0, 6) :: (4, 2, 1, 0, 0) :: (0, 0, 2, 0, 0) :: (0, 2, 0, 0, 5) :: (4, 2, 0, 0, 0) :: (0, 1, 0, 0, 0) :: (5, 1, 151, 236, 0) :: (0, 0, 3, 0, 0) :: (5, 2, 172, 0, 4) :: (4, 1, 2, 0, 0) :: (0, 2, 0, 0, 1) :: (4, 0, 0, 0, 0) :: (0, 3, 5, 0, 0) :: (6, 0, 154, 6, 0) :: []) (by decide +kernel) h
  exact h2
theorem eg277_151_154_0 {n : Nat} {w : px_W} {r : Option Value × px_W} {x1 x2 x3 x4 x5 : Int} (h : ec_E hb_X n 277 154 [(0, .inr (.inl 215)), (1, .inl x1), (2, .inl x2), (3, .inl x3), (4, .inl x4), (5, .inl x5)] [] w r) : ec_tw x5 = ec_tw 0 → (True ∧ 0 ≤ ec_tw x1 ∧ ec_tw x1 < 4) ∧ ec_E hb_X n 277 172 [(0, .inr (.inl 215)), (1, .inl x1), (2, .inl x2), (3, .inl x3), (4, .inl x4), (5, .inl x5)] [] (ec_wr w 176 (ec_tw x1) (x2 + 1)) r := by
  have h2 := hb_ecw ((0, 1, 0, 0, 0) :: (5, 1, 151, 240, 0) :: (0, 0, 1, 0, 0) :: (0, 0, 5, 0, 0) :: (4, 1, 0, 1, 0) :: (0, 0, 2, 0, 0) :: (0, 2, 0, 0, 1) :: (1, 0, 0, 0, 0) :: (5, 3, 176, 0, 4) :: (6, 0, 172, 6, 0) :: []) (by decide +kernel) h
  exact h2
theorem eg277_151_154_1 {n : Nat} {w : px_W} {r : Option Value × px_W} {x1 x2 x3 x4 x5 : Int} (h : ec_E hb_X n 277 154 [(0, .inr (.inl 215)), (1, .inl x1), (2, .inl x2), (3, .inl x3), (4, .inl x4), (5, .inl x5)] [] w r) : ec_tw x5 ≠ ec_tw 0 → (True ∧ 0 ≤ ec_tw x1 ∧ ec_tw x1 < 4) ∧ ec_E hb_X n 277 172 [(0, .inr (.inl 215)), (1, .inl x1), (2, .inl x2), (3, .inl x3), (4, .inl x4), (5, .inl x5)] [] (ec_wr w 176 (ec_tw x1) 0) r := by
  have h2 := hb_ecw ((0, 1, 0, 0, 0) :: (5, 1, 151, 240, 0) :: (0, 0, 1, 0, 0) :: (0, 0, 5, 0, 0) :: (4, 1, 1, 0, 0) :: (0, 2, 0, 0, 0) :: (4, 0, 0, 0, 0) :: (5, 3, 176, 0, 4) :: (6, 0, 172, 6, 0) :: []) (by decide +kernel) h
  exact h2
theorem eg277_151_172_0 {n : Nat} {w : px_W} {r : Option Value × px_W} {x1 x2 x3 x4 x5 : Int} (h : ec_E hb_X n 277 172 [(0, .inr (.inl 215)), (1, .inl x1), (2, .inl x2), (3, .inl x3), (4, .inl x4), (5, .inl x5)] [] w r) : ec_tw x5 = ec_tw 0 → ec_tw x2 ≠ ec_tw 5 → (True ∧ 0 ≤ ec_tw x1 ∧ ec_tw x1 < 4) ∧ r = (ec_R 1, ec_wr w 177 (ec_tw x1) x3) ∧ ec_W hb_A (ec_wr w 177 (ec_tw x1) x3) := by
  have h2 := hb_ecw ((0, 1, 0, 0, 0) :: (5, 1, 151, 241, 0) :: (0, 0, 1, 0, 0) :: (0, 0, 5, 0, 0) :: (4, 1, 0, 1, 0) :: (0, 0, 2, 0, 0) :: (0, 2, 0, 0, 5) :: (4, 2, 1, 1, 0) :: (0, 0, 3, 0, 0) :: (5, 3, 177, 0, 4) :: (0, 2, 0, 0, 1) :: (6, 3, 0, 0, 0) :: []) (by decide +kernel) h
  exact h2
theorem eg277_151_172_1 {n : Nat} {w : px_W} {r : Option Value × px_W} {x1 x2 x3 x4 x5 : Int} (h : ec_E hb_X n 277 172 [(0, .inr (.inl 215)), (1, .inl x1), (2, .inl x2), (3, .inl x3), (4, .inl x4), (5, .inl x5)] [] w r) : ec_tw x5 = ec_tw 0 → ec_tw x2 = ec_tw 5 → ((True ∧ 0 ≤ ec_tw x3 ∧ ec_tw x3 < 4) ∧ 0 ≤ ec_tw x1 ∧ ec_tw x1 < 4) ∧ r = (ec_R 1, ec_wr w 177 (ec_tw x1) (ec_rd w 172 (ec_tw x3))) ∧ ec_W hb_A (ec_wr w 177 (ec_tw x1) (ec_rd w 172 (ec_tw x3))) := by
  have h2 := hb_ecw ((0, 1, 0, 0, 0) :: (5, 1, 151, 241, 0) :: (0, 0, 1, 0, 0) :: (0, 0, 5, 0, 0) :: (4, 1, 0, 1, 0) :: (0, 0, 2, 0, 0) :: (0, 2, 0, 0, 5) :: (4, 2, 0, 0, 0) :: (0, 1, 0, 0, 0) :: (5, 1, 151, 236, 0) :: (0, 0, 3, 0, 0) :: (5, 2, 172, 0, 4) :: (4, 0, 0, 0, 0) :: (5, 3, 177, 0, 4) :: (0, 2, 0, 0, 1) :: (6, 3, 0, 0, 0) :: []) (by decide +kernel) h
  exact h2
theorem eg277_151_172_2 {n : Nat} {w : px_W} {r : Option Value × px_W} {x1 x2 x3 x4 x5 : Int} (h : ec_E hb_X n 277 172 [(0, .inr (.inl 215)), (1, .inl x1), (2, .inl x2), (3, .inl x3), (4, .inl x4), (5, .inl x5)] [] w r) : ec_tw x5 ≠ ec_tw 0 → (True ∧ 0 ≤ ec_tw x1 ∧ ec_tw x1 < 4) ∧ r = (ec_R 1, ec_wr w 177 (ec_tw x1) 0) ∧ ec_W hb_A (ec_wr w 177 (ec_tw x1) 0) := by
  have h2 := hb_ecw ((0, 1, 0, 0, 0) :: (5, 1, 151, 241, 0) :: (0, 0, 1, 0, 0) :: (0, 0, 5, 0, 0) :: (4, 1, 1, 0, 0) :: (0, 2, 0, 0, 0) :: (4, 0, 0, 0, 0) :: (5, 3, 177, 0, 4) :: (0, 2, 0, 0, 1) :: (6, 3, 0, 0, 0) :: []) (by decide +kernel) h
  exact h2

end

noncomputable section
/-! X6_rankOf -/
theorem eg80_44_0_0 {n : Nat} {w : px_W} {r : Option Value × px_W} {x1 x2 : Int} (h : ec_E hb_X n 80 0 [(0, .inr (.inl 108)), (1, .inl x1), (2, .inl x2)] [] w r) : True ∧ ∃ (v : Option Value) (w1 : px_W), ec_E hb_X n 83 0 [(0, .inr (.inl 108)), (1, .inl 1), (2, .inl x2)] [] w (v, w1) ∧ ∀ zz : Int, v = ec_R zz → ec_W hb_A w1 → ec_E hb_X n 80 6 [(0, .inr (.inl 108)), (1, .inl x1), (2, .inl x2)] [.inl zz] w1 r := by
  have h2 := hb_ecw ((0, 1, 0, 0, 0) :: (0, 2, 0, 0, 1) :: (0, 0, 2, 0, 0) :: (6, 1, 83, 3, 6) :: []) (by decide +kernel) h
  exact h2
theorem eg80_44_6_0 {n : Nat} {w : px_W} {r : Option Value × px_W} {x1 x2 s0 : Int} (h : ec_E hb_X n 80 6 [(0, .inr (.inl 108)), (1, .inl x1), (2, .inl x2)] [.inl s0] w r) : ec_tw 0 ≤ ec_tw s0 → (True ∧ 0 ≤ ec_tw s0 ∧ ec_tw s0 < 56) ∧ ec_E hb_X n 80 25 [(0, .inr (.inl 108)), (1, .inl x1), (2, .inl x2), (3, .inl s0), (4, .inl (ec_rd w 48 (ec_tw s0))), (5, .inl 0)] [] w r := by
  have h2 := hb_ecw ((0, 3, 3, 0, 0) :: (0, 0, 3, 0, 0) :: (4, 1, 3, 1, 0) :: (0, 1, 0, 0, 0) :: (5, 1, 44, 112, 0) :: (0, 0, 3, 0, 0) :: (5, 2, 48, 0, 56) :: (0, 3, 4, 0, 0) :: (0, 2, 0, 0, 0) :: (0, 3, 5, 0, 0) :: (6, 0, 25, 6, 0) :: []) (by decide +kernel) h
  exact h2
theorem eg80_44_6_1 {n : Nat} {w : px_W} {r : Option Value × px_W} {x1 x2 s0 : Int} (h : ec_E hb_X n 80 6 [(0, .inr (.inl 108)), (1, .inl x1), (2, .inl x2)] [.inl s0] w r) : ec_tw s0 < ec_tw 0 → True ∧ r = (ec_R 9, w) ∧ ec_W hb_A w := by
  have h2 := hb_ecw ((0, 3, 3, 0, 0) :: (0, 0, 3, 0, 0) :: (4, 1, 2, 0, 0) :: (0, 2, 0, 0, 9) :: (6, 3, 0, 0, 0) :: []) (by decide +kernel) h
  exact h2
theorem eg80_44_25_0 {n : Nat} {w : px_W} {r : Option Value × px_W} {x1 x2 x3 x4 x5 : Int} (h : ec_E hb_X n 80 25 [(0, .inr (.inl 108)), (1, .inl x1), (2, .inl x2), (3, .inl x3), (4, .inl x4), (5, .inl x5)] [] w r) : ec_tw x1 ≤ ec_tw x5 → True ∧ ec_E hb_X n 80 44 [(0, .inr (.inl 108)), (1, .inl x1), (2, .inl x2), (3, .inl x3), (4, .inl x4)] [] w r := by
  have h2 := hb_ecw ((0, 0, 5, 0, 0) :: (0, 0, 1, 0, 0) :: (4, 2, 3, 1, 0) :: (6, 0, 44, 5, 0) :: []) (by decide +kernel) h
  exact h2
theorem eg80_44_25_1 {n : Nat} {w : px_W} {r : Option Value × px_W} {x1 x2 x3 x4 x5 : Int} (h : ec_E hb_X n 80 25 [(0, .inr (.inl 108)), (1, .inl x1), (2, .inl x2), (3, .inl x3), (4, .inl x4), (5, .inl x5)] [] w r) : ec_tw x5 < ec_tw x1 → (True ∧ ec_tw 10 ≠ 0) ∧ ec_E hb_X n 80 25 [(0, .inr (.inl 108)), (1, .inl x1), (2, .inl x2), (3, .inl x3), (4, .inl (ec_dv x4 10)), (5, .inl (x5 + 1))] [] w r := by
  have h2 := hb_ecw ((0, 0, 5, 0, 0) :: (0, 0, 1, 0, 0) :: (4, 2, 2, 0, 0) :: (0, 0, 4, 0, 0) :: (0, 2, 0, 0, 10) :: (2, 0, 0, 0, 0) :: (0, 3, 4, 0, 0) :: (0, 5, 5, 0, 1) :: (4, 0, 0, 0, 0) :: (6, 0, 25, 6, 0) :: []) (by decide +kernel) h
  exact h2
theorem eg80_44_44_0 {n : Nat} {w : px_W} {r : Option Value × px_W} {x1 x2 x3 x4 : Int} (h : ec_E hb_X n 80 44 [(0, .inr (.inl 108)), (1, .inl x1), (2, .inl x2), (3, .inl x3), (4, .inl x4)] [] w r) : (True ∧ ec_tw 10 ≠ 0) ∧ r = (ec_R (ec_rm x4 10), w) ∧ ec_W hb_A w := by
  have h2 := hb_ecw ((0, 0, 4, 0, 0) :: (0, 2, 0, 0, 10) :: (2, 1, 0, 0, 0) :: (6, 3, 0, 0, 0) :: []) (by decide +kernel) h
  exact h2
/-! X11_rank -/
theorem eg158_0_0_0 {n : Nat} {w : px_W} {r : Option Value × px_W} {x1 x2 : Int} (h : ec_E hb_X n 158 0 [(0, .inr (.inl 64)), (1, .inl x1), (2, .inl x2)] [] w r) : True ∧ ∃ (v : Option Value) (w1 : px_W), ec_E hb_X n 173 0 [(0, .inl x1), (1, .inl 0), (2, .inl 2)] [] w (v, w1) ∧ ∀ zz : Int, v = ec_R zz → ec_W hb_A w1 → ec_E hb_X n 158 6 [(0, .inr (.inl 64)), (1, .inl x1), (2, .inl x2)] [.inl zz] w1 r := by
  have h2 := hb_ecw ((0, 0, 1, 0, 0) :: (0, 2, 0, 0, 0) :: (0, 2, 0, 0, 2) :: (6, 1, 173, 3, 6) :: []) (by decide +kernel) h
  exact h2
theorem eg158_0_6_0 {n : Nat} {w : px_W} {r : Option Value × px_W} {x1 x2 s0 : Int} (h : ec_E hb_X n 158 6 [(0, .inr (.inl 64)), (1, .inl x1), (2, .inl x2)] [.inl s0] w r) : ec_tw s0 = ec_tw 0 → True ∧ r = (ec_R (-1), w) ∧ ec_W hb_A w := by
  have h2 := hb_ecw ((4, 1, 0, 1, 0) :: (0, 2, 0, 0, (-1)) :: (6, 3, 0, 0, 0) :: []) (by decide +kernel) h
  exact h2
theorem eg158_0_6_1 {n : Nat} {w : px_W} {r : Option Value × px_W} {x1 x2 s0 : Int} (h : ec_E hb_X n 158 6 [(0, .inr (.inl 64)), (1, .inl x1), (2, .inl x2)] [.inl s0] w r) : ec_tw s0 ≠ ec_tw 0 → True ∧ ∃ (v : Option Value) (w1 : px_W), ec_E hb_X n 174 0 [(0, .inl x2)] [] w (v, w1) ∧ ∀ zz : Int, v = ec_R zz → ec_W hb_A w1 → ec_E hb_X n 158 13 [(0, .inr (.inl 64)), (1, .inl x1), (2, .inl x2)] [.inl zz] w1 r := by
  have h2 := hb_ecw ((4, 1, 1, 0, 0) :: (0, 0, 2, 0, 0) :: (6, 1, 174, 1, 13) :: []) (by decide +kernel) h
  exact h2
theorem eg158_0_13_0 {n : Nat} {w : px_W} {r : Option Value × px_W} {x1 x2 s0 : Int} (h : ec_E hb_X n 158 13 [(0, .inr (.inl 64)), (1, .inl x1), (2, .inl x2)] [.inl s0] w r) : ec_tw s0 ≠ ec_tw 0 → True ∧ ∃ (v : Option Value) (w1 : px_W), ec_E hb_X n 80 0 [(0, .inr (.inl 108)), (1, .inl x1), (2, .inl x2)] [] w (v, w1) ∧ ∀ zz : Int, v = ec_R zz → ec_W hb_A w1 → ec_E hb_X n 158 27 [(0, .inr (.inl 64)), (1, .inl x1), (2, .inl x2)] [.inl zz] w1 r := by
  have h2 := hb_ecw ((4, 1, 1, 1, 0) :: (0, 1, 0, 0, 0) :: (5, 1, 0, 108, 0) :: (0, 0, 1, 0, 0) :: (0, 0, 2, 0, 0) :: (6, 1, 80, 3, 27) :: []) (by decide +kernel) h
  exact h2
theorem eg158_0_13_1 {n : Nat} {w : px_W} {r : Option Value × px_W} {x1 x2 s0 : Int} (h : ec_E hb_X n 158 13 [(0, .inr (.inl 64)), (1, .inl x1), (2, .inl x2)] [.inl s0] w r) : ec_tw s0 = ec_tw 0 → True ∧ r = (ec_R (-1), w) ∧ ec_W hb_A w := by
  have h2 := hb_ecw ((4, 1, 0, 0, 0) :: (0, 2, 0, 0, (-1)) :: (6, 3, 0, 0, 0) :: []) (by decide +kernel) h
  exact h2
theorem eg158_0_27_0 {n : Nat} {w : px_W} {r : Option Value × px_W} {x1 x2 s0 : Int} (h : ec_E hb_X n 158 27 [(0, .inr (.inl 64)), (1, .inl x1), (2, .inl x2)] [.inl s0] w r) : True ∧ r = (ec_R s0, w) ∧ ec_W hb_A w := by
  have h2 := hb_ecw ((6, 3, 0, 0, 0) :: []) (by decide +kernel) h
  exact h2
/-! X12_rank -/
theorem eg266_151_0_0 {n : Nat} {w : px_W} {r : Option Value × px_W} {x1 x2 : Int} (h : ec_E hb_X n 266 0 [(0, .inr (.inl 215)), (1, .inl x1), (2, .inl x2)] [] w r) : True ∧ ∃ (v : Option Value) (w1 : px_W), ec_E hb_X n 182 0 [(0, .inl x1), (1, .inl 0), (2, .inl 2)] [] w (v, w1) ∧ ∀ zz : Int, v = ec_R zz → ec_W hb_A w1 → ec_E hb_X n 266 6 [(0, .inr (.inl 215)), (1, .inl x1), (2, .inl x2)] [.inl zz] w1 r := by
  have h2 := hb_ecw ((0, 0, 1, 0, 0) :: (0, 2, 0, 0, 0) :: (0, 2, 0, 0, 2) :: (6, 1, 182, 3, 6) :: []) (by decide +kernel) h
  exact h2
theorem eg266_151_6_0 {n : Nat} {w : px_W} {r : Option Value × px_W} {x1 x2 s0 : Int} (h : ec_E hb_X n 266 6 [(0, .inr (.inl 215)), (1, .inl x1), (2, .inl x2)] [.inl s0] w r) : ec_tw s0 = ec_tw 0 → True ∧ r = (ec_R (-1), w) ∧ ec_W hb_A w := by
  have h2 := hb_ecw ((4, 1, 0, 1, 0) :: (0, 2, 0, 0, (-1)) :: (6, 3, 0, 0, 0) :: []) (by decide +kernel) h
  exact h2
theorem eg266_151_6_1 {n : Nat} {w : px_W} {r : Option Value × px_W} {x1 x2 s0 : Int} (h : ec_E hb_X n 266 6 [(0, .inr (.inl 215)), (1, .inl x1), (2, .inl x2)] [.inl s0] w r) : ec_tw s0 ≠ ec_tw 0 → True ∧ ∃ (v : Option Value) (w1 : px_W), ec_E hb_X n 183 0 [(0, .inl x2)] [] w (v, w1) ∧ ∀ zz : Int, v = ec_R zz → ec_W hb_A w1 → ec_E hb_X n 266 13 [(0, .inr (.inl 215)), (1, .inl x1), (2, .inl x2)] [.inl zz] w1 r := by
  have h2 := hb_ecw ((4, 1, 1, 0, 0) :: (0, 0, 2, 0, 0) :: (6, 1, 183, 1, 13) :: []) (by decide +kernel) h
  exact h2
theorem eg266_151_13_0 {n : Nat} {w : px_W} {r : Option Value × px_W} {x1 x2 s0 : Int} (h : ec_E hb_X n 266 13 [(0, .inr (.inl 215)), (1, .inl x1), (2, .inl x2)] [.inl s0] w r) : ec_tw s0 ≠ ec_tw 0 → True ∧ ∃ (v : Option Value) (w1 : px_W), ec_E hb_X n 263 0 [(0, .inr (.inl 215)), (1, .inl x2)] [] w (v, w1) ∧ (v = none → ec_W hb_A w1 → ec_E hb_X n 266 23 [(0, .inr (.inl 215)), (1, .inl x1), (2, .inl x2)] [] w1 r) := by
  have h2 := hb_ecw ((4, 1, 1, 1, 0) :: (0, 1, 0, 0, 0) :: (0, 0, 2, 0, 0) :: (6, 2, 263, 2, 23) :: []) (by decide +kernel) h
  exact h2
theorem eg266_151_13_1 {n : Nat} {w : px_W} {r : Option Value × px_W} {x1 x2 s0 : Int} (h : ec_E hb_X n 266 13 [(0, .inr (.inl 215)), (1, .inl x1), (2, .inl x2)] [.inl s0] w r) : ec_tw s0 = ec_tw 0 → True ∧ r = (ec_R (-1), w) ∧ ec_W hb_A w := by
  have h2 := hb_ecw ((4, 1, 0, 0, 0) :: (0, 2, 0, 0, (-1)) :: (6, 3, 0, 0, 0) :: []) (by decide +kernel) h
  exact h2
theorem eg266_151_23_0 {n : Nat} {w : px_W} {r : Option Value × px_W} {x1 x2 : Int} (h : ec_E hb_X n 266 23 [(0, .inr (.inl 215)), (1, .inl x1), (2, .inl x2)] [] w r) : (True ∧ 0 ≤ ec_tw x1 ∧ ec_tw x1 < 3) ∧ r = (ec_R (ec_rd w 171 (ec_tw x1)), w) ∧ ec_W hb_A w := by
  have h2 := hb_ecw ((0, 1, 0, 0, 0) :: (5, 1, 151, 235, 0) :: (0, 0, 1, 0, 0) :: (5, 2, 171, 0, 3) :: (6, 3, 0, 0, 0) :: []) (by decide +kernel) h
  exact h2

end

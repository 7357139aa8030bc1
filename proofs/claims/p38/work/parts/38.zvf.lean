noncomputable section
/-! X3_allRoom -/
theorem eg38_1_0_0 {n : Nat} {w : px_W} {r : Option Value × px_W} (h : ec_E hb_X n 38 0 [(0, .inr (.inl 65))] [] w r) : True ∧ ec_E hb_X n 38 4 [(0, .inr (.inl 65)), (1, .inl 0), (2, .inl 0)] [] w r := by
  have h2 := hb_ecw ((0, 2, 0, 0, 0) :: (0, 3, 1, 0, 0) :: (0, 2, 0, 0, 0) :: (0, 3, 2, 0, 0) :: (6, 0, 4, 3, 0) :: []) (by decide +kernel) h
  exact h2
theorem eg38_1_4_0 {n : Nat} {w : px_W} {r : Option Value × px_W} {x1 x2 : Int} (h : ec_E hb_X n 38 4 [(0, .inr (.inl 65)), (1, .inl x1), (2, .inl x2)] [] w r) : ec_tw 8 ≤ ec_tw x2 → True ∧ r = (ec_R x1, w) ∧ ec_W hb_A w := by
  have h2 := hb_ecw ((0, 0, 2, 0, 0) :: (0, 2, 0, 0, 8) :: (4, 2, 3, 1, 0) :: (0, 0, 1, 0, 0) :: (6, 3, 0, 0, 0) :: []) (by decide +kernel) h
  exact h2
theorem eg38_1_4_1 {n : Nat} {w : px_W} {r : Option Value × px_W} {x1 x2 : Int} (h : ec_E hb_X n 38 4 [(0, .inr (.inl 65)), (1, .inl x1), (2, .inl x2)] [] w r) : ec_tw x2 < ec_tw 8 → (True ∧ 0 ≤ ec_tw x2 ∧ ec_tw x2 < 8) ∧ ec_E hb_X n 38 4 [(0, .inr (.inl 65)), (1, .inl (x1 + (ec_rd w 2 (ec_tw x2)))), (2, .inl (x2 + 1))] [] w r := by
  have h2 := hb_ecw ((0, 0, 2, 0, 0) :: (0, 2, 0, 0, 8) :: (4, 2, 2, 0, 0) :: (0, 0, 1, 0, 0) :: (0, 1, 0, 0, 0) :: (5, 1, 1, 66, 0) :: (0, 0, 2, 0, 0) :: (5, 2, 2, 0, 8) :: (1, 0, 0, 0, 0) :: (0, 3, 1, 0, 0) :: (0, 5, 2, 0, 1) :: (4, 0, 0, 0, 0) :: (6, 0, 4, 3, 0) :: []) (by decide +kernel) h
  exact h2
/-! X1_allSeats -/
theorem eg18_15_0_0 {n : Nat} {w : px_W} {r : Option Value × px_W} (h : ec_E hb_X n 18 0 [(0, .inr (.inl 79))] [] w r) : True ∧ ec_E hb_X n 18 4 [(0, .inr (.inl 79)), (1, .inl 0), (2, .inl 0)] [] w r := by
  have h2 := hb_ecw ((0, 2, 0, 0, 0) :: (0, 3, 1, 0, 0) :: (0, 2, 0, 0, 0) :: (0, 3, 2, 0, 0) :: (6, 0, 4, 3, 0) :: []) (by decide +kernel) h
  exact h2
theorem eg18_15_4_0 {n : Nat} {w : px_W} {r : Option Value × px_W} {x1 x2 : Int} (h : ec_E hb_X n 18 4 [(0, .inr (.inl 79)), (1, .inl x1), (2, .inl x2)] [] w r) : ec_tw (ec_fd w 15 10) ≤ ec_tw x2 → True ∧ r = (ec_R x1, w) ∧ ec_W hb_A w := by
  have h2 := hb_ecw ((0, 0, 2, 0, 0) :: (0, 1, 0, 0, 0) :: (5, 0, 15, 10, 0) :: (4, 2, 3, 1, 0) :: (0, 0, 1, 0, 0) :: (6, 3, 0, 0, 0) :: []) (by decide +kernel) h
  exact h2
theorem eg18_15_4_1 {n : Nat} {w : px_W} {r : Option Value × px_W} {x1 x2 : Int} (h : ec_E hb_X n 18 4 [(0, .inr (.inl 79)), (1, .inl x1), (2, .inl x2)] [] w r) : ec_tw x2 < ec_tw (ec_fd w 15 10) → (True ∧ 0 ≤ ec_tw x2 ∧ ec_tw x2 < 8) ∧ ec_E hb_X n 18 4 [(0, .inr (.inl 79)), (1, .inl (x1 + (ec_rd w 24 (ec_tw x2)))), (2, .inl (x2 + 1))] [] w r := by
  have h2 := hb_ecw ((0, 0, 2, 0, 0) :: (0, 1, 0, 0, 0) :: (5, 0, 15, 10, 0) :: (4, 2, 2, 0, 0) :: (0, 0, 1, 0, 0) :: (0, 1, 0, 0, 0) :: (5, 1, 15, 88, 0) :: (0, 0, 2, 0, 0) :: (5, 2, 24, 0, 8) :: (1, 0, 0, 0, 0) :: (0, 3, 1, 0, 0) :: (0, 5, 2, 0, 1) :: (4, 0, 0, 0, 0) :: (6, 0, 4, 3, 0) :: []) (by decide +kernel) h
  exact h2
/-! X6_seatsDue -/
theorem eg79_44_0_0 {n : Nat} {w : px_W} {r : Option Value × px_W} {x1 x2 : Int} (h : ec_E hb_X n 79 0 [(0, .inr (.inl 108)), (1, .inl x1), (2, .inl x2)] [] w r) : True ∧ ∃ (v : Option Value) (w1 : px_W), ec_E hb_X n 83 0 [(0, .inr (.inl 108)), (1, .inl 0), (2, .inl x1)] [] w (v, w1) ∧ ∀ zz : Int, v = ec_R zz → ec_W hb_A w1 → ec_E hb_X n 79 6 [(0, .inr (.inl 108)), (1, .inl x1), (2, .inl x2)] [.inl zz] w1 r := by
  have h2 := hb_ecw ((0, 1, 0, 0, 0) :: (0, 2, 0, 0, 0) :: (0, 0, 1, 0, 0) :: (6, 1, 83, 3, 6) :: []) (by decide +kernel) h
  exact h2
theorem eg79_44_6_0 {n : Nat} {w : px_W} {r : Option Value × px_W} {x1 x2 s0 : Int} (h : ec_E hb_X n 79 6 [(0, .inr (.inl 108)), (1, .inl x1), (2, .inl x2)] [.inl s0] w r) : ec_tw s0 < ec_tw 0 → True ∧ r = (ec_R 0, w) ∧ ec_W hb_A w := by
  have h2 := hb_ecw ((0, 3, 3, 0, 0) :: (0, 0, 3, 0, 0) :: (4, 1, 2, 1, 0) :: (0, 2, 0, 0, 0) :: (6, 3, 0, 0, 0) :: []) (by decide +kernel) h
  exact h2
theorem eg79_44_6_1 {n : Nat} {w : px_W} {r : Option Value × px_W} {x1 x2 s0 : Int} (h : ec_E hb_X n 79 6 [(0, .inr (.inl 108)), (1, .inl x1), (2, .inl x2)] [.inl s0] w r) : ec_tw 0 ≤ ec_tw s0 → ec_tw 0 < ec_tw (ec_rd w 49 (ec_tw s0)) → ((((True ∧ 0 ≤ ec_tw s0 ∧ ec_tw s0 < 56) ∧ 0 ≤ ec_tw s0 ∧ ec_tw s0 < 56) ∧ 0 ≤ ec_tw s0 ∧ ec_tw s0 < 56) ∧ ec_tw (ec_rd w 49 (ec_tw s0)) ≠ 0) ∧ r = (ec_R ((ec_rd w 48 (ec_tw s0)) * (ec_dv x2 (ec_rd w 49 (ec_tw s0)))), w) ∧ ec_W hb_A w := by
  have h2 := hb_ecw ((0, 3, 3, 0, 0) :: (0, 0, 3, 0, 0) :: (4, 1, 3, 0, 0) :: (0, 1, 0, 0, 0) :: (5, 1, 44, 113, 0) :: (0, 0, 3, 0, 0) :: (5, 2, 49, 0, 56) :: (4, 1, 4, 1, 0) :: (0, 1, 0, 0, 0) :: (5, 1, 44, 112, 0) :: (0, 0, 3, 0, 0) :: (5, 2, 48, 0, 56) :: (0, 0, 2, 0, 0) :: (0, 1, 0, 0, 0) :: (5, 1, 44, 113, 0) :: (0, 0, 3, 0, 0) :: (5, 2, 49, 0, 56) :: (2, 0, 0, 0, 0) :: (1, 2, 0, 0, 0) :: (6, 3, 0, 0, 0) :: []) (by decide +kernel) h
  exact h2
theorem eg79_44_6_2 {n : Nat} {w : px_W} {r : Option Value × px_W} {x1 x2 s0 : Int} (h : ec_E hb_X n 79 6 [(0, .inr (.inl 108)), (1, .inl x1), (2, .inl x2)] [.inl s0] w r) : ec_tw 0 ≤ ec_tw s0 → ec_tw (ec_rd w 49 (ec_tw s0)) ≤ ec_tw 0 → (True ∧ 0 ≤ ec_tw s0 ∧ ec_tw s0 < 56) ∧ r = (ec_R 0, w) ∧ ec_W hb_A w := by
  have h2 := hb_ecw ((0, 3, 3, 0, 0) :: (0, 0, 3, 0, 0) :: (4, 1, 3, 0, 0) :: (0, 1, 0, 0, 0) :: (5, 1, 44, 113, 0) :: (0, 0, 3, 0, 0) :: (5, 2, 49, 0, 56) :: (4, 1, 5, 0, 0) :: (0, 2, 0, 0, 0) :: (6, 3, 0, 0, 0) :: []) (by decide +kernel) h
  exact h2
/-! X11_lack -/
theorem eg157_0_0_0 {n : Nat} {w : px_W} {r : Option Value × px_W} {x1 : Int} (h : ec_E hb_X n 157 0 [(0, .inr (.inl 64)), (1, .inl x1)] [] w r) : True ∧ ∃ (v : Option Value) (w1 : px_W), ec_E hb_X n 174 0 [(0, .inl x1)] [] w (v, w1) ∧ ∀ zz : Int, v = ec_R zz → ec_W hb_A w1 → ec_E hb_X n 157 4 [(0, .inr (.inl 64)), (1, .inl x1)] [.inl zz] w1 r := by
  have h2 := hb_ecw ((0, 0, 1, 0, 0) :: (6, 1, 174, 1, 4) :: []) (by decide +kernel) h
  exact h2
theorem eg157_0_4_0 {n : Nat} {w : px_W} {r : Option Value × px_W} {x1 s0 : Int} (h : ec_E hb_X n 157 4 [(0, .inr (.inl 64)), (1, .inl x1)] [.inl s0] w r) : ec_tw s0 ≠ ec_tw 0 → True ∧ ∃ (v : Option Value) (w1 : px_W), ec_E hb_X n 38 0 [(0, .inr (.inl 65))] [] w (v, w1) ∧ ∀ zz : Int, v = ec_R zz → ec_W hb_A w1 → ec_E hb_X n 157 21 [(0, .inr (.inl 64)), (1, .inl x1)] [.inl zz, .inl x1, .inr (.inl 108)] w1 r := by
  have h2 := hb_ecw ((4, 1, 1, 1, 0) :: (0, 1, 0, 0, 0) :: (5, 1, 0, 108, 0) :: (0, 0, 1, 0, 0) :: (0, 1, 0, 0, 0) :: (5, 1, 0, 65, 0) :: (6, 1, 38, 1, 21) :: []) (by decide +kernel) h
  exact h2
theorem eg157_0_4_1 {n : Nat} {w : px_W} {r : Option Value × px_W} {x1 s0 : Int} (h : ec_E hb_X n 157 4 [(0, .inr (.inl 64)), (1, .inl x1)] [.inl s0] w r) : ec_tw s0 = ec_tw 0 → True ∧ r = (ec_R (-1), w) ∧ ec_W hb_A w := by
  have h2 := hb_ecw ((4, 1, 0, 0, 0) :: (0, 2, 0, 0, (-1)) :: (6, 3, 0, 0, 0) :: []) (by decide +kernel) h
  exact h2
theorem eg157_0_21_0 {n : Nat} {w : px_W} {r : Option Value × px_W} {x1 s1 s2 : Int} (h : ec_E hb_X n 157 21 [(0, .inr (.inl 64)), (1, .inl x1)] [.inl s2, .inl s1, .inr (.inl 108)] w r) : True ∧ ∃ (v : Option Value) (w1 : px_W), ec_E hb_X n 79 0 [(0, .inr (.inl 108)), (1, .inl s1), (2, .inl s2)] [] w (v, w1) ∧ ∀ zz : Int, v = ec_R zz → ec_W hb_A w1 → ec_E hb_X n 157 24 [(0, .inr (.inl 64)), (1, .inl x1)] [.inl zz] w1 r := by
  have h2 := hb_ecw ((6, 1, 79, 3, 24) :: []) (by decide +kernel) h
  exact h2
theorem eg157_0_24_0 {n : Nat} {w : px_W} {r : Option Value × px_W} {x1 s0 : Int} (h : ec_E hb_X n 157 24 [(0, .inr (.inl 64)), (1, .inl x1)] [.inl s0] w r) : True ∧ ∃ (v : Option Value) (w1 : px_W), ec_E hb_X n 18 0 [(0, .inr (.inl 79))] [] w (v, w1) ∧ ∀ zz : Int, v = ec_R zz → ec_W hb_A w1 → ec_E hb_X n 157 31 [(0, .inr (.inl 64)), (1, .inl x1)] [.inl zz, .inl s0] w1 r := by
  have h2 := hb_ecw ((0, 1, 0, 0, 0) :: (5, 1, 0, 79, 0) :: (6, 1, 18, 1, 31) :: []) (by decide +kernel) h
  exact h2
theorem eg157_0_31_0 {n : Nat} {w : px_W} {r : Option Value × px_W} {x1 s0 s1 : Int} (h : ec_E hb_X n 157 31 [(0, .inr (.inl 64)), (1, .inl x1)] [.inl s1, .inl s0] w r) : True ∧ r = (ec_R (ec_mx 0 (s0 - s1)), w) ∧ ec_W hb_A w := by
  have h2 := hb_ecw ((1, 1, 0, 0, 0) :: (0, 3, 2, 0, 0) :: (0, 2, 0, 0, 0) :: (0, 0, 2, 0, 0) :: (3, 5, 0, 0, 0) :: (6, 3, 0, 0, 0) :: []) (by decide +kernel) h
  exact h2
/-! X12_sumOf -/
theorem eg264_151_0_0 {n : Nat} {w : px_W} {r : Option Value × px_W} {x1 x2 x3 : Int} (h : ec_E hb_X n 264 0 [(0, .inr (.inl 215)), (1, .inl x1), (2, .inl x2), (3, .inl x3)] [] w r) : True ∧ ec_E hb_X n 264 6 [(0, .inr (.inl 215)), (1, .inl x1), (2, .inl x2), (3, .inl x3), (4, .inl 0), (5, .inl 0)] [] w r := by
  have h2 := hb_ecw ((0, 2, 0, 0, 0) :: (0, 3, 4, 0, 0) :: (0, 2, 0, 0, 0) :: (0, 3, 5, 0, 0) :: (6, 0, 6, 6, 0) :: []) (by decide +kernel) h
  exact h2
theorem eg264_151_6_0 {n : Nat} {w : px_W} {r : Option Value × px_W} {x1 x2 x3 x4 x5 : Int} (h : ec_E hb_X n 264 6 [(0, .inr (.inl 215)), (1, .inl x1), (2, .inl x2), (3, .inl x3), (4, .inl x4), (5, .inl x5)] [] w r) : ec_tw x2 ≤ ec_tw x5 → True ∧ r = (ec_R x4, w) ∧ ec_W hb_A w := by
  have h2 := hb_ecw ((0, 0, 5, 0, 0) :: (0, 0, 2, 0, 0) :: (4, 2, 3, 1, 0) :: (0, 0, 4, 0, 0) :: (6, 3, 0, 0, 0) :: []) (by decide +kernel) h
  exact h2
theorem eg264_151_6_1 {n : Nat} {w : px_W} {r : Option Value × px_W} {x1 x2 x3 x4 x5 : Int} (h : ec_E hb_X n 264 6 [(0, .inr (.inl 215)), (1, .inl x1), (2, .inl x2), (3, .inl x3), (4, .inl x4), (5, .inl x5)] [] w r) : ec_tw x5 < ec_tw x2 → (True ∧ 0 ≤ ec_tw (x1 + (x3 * x5)) ∧ ec_tw (x1 + (x3 * x5)) < 1580) ∧ ec_E hb_X n 264 6 [(0, .inr (.inl 215)), (1, .inl x1), (2, .inl x2), (3, .inl x3), (4, .inl (x4 + (ec_rd w 152 (ec_tw (x1 + (x3 * x5)))))), (5, .inl (x5 + 1))] [] w r := by
  have h2 := hb_ecw ((0, 0, 5, 0, 0) :: (0, 0, 2, 0, 0) :: (4, 2, 2, 0, 0) :: (0, 0, 4, 0, 0) :: (0, 1, 0, 0, 0) :: (5, 1, 151, 216, 0) :: (0, 0, 1, 0, 0) :: (0, 0, 3, 0, 0) :: (0, 0, 5, 0, 0) :: (1, 2, 0, 0, 0) :: (1, 0, 0, 0, 0) :: (5, 2, 152, 0, 1580) :: (1, 0, 0, 0, 0) :: (0, 3, 4, 0, 0) :: (0, 5, 5, 0, 1) :: (4, 0, 0, 0, 0) :: (6, 0, 6, 6, 0) :: []) (by decide +kernel) h
  exact h2
/-! X12_lack -/
theorem eg265_151_0_0 {n : Nat} {w : px_W} {r : Option Value × px_W} {x1 : Int} (h : ec_E hb_X n 265 0 [(0, .inr (.inl 215)), (1, .inl x1)] [] w r) : True ∧ ∃ (v : Option Value) (w1 : px_W), ec_E hb_X n 183 0 [(0, .inl x1)] [] w (v, w1) ∧ ∀ zz : Int, v = ec_R zz → ec_W hb_A w1 → ec_E hb_X n 265 4 [(0, .inr (.inl 215)), (1, .inl x1)] [.inl zz] w1 r := by
  have h2 := hb_ecw ((0, 0, 1, 0, 0) :: (6, 1, 183, 1, 4) :: []) (by decide +kernel) h
  exact h2
theorem eg265_151_4_0 {n : Nat} {w : px_W} {r : Option Value × px_W} {x1 s0 : Int} (h : ec_E hb_X n 265 4 [(0, .inr (.inl 215)), (1, .inl x1)] [.inl s0] w r) : ec_tw s0 ≠ ec_tw 0 → True ∧ ∃ (v : Option Value) (w1 : px_W), ec_E hb_X n 263 0 [(0, .inr (.inl 215)), (1, .inl x1)] [] w (v, w1) ∧ (v = none → ec_W hb_A w1 → ec_E hb_X n 265 14 [(0, .inr (.inl 215)), (1, .inl x1)] [] w1 r) := by
  have h2 := hb_ecw ((4, 1, 1, 1, 0) :: (0, 1, 0, 0, 0) :: (0, 0, 1, 0, 0) :: (6, 2, 263, 2, 14) :: []) (by decide +kernel) h
  exact h2
theorem eg265_151_4_1 {n : Nat} {w : px_W} {r : Option Value × px_W} {x1 s0 : Int} (h : ec_E hb_X n 265 4 [(0, .inr (.inl 215)), (1, .inl x1)] [.inl s0] w r) : ec_tw s0 = ec_tw 0 → True ∧ r = (ec_R (-1), w) ∧ ec_W hb_A w := by
  have h2 := hb_ecw ((4, 1, 0, 0, 0) :: (0, 2, 0, 0, (-1)) :: (6, 3, 0, 0, 0) :: []) (by decide +kernel) h
  exact h2
theorem eg265_151_14_0 {n : Nat} {w : px_W} {r : Option Value × px_W} {x1 : Int} (h : ec_E hb_X n 265 14 [(0, .inr (.inl 215)), (1, .inl x1)] [] w r) : True ∧ ∃ (v : Option Value) (w1 : px_W), ec_E hb_X n 264 0 [(0, .inr (.inl 215)), (1, .inl 16), (2, .inl 8), (3, .inl 1)] [] w (v, w1) ∧ ∀ zz : Int, v = ec_R zz → ec_W hb_A w1 → ec_E hb_X n 265 27 [(0, .inr (.inl 215)), (1, .inl x1)] [.inl zz, .inl (ec_fd w 151 36)] w1 r := by
  have h2 := hb_ecw ((0, 1, 0, 0, 0) :: (5, 0, 151, 36, 0) :: (0, 1, 0, 0, 0) :: (0, 2, 0, 0, 16) :: (0, 2, 0, 0, 8) :: (0, 2, 0, 0, 1) :: (6, 1, 264, 4, 27) :: []) (by decide +kernel) h
  exact h2
theorem eg265_151_27_0 {n : Nat} {w : px_W} {r : Option Value × px_W} {x1 s0 s1 : Int} (h : ec_E hb_X n 265 27 [(0, .inr (.inl 215)), (1, .inl x1)] [.inl s1, .inl s0] w r) : ((True ∧ ec_tw (ec_fd w 151 37) ≠ 0) ∧ 0 ≤ ec_tw 5 ∧ ec_tw 5 < 1580) ∧ ∃ (v : Option Value) (w1 : px_W), ec_E hb_X n 264 0 [(0, .inr (.inl 215)), (1, .inl 216), (2, .inl (ec_rd w 152 (ec_tw 5))), (3, .inl 4)] [] w (v, w1) ∧ ∀ zz : Int, v = ec_R zz → ec_W hb_A w1 → ec_E hb_X n 265 47 [(0, .inr (.inl 215)), (1, .inl x1)] [.inl zz, .inl (s0 * (ec_dv s1 (ec_fd w 151 37)))] w1 r := by
  have h2 := hb_ecw ((0, 1, 0, 0, 0) :: (5, 0, 151, 37, 0) :: (2, 0, 0, 0, 0) :: (1, 2, 0, 0, 0) :: (0, 1, 0, 0, 0) :: (0, 2, 0, 0, 216) :: (0, 1, 0, 0, 0) :: (5, 1, 151, 216, 0) :: (0, 2, 0, 0, 5) :: (5, 2, 152, 0, 1580) :: (0, 2, 0, 0, 4) :: (6, 1, 264, 4, 47) :: []) (by decide +kernel) h
  exact h2
theorem eg265_151_47_0 {n : Nat} {w : px_W} {r : Option Value × px_W} {x1 s0 s1 : Int} (h : ec_E hb_X n 265 47 [(0, .inr (.inl 215)), (1, .inl x1)] [.inl s1, .inl s0] w r) : ec_tw (s0 - s1) ≤ ec_tw 0 → True ∧ r = (ec_R 0, w) ∧ ec_W hb_A w := by
  have h2 := hb_ecw ((1, 1, 0, 0, 0) :: (0, 3, 2, 0, 0) :: (0, 0, 2, 0, 0) :: (4, 1, 5, 1, 0) :: (0, 2, 0, 0, 0) :: (6, 3, 0, 0, 0) :: []) (by decide +kernel) h
  exact h2
theorem eg265_151_47_1 {n : Nat} {w : px_W} {r : Option Value × px_W} {x1 s0 s1 : Int} (h : ec_E hb_X n 265 47 [(0, .inr (.inl 215)), (1, .inl x1)] [.inl s1, .inl s0] w r) : ec_tw 0 < ec_tw (s0 - s1) → True ∧ r = (ec_R (s0 - s1), w) ∧ ec_W hb_A w := by
  have h2 := hb_ecw ((1, 1, 0, 0, 0) :: (0, 3, 2, 0, 0) :: (0, 0, 2, 0, 0) :: (4, 1, 4, 0, 0) :: (0, 0, 2, 0, 0) :: (4, 0, 0, 0, 0) :: (6, 3, 0, 0, 0) :: []) (by decide +kernel) h
  exact h2

end

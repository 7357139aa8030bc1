noncomputable section
/-! X12_wrong -/
theorem eg251_151_0_0 {n : Nat} {w : px_W} {r : Option Value × px_W} (h : ec_E hb_X n 251 0 [(0, .inr (.inl 215))] [] w r) : ec_tw 0 ≤ ec_tw (ec_fd w 151 30) → True ∧ ec_E hb_X n 251 19 [(0, .inr (.inl 215))] [.inl (ec_fd w 151 30), .inr (.inl 215)] w r := by
  have h2 := hb_ecw ((0, 1, 0, 0, 0) :: (0, 1, 0, 0, 0) :: (5, 0, 151, 30, 0) :: (4, 1, 3, 1, 0) :: (0, 1, 0, 0, 0) :: (5, 0, 151, 30, 0) :: (6, 0, 19, 1, 0) :: []) (by decide +kernel) h
  exact h2
theorem eg251_151_0_1 {n : Nat} {w : px_W} {r : Option Value × px_W} (h : ec_E hb_X n 251 0 [(0, .inr (.inl 215))] [] w r) : ec_tw (ec_fd w 151 30) < ec_tw 0 → True ∧ ec_E hb_X n 251 19 [(0, .inr (.inl 215))] [.inl (ec_fd w 151 27), .inr (.inl 215)] w r := by
  have h2 := hb_ecw ((0, 1, 0, 0, 0) :: (0, 1, 0, 0, 0) :: (5, 0, 151, 30, 0) :: (4, 1, 2, 0, 0) :: (0, 1, 0, 0, 0) :: (5, 0, 151, 27, 0) :: (4, 0, 0, 0, 0) :: (6, 0, 19, 1, 0) :: []) (by decide +kernel) h
  exact h2
theorem eg251_151_19_0 {n : Nat} {w : px_W} {r : Option Value × px_W} {s1 : Int} (h : ec_E hb_X n 251 19 [(0, .inr (.inl 215))] [.inl s1, .inr (.inl 215)] w r) : True ∧ r = (none, ec_pf w 151 30 s1) ∧ ec_W hb_A (ec_pf w 151 30 s1) := by
  have h2 := hb_ecw ((5, 4, 151, 30, 0) :: (6, 4, 0, 0, 0) :: []) (by decide +kernel) h
  exact h2
/-! X12_isWord -/
theorem eg252_151_0_0 {n : Nat} {w : px_W} {r : Option Value × px_W} {x1 x2 : Int} (h : ec_E hb_X n 252 0 [(0, .inr (.inl 215)), (1, .inl x1), (2, .inl x2)] [] w r) : ec_tw 0 ≤ ec_tw (ec_fd w 151 30) → True ∧ ec_E hb_X n 252 31 [(0, .inr (.inl 215)), (1, .inl x1), (2, .inl x2)] [] w r := by
  have h2 := hb_ecw ((0, 1, 0, 0, 0) :: (5, 0, 151, 30, 0) :: (4, 1, 3, 1, 0) :: (6, 0, 31, 3, 0) :: []) (by decide +kernel) h
  exact h2
theorem eg252_151_0_1 {n : Nat} {w : px_W} {r : Option Value × px_W} {x1 x2 : Int} (h : ec_E hb_X n 252 0 [(0, .inr (.inl 215)), (1, .inl x1), (2, .inl x2)] [] w r) : ec_tw (ec_fd w 151 30) < ec_tw 0 → ec_tw (ec_fd w 151 28) ≠ ec_tw 2 → True ∧ ec_E hb_X n 252 31 [(0, .inr (.inl 215)), (1, .inl x1), (2, .inl x2)] [] w r := by
  have h2 := hb_ecw ((0, 1, 0, 0, 0) :: (5, 0, 151, 30, 0) :: (4, 1, 2, 0, 0) :: (0, 1, 0, 0, 0) :: (5, 0, 151, 28, 0) :: (0, 2, 0, 0, 2) :: (4, 2, 1, 1, 0) :: (6, 0, 31, 3, 0) :: []) (by decide +kernel) h
  exact h2
theorem eg252_151_0_2 {n : Nat} {w : px_W} {r : Option Value × px_W} {x1 x2 : Int} (h : ec_E hb_X n 252 0 [(0, .inr (.inl 215)), (1, .inl x1), (2, .inl x2)] [] w r) : ec_tw (ec_fd w 151 30) < ec_tw 0 → ec_tw (ec_fd w 151 28) = ec_tw 2 → True ∧ ∃ (v : Option Value) (w1 : px_W), ec_E hb_X n 182 0 [(0, .inl (ec_fd w 151 29)), (1, .inl x1), (2, .inl x2)] [] w (v, w1) ∧ ∀ zz : Int, v = ec_R zz → ec_W hb_A w1 → ec_E hb_X n 252 24 [(0, .inr (.inl 215)), (1, .inl x1), (2, .inl x2)] [.inl zz] w1 r := by
  have h2 := hb_ecw ((0, 1, 0, 0, 0) :: (5, 0, 151, 30, 0) :: (4, 1, 2, 0, 0) :: (0, 1, 0, 0, 0) :: (5, 0, 151, 28, 0) :: (0, 2, 0, 0, 2) :: (4, 2, 0, 0, 0) :: (0, 1, 0, 0, 0) :: (5, 0, 151, 29, 0) :: (0, 0, 1, 0, 0) :: (0, 0, 2, 0, 0) :: (6, 1, 182, 3, 24) :: []) (by decide +kernel) h
  exact h2
theorem eg252_151_31_0 {n : Nat} {w : px_W} {r : Option Value × px_W} {x1 x2 : Int} (h : ec_E hb_X n 252 31 [(0, .inr (.inl 215)), (1, .inl x1), (2, .inl x2)] [] w r) : True ∧ r = (ec_R 0, w) ∧ ec_W hb_A w := by
  have h2 := hb_ecw ((0, 2, 0, 0, 0) :: (6, 3, 0, 0, 0) :: []) (by decide +kernel) h
  exact h2
theorem eg252_151_24_0 {n : Nat} {w : px_W} {r : Option Value × px_W} {x1 x2 s0 : Int} (h : ec_E hb_X n 252 24 [(0, .inr (.inl 215)), (1, .inl x1), (2, .inl x2)] [.inl s0] w r) : ec_tw s0 = ec_tw 0 → True ∧ ec_E hb_X n 252 31 [(0, .inr (.inl 215)), (1, .inl x1), (2, .inl x2)] [] w r := by
  have h2 := hb_ecw ((4, 1, 0, 1, 0) :: (6, 0, 31, 3, 0) :: []) (by decide +kernel) h
  exact h2
theorem eg252_151_24_1 {n : Nat} {w : px_W} {r : Option Value × px_W} {x1 x2 s0 : Int} (h : ec_E hb_X n 252 24 [(0, .inr (.inl 215)), (1, .inl x1), (2, .inl x2)] [.inl s0] w r) : ec_tw s0 ≠ ec_tw 0 → True ∧ r = (ec_R 1, w) ∧ ec_W hb_A w := by
  have h2 := hb_ecw ((4, 1, 1, 0, 0) :: (0, 2, 0, 0, 1) :: (4, 0, 0, 0, 0) :: (6, 3, 0, 0, 0) :: []) (by decide +kernel) h
  exact h2
/-! X12_takes -/
theorem eg253_151_0_0 {n : Nat} {w : px_W} {r : Option Value × px_W} {x1 : Int} (h : ec_E hb_X n 253 0 [(0, .inr (.inl 215)), (1, .inl x1)] [] w r) : True ∧ ∃ (v : Option Value) (w1 : px_W), ec_E hb_X n 252 0 [(0, .inr (.inl 215)), (1, .inl x1), (2, .inl x1)] [] w (v, w1) ∧ ∀ zz : Int, v = ec_R zz → ec_W hb_A w1 → ec_E hb_X n 253 6 [(0, .inr (.inl 215)), (1, .inl x1)] [.inl zz] w1 r := by
  have h2 := hb_ecw ((0, 1, 0, 0, 0) :: (0, 0, 1, 0, 0) :: (0, 0, 1, 0, 0) :: (6, 1, 252, 3, 6) :: []) (by decide +kernel) h
  exact h2
theorem eg253_151_6_0 {n : Nat} {w : px_W} {r : Option Value × px_W} {x1 s0 : Int} (h : ec_E hb_X n 253 6 [(0, .inr (.inl 215)), (1, .inl x1)] [.inl s0] w r) : ec_tw s0 = ec_tw 0 → True ∧ ∃ (v : Option Value) (w1 : px_W), ec_E hb_X n 251 0 [(0, .inr (.inl 215))] [] w (v, w1) ∧ (v = none → ec_W hb_A w1 → ec_E hb_X n 253 20 [(0, .inr (.inl 215)), (1, .inl x1)] [] w1 r) := by
  have h2 := hb_ecw ((4, 1, 0, 1, 0) :: (0, 1, 0, 0, 0) :: (6, 2, 251, 1, 20) :: []) (by decide +kernel) h
  exact h2
theorem eg253_151_6_1 {n : Nat} {w : px_W} {r : Option Value × px_W} {x1 s0 : Int} (h : ec_E hb_X n 253 6 [(0, .inr (.inl 215)), (1, .inl x1)] [.inl s0] w r) : ec_tw s0 ≠ ec_tw 0 → True ∧ ∃ (v : Option Value) (w1 : px_W), ec_E hb_X n 249 0 [(0, .inr (.inl 215))] [] w (v, w1) ∧ (v = none → ec_W hb_A w1 → ec_E hb_X n 253 13 [(0, .inr (.inl 215)), (1, .inl x1)] [] w1 r) := by
  have h2 := hb_ecw ((4, 1, 1, 0, 0) :: (0, 1, 0, 0, 0) :: (6, 2, 249, 1, 13) :: []) (by decide +kernel) h
  exact h2
theorem eg253_151_20_0 {n : Nat} {w : px_W} {r : Option Value × px_W} {x1 : Int} (h : ec_E hb_X n 253 20 [(0, .inr (.inl 215)), (1, .inl x1)] [] w r) : True ∧ r = (none, w) ∧ ec_W hb_A w := by
  have h2 := hb_ecw ((6, 4, 0, 0, 0) :: []) (by decide +kernel) h
  exact h2
theorem eg253_151_13_0 {n : Nat} {w : px_W} {r : Option Value × px_W} {x1 : Int} (h : ec_E hb_X n 253 13 [(0, .inr (.inl 215)), (1, .inl x1)] [] w r) : True ∧ r = (none, w) ∧ ec_W hb_A w := by
  have h2 := hb_ecw ((4, 0, 0, 0, 0) :: (6, 4, 0, 0, 0) :: []) (by decide +kernel) h
  exact h2
/-! X12_number -/
theorem eg254_151_0_0 {n : Nat} {w : px_W} {r : Option Value × px_W} {x1 : Int} (h : ec_E hb_X n 254 0 [(0, .inr (.inl 215)), (1, .inl x1)] [] w r) : ec_tw 0 ≤ ec_tw (ec_fd w 151 30) → True ∧ ec_E hb_X n 254 25 [(0, .inr (.inl 215)), (1, .inl x1), (2, .inl (ec_fd w 151 29))] [] w r := by
  have h2 := hb_ecw ((0, 1, 0, 0, 0) :: (5, 0, 151, 29, 0) :: (0, 3, 2, 0, 0) :: (0, 1, 0, 0, 0) :: (5, 0, 151, 30, 0) :: (4, 1, 3, 1, 0) :: (6, 0, 25, 3, 0) :: []) (by decide +kernel) h
  exact h2
theorem eg254_151_0_1 {n : Nat} {w : px_W} {r : Option Value × px_W} {x1 : Int} (h : ec_E hb_X n 254 0 [(0, .inr (.inl 215)), (1, .inl x1)] [] w r) : ec_tw (ec_fd w 151 30) < ec_tw 0 → ec_tw (ec_fd w 151 28) ≠ ec_tw 3 → True ∧ ec_E hb_X n 254 25 [(0, .inr (.inl 215)), (1, .inl x1), (2, .inl (ec_fd w 151 29))] [] w r := by
  have h2 := hb_ecw ((0, 1, 0, 0, 0) :: (5, 0, 151, 29, 0) :: (0, 3, 2, 0, 0) :: (0, 1, 0, 0, 0) :: (5, 0, 151, 30, 0) :: (4, 1, 2, 0, 0) :: (0, 1, 0, 0, 0) :: (5, 0, 151, 28, 0) :: (0, 2, 0, 0, 3) :: (4, 2, 1, 1, 0) :: (6, 0, 25, 3, 0) :: []) (by decide +kernel) h
  exact h2
theorem eg254_151_0_2 {n : Nat} {w : px_W} {r : Option Value × px_W} {x1 : Int} (h : ec_E hb_X n 254 0 [(0, .inr (.inl 215)), (1, .inl x1)] [] w r) : ec_tw (ec_fd w 151 30) < ec_tw 0 → ec_tw (ec_fd w 151 28) = ec_tw 3 → ec_tw x1 ≤ ec_tw (ec_fd w 151 29) → True ∧ ∃ (v : Option Value) (w1 : px_W), ec_E hb_X n 249 0 [(0, .inr (.inl 215))] [] w (v, w1) ∧ (v = none → ec_W hb_A w1 → ec_E hb_X n 254 35 [(0, .inr (.inl 215)), (1, .inl x1), (2, .inl (ec_fd w 151 29))] [] w1 r) := by
  have h2 := hb_ecw ((0, 1, 0, 0, 0) :: (5, 0, 151, 29, 0) :: (0, 3, 2, 0, 0) :: (0, 1, 0, 0, 0) :: (5, 0, 151, 30, 0) :: (4, 1, 2, 0, 0) :: (0, 1, 0, 0, 0) :: (5, 0, 151, 28, 0) :: (0, 2, 0, 0, 3) :: (4, 2, 0, 0, 0) :: (0, 0, 2, 0, 0) :: (0, 0, 1, 0, 0) :: (4, 2, 3, 1, 0) :: (0, 1, 0, 0, 0) :: (6, 2, 249, 1, 35) :: []) (by decide +kernel) h
  exact h2
theorem eg254_151_0_3 {n : Nat} {w : px_W} {r : Option Value × px_W} {x1 : Int} (h : ec_E hb_X n 254 0 [(0, .inr (.inl 215)), (1, .inl x1)] [] w r) : ec_tw (ec_fd w 151 30) < ec_tw 0 → ec_tw (ec_fd w 151 28) = ec_tw 3 → ec_tw (ec_fd w 151 29) < ec_tw x1 → True ∧ ec_E hb_X n 254 25 [(0, .inr (.inl 215)), (1, .inl x1), (2, .inl (ec_fd w 151 29))] [] w r := by
  have h2 := hb_ecw ((0, 1, 0, 0, 0) :: (5, 0, 151, 29, 0) :: (0, 3, 2, 0, 0) :: (0, 1, 0, 0, 0) :: (5, 0, 151, 30, 0) :: (4, 1, 2, 0, 0) :: (0, 1, 0, 0, 0) :: (5, 0, 151, 28, 0) :: (0, 2, 0, 0, 3) :: (4, 2, 0, 0, 0) :: (0, 0, 2, 0, 0) :: (0, 0, 1, 0, 0) :: (4, 2, 2, 0, 0) :: (6, 0, 25, 3, 0) :: []) (by decide +kernel) h
  exact h2
theorem eg254_151_25_0 {n : Nat} {w : px_W} {r : Option Value × px_W} {x1 x2 : Int} (h : ec_E hb_X n 254 25 [(0, .inr (.inl 215)), (1, .inl x1), (2, .inl x2)] [] w r) : True ∧ ∃ (v : Option Value) (w1 : px_W), ec_E hb_X n 251 0 [(0, .inr (.inl 215))] [] w (v, w1) ∧ (v = none → ec_W hb_A w1 → ec_E hb_X n 254 29 [(0, .inr (.inl 215)), (1, .inl x1), (2, .inl x2)] [] w1 r) := by
  have h2 := hb_ecw ((0, 1, 0, 0, 0) :: (6, 2, 251, 1, 29) :: []) (by decide +kernel) h
  exact h2
theorem eg254_151_35_0 {n : Nat} {w : px_W} {r : Option Value × px_W} {x1 x2 : Int} (h : ec_E hb_X n 254 35 [(0, .inr (.inl 215)), (1, .inl x1), (2, .inl x2)] [] w r) : True ∧ r = (ec_R x2, w) ∧ ec_W hb_A w := by
  have h2 := hb_ecw ((0, 0, 2, 0, 0) :: (6, 3, 0, 0, 0) :: []) (by decide +kernel) h
  exact h2
theorem eg254_151_29_0 {n : Nat} {w : px_W} {r : Option Value × px_W} {x1 x2 : Int} (h : ec_E hb_X n 254 29 [(0, .inr (.inl 215)), (1, .inl x1), (2, .inl x2)] [] w r) : True ∧ r = (ec_R 1, w) ∧ ec_W hb_A w := by
  have h2 := hb_ecw ((0, 2, 0, 0, 1) :: (6, 3, 0, 0, 0) :: []) (by decide +kernel) h
  exact h2
/-! X12_single -/
theorem eg255_151_0_0 {n : Nat} {w : px_W} {r : Option Value × px_W} (h : ec_E hb_X n 255 0 [(0, .inr (.inl 215))] [] w r) : True ∧ ec_E hb_X n 255 2 [(0, .inr (.inl 215)), (1, .inl 0)] [] w r := by
  have h2 := hb_ecw ((0, 2, 0, 0, 0) :: (0, 3, 1, 0, 0) :: (6, 0, 2, 2, 0) :: []) (by decide +kernel) h
  exact h2
theorem eg255_151_2_0 {n : Nat} {w : px_W} {r : Option Value × px_W} {x1 : Int} (h : ec_E hb_X n 255 2 [(0, .inr (.inl 215)), (1, .inl x1)] [] w r) : True ∧ ∃ (v : Option Value) (w1 : px_W), ec_E hb_X n 252 0 [(0, .inr (.inl 215)), (1, .inl 8), (2, .inl 8)] [] w (v, w1) ∧ ∀ zz : Int, v = ec_R zz → ec_W hb_A w1 → ec_E hb_X n 255 10 [(0, .inr (.inl 215)), (1, .inl x1)] [.inl zz] w1 r := by
  have h2 := hb_ecw ((0, 1, 0, 0, 0) :: (0, 2, 0, 0, 8) :: (0, 2, 0, 0, 8) :: (6, 1, 252, 3, 10) :: []) (by decide +kernel) h
  exact h2
theorem eg255_151_10_0 {n : Nat} {w : px_W} {r : Option Value × px_W} {x1 s0 : Int} (h : ec_E hb_X n 255 10 [(0, .inr (.inl 215)), (1, .inl x1)] [.inl s0] w r) : ec_tw s0 = ec_tw 0 → True ∧ ec_E hb_X n 255 30 [(0, .inr (.inl 215)), (1, .inl x1)] [] w r := by
  have h2 := hb_ecw ((4, 1, 0, 1, 0) :: (6, 0, 30, 2, 0) :: []) (by decide +kernel) h
  exact h2
theorem eg255_151_10_1 {n : Nat} {w : px_W} {r : Option Value × px_W} {x1 s0 : Int} (h : ec_E hb_X n 255 10 [(0, .inr (.inl 215)), (1, .inl x1)] [.inl s0] w r) : ec_tw s0 ≠ ec_tw 0 → ec_tw x1 ≠ ec_tw 0 → True ∧ ec_E hb_X n 255 22 [(0, .inr (.inl 215)), (1, .inl x1)] [.inl 0] w r := by
  have h2 := hb_ecw ((4, 1, 1, 0, 0) :: (0, 0, 1, 0, 0) :: (4, 1, 1, 1, 0) :: (0, 2, 0, 0, 0) :: (6, 0, 22, 2, 0) :: []) (by decide +kernel) h
  exact h2
theorem eg255_151_10_2 {n : Nat} {w : px_W} {r : Option Value × px_W} {x1 s0 : Int} (h : ec_E hb_X n 255 10 [(0, .inr (.inl 215)), (1, .inl x1)] [.inl s0] w r) : ec_tw s0 ≠ ec_tw 0 → ec_tw x1 = ec_tw 0 → True ∧ ec_E hb_X n 255 22 [(0, .inr (.inl 215)), (1, .inl x1)] [.inl 1] w r := by
  have h2 := hb_ecw ((4, 1, 1, 0, 0) :: (0, 0, 1, 0, 0) :: (4, 1, 0, 0, 0) :: (0, 2, 0, 0, 1) :: (4, 0, 0, 0, 0) :: (6, 0, 22, 2, 0) :: []) (by decide +kernel) h
  exact h2
theorem eg255_151_30_0 {n : Nat} {w : px_W} {r : Option Value × px_W} {x1 : Int} (h : ec_E hb_X n 255 30 [(0, .inr (.inl 215)), (1, .inl x1)] [] w r) : ec_tw 0 ≤ ec_tw (ec_fd w 151 30) → True ∧ ec_E hb_X n 255 125 [(0, .inr (.inl 215)), (1, .inl x1), (2, .inl 0)] [] w r := by
  have h2 := hb_ecw ((0, 2, 0, 0, 0) :: (0, 3, 2, 0, 0) :: (0, 1, 0, 0, 0) :: (5, 0, 151, 30, 0) :: (4, 1, 3, 1, 0) :: (6, 0, 125, 3, 0) :: []) (by decide +kernel) h
  exact h2
theorem eg255_151_30_1 {n : Nat} {w : px_W} {r : Option Value × px_W} {x1 : Int} (h : ec_E hb_X n 255 30 [(0, .inr (.inl 215)), (1, .inl x1)] [] w r) : ec_tw (ec_fd w 151 30) < ec_tw 0 → ec_tw (ec_fd w 151 28) ≠ ec_tw 40 → True ∧ ec_E hb_X n 255 125 [(0, .inr (.inl 215)), (1, .inl x1), (2, .inl 0)] [] w r := by
  have h2 := hb_ecw ((0, 2, 0, 0, 0) :: (0, 3, 2, 0, 0) :: (0, 1, 0, 0, 0) :: (5, 0, 151, 30, 0) :: (4, 1, 2, 0, 0) :: (0, 1, 0, 0, 0) :: (5, 0, 151, 28, 0) :: (0, 2, 0, 0, 40) :: (4, 2, 1, 1, 0) :: (6, 0, 125, 3, 0) :: []) (by decide +kernel) h
  exact h2
theorem eg255_151_30_2 {n : Nat} {w : px_W} {r : Option Value × px_W} {x1 : Int} (h : ec_E hb_X n 255 30 [(0, .inr (.inl 215)), (1, .inl x1)] [] w r) : ec_tw (ec_fd w 151 30) < ec_tw 0 → ec_tw (ec_fd w 151 28) = ec_tw 40 → ec_tw (ec_fd w 151 31) ≠ ec_tw 4 → True ∧ ∃ (v : Option Value) (w1 : px_W), ec_E hb_X n 249 0 [(0, .inr (.inl 215))] [] (ec_pf w 151 31 ((ec_fd w 151 31) + 1)) (v, w1) ∧ (v = none → ec_W hb_A w1 → ec_E hb_X n 255 76 [(0, .inr (.inl 215)), (1, .inl x1), (2, .inl 0)] [] w1 r) := by
  have h2 := hb_ecw ((0, 2, 0, 0, 0) :: (0, 3, 2, 0, 0) :: (0, 1, 0, 0, 0) :: (5, 0, 151, 30, 0) :: (4, 1, 2, 0, 0) :: (0, 1, 0, 0, 0) :: (5, 0, 151, 28, 0) :: (0, 2, 0, 0, 40) :: (4, 2, 0, 0, 0) :: (0, 1, 0, 0, 0) :: (5, 0, 151, 31, 0) :: (0, 2, 0, 0, 4) :: (4, 2, 1, 1, 0) :: (0, 1, 0, 0, 0) :: (3, 0, 0, 0, 0) :: (5, 0, 151, 31, 0) :: (0, 2, 0, 0, 1) :: (1, 0, 0, 0, 0) :: (5, 4, 151, 31, 0) :: (0, 1, 0, 0, 0) :: (6, 2, 249, 1, 76) :: []) (by decide +kernel) h
  exact h2
theorem eg255_151_30_3 {n : Nat} {w : px_W} {r : Option Value × px_W} {x1 : Int} (h : ec_E hb_X n 255 30 [(0, .inr (.inl 215)), (1, .inl x1)] [] w r) : ec_tw (ec_fd w 151 30) < ec_tw 0 → ec_tw (ec_fd w 151 28) = ec_tw 40 → ec_tw (ec_fd w 151 31) = ec_tw 4 → True ∧ ∃ (v : Option Value) (w1 : px_W), ec_E hb_X n 251 0 [(0, .inr (.inl 215))] [] w (v, w1) ∧ (v = none → ec_W hb_A w1 → ec_E hb_X n 255 60 [(0, .inr (.inl 215)), (1, .inl x1), (2, .inl 0)] [] w1 r) := by
  have h2 := hb_ecw ((0, 2, 0, 0, 0) :: (0, 3, 2, 0, 0) :: (0, 1, 0, 0, 0) :: (5, 0, 151, 30, 0) :: (4, 1, 2, 0, 0) :: (0, 1, 0, 0, 0) :: (5, 0, 151, 28, 0) :: (0, 2, 0, 0, 40) :: (4, 2, 0, 0, 0) :: (0, 1, 0, 0, 0) :: (5, 0, 151, 31, 0) :: (0, 2, 0, 0, 4) :: (4, 2, 0, 0, 0) :: (0, 1, 0, 0, 0) :: (6, 2, 251, 1, 60) :: []) (by decide +kernel) h
  exact h2
theorem eg255_151_22_0 {n : Nat} {w : px_W} {r : Option Value × px_W} {x1 s0 : Int} (h : ec_E hb_X n 255 22 [(0, .inr (.inl 215)), (1, .inl x1)] [.inl s0] w r) : True ∧ ∃ (v : Option Value) (w1 : px_W), ec_E hb_X n 249 0 [(0, .inr (.inl 215))] [] w (v, w1) ∧ (v = none → ec_W hb_A w1 → ec_E hb_X n 255 27 [(0, .inr (.inl 215)), (1, .inl s0)] [] w1 r) := by
  have h2 := hb_ecw ((0, 3, 1, 0, 0) :: (0, 1, 0, 0, 0) :: (6, 2, 249, 1, 27) :: []) (by decide +kernel) h
  exact h2
theorem eg255_151_125_0 {n : Nat} {w : px_W} {r : Option Value × px_W} {x1 x2 : Int} (h : ec_E hb_X n 255 125 [(0, .inr (.inl 215)), (1, .inl x1), (2, .inl x2)] [] w r) : True ∧ ∃ (v : Option Value) (w1 : px_W), ec_E hb_X n 252 0 [(0, .inr (.inl 215)), (1, .inl 9), (2, .inl 9)] [] w (v, w1) ∧ ∀ zz : Int, v = ec_R zz → ec_W hb_A w1 → ec_E hb_X n 255 133 [(0, .inr (.inl 215)), (1, .inl x1), (2, .inl x2)] [.inl zz] w1 r := by
  have h2 := hb_ecw ((0, 1, 0, 0, 0) :: (0, 2, 0, 0, 9) :: (0, 2, 0, 0, 9) :: (6, 1, 252, 3, 133) :: []) (by decide +kernel) h
  exact h2
theorem eg255_151_76_0 {n : Nat} {w : px_W} {r : Option Value × px_W} {x1 x2 : Int} (h : ec_E hb_X n 255 76 [(0, .inr (.inl 215)), (1, .inl x1), (2, .inl x2)] [] w r) : True ∧ ∃ (v : Option Value) (w1 : px_W), ec_E hb_X n 257 0 [(0, .inr (.inl 215))] [] w (v, w1) ∧ ∀ zz : Int, v = ec_R zz → ec_W hb_A w1 → ec_E hb_X n 255 80 [(0, .inr (.inl 215)), (1, .inl x1), (2, .inl x2)] [.inl zz] w1 r := by
  have h2 := hb_ecw ((0, 1, 0, 0, 0) :: (6, 1, 257, 1, 80) :: []) (by decide +kernel) h
  exact h2
theorem eg255_151_60_0 {n : Nat} {w : px_W} {r : Option Value × px_W} {x1 x2 : Int} (h : ec_E hb_X n 255 60 [(0, .inr (.inl 215)), (1, .inl x1), (2, .inl x2)] [] w r) : True ∧ r = (ec_R 0, w) ∧ ec_W hb_A w := by
  have h2 := hb_ecw ((0, 2, 0, 0, 0) :: (6, 3, 0, 0, 0) :: []) (by decide +kernel) h
  exact h2
theorem eg255_151_27_0 {n : Nat} {w : px_W} {r : Option Value × px_W} {x1 : Int} (h : ec_E hb_X n 255 27 [(0, .inr (.inl 215)), (1, .inl x1)] [] w r) : True ∧ ec_E hb_X n 255 2 [(0, .inr (.inl 215)), (1, .inl x1)] [] w r := by
  have h2 := hb_ecw ((4, 0, 0, 0, 0) :: (6, 0, 2, 2, 0) :: []) (by decide +kernel) h
  exact h2
theorem eg255_151_133_0 {n : Nat} {w : px_W} {r : Option Value × px_W} {x1 x2 s0 : Int} (h : ec_E hb_X n 255 133 [(0, .inr (.inl 215)), (1, .inl x1), (2, .inl x2)] [.inl s0] w r) : ec_tw s0 = ec_tw 0 → True ∧ ∃ (v : Option Value) (w1 : px_W), ec_E hb_X n 252 0 [(0, .inr (.inl 215)), (1, .inl 10), (2, .inl 12)] [] w (v, w1) ∧ ∀ zz : Int, v = ec_R zz → ec_W hb_A w1 → ec_E hb_X n 255 156 [(0, .inr (.inl 215)), (1, .inl x1), (2, .inl x2)] [.inl zz] w1 r := by
  have h2 := hb_ecw ((4, 1, 0, 1, 0) :: (0, 1, 0, 0, 0) :: (0, 2, 0, 0, 10) :: (0, 2, 0, 0, 12) :: (6, 1, 252, 3, 156) :: []) (by decide +kernel) h
  exact h2
theorem eg255_151_133_1 {n : Nat} {w : px_W} {r : Option Value × px_W} {x1 x2 s0 : Int} (h : ec_E hb_X n 255 133 [(0, .inr (.inl 215)), (1, .inl x1), (2, .inl x2)] [.inl s0] w r) : ec_tw s0 ≠ ec_tw 0 → True ∧ ∃ (v : Option Value) (w1 : px_W), ec_E hb_X n 249 0 [(0, .inr (.inl 215))] [] w (v, w1) ∧ (v = none → ec_W hb_A w1 → ec_E hb_X n 255 145 [(0, .inr (.inl 215)), (1, .inl x1), (2, .inl (ec_fd w 151 32))] [] w1 r) := by
  have h2 := hb_ecw ((4, 1, 1, 0, 0) :: (0, 1, 0, 0, 0) :: (5, 0, 151, 32, 0) :: (0, 3, 2, 0, 0) :: (0, 1, 0, 0, 0) :: (6, 2, 249, 1, 145) :: []) (by decide +kernel) h
  exact h2
theorem eg255_151_80_0 {n : Nat} {w : px_W} {r : Option Value × px_W} {x1 x2 s0 : Int} (h : ec_E hb_X n 255 80 [(0, .inr (.inl 215)), (1, .inl x1), (2, .inl x2)] [.inl s0] w r) : ec_tw 0 ≤ ec_tw (ec_fd w 151 30) → True ∧ ec_E hb_X n 255 101 [(0, .inr (.inl 215)), (1, .inl x1), (2, .inl s0)] [] w r := by
  have h2 := hb_ecw ((0, 3, 2, 0, 0) :: (0, 1, 0, 0, 0) :: (5, 0, 151, 30, 0) :: (4, 1, 3, 1, 0) :: (6, 0, 101, 3, 0) :: []) (by decide +kernel) h
  exact h2
theorem eg255_151_80_1 {n : Nat} {w : px_W} {r : Option Value × px_W} {x1 x2 s0 : Int} (h : ec_E hb_X n 255 80 [(0, .inr (.inl 215)), (1, .inl x1), (2, .inl x2)] [.inl s0] w r) : ec_tw (ec_fd w 151 30) < ec_tw 0 → ec_tw (ec_fd w 151 28) = ec_tw 41 → True ∧ ec_E hb_X n 255 101 [(0, .inr (.inl 215)), (1, .inl x1), (2, .inl s0)] [] w r := by
  have h2 := hb_ecw ((0, 3, 2, 0, 0) :: (0, 1, 0, 0, 0) :: (5, 0, 151, 30, 0) :: (4, 1, 2, 0, 0) :: (0, 1, 0, 0, 0) :: (5, 0, 151, 28, 0) :: (0, 2, 0, 0, 41) :: (4, 2, 0, 1, 0) :: (6, 0, 101, 3, 0) :: []) (by decide +kernel) h
  exact h2
theorem eg255_151_80_2 {n : Nat} {w : px_W} {r : Option Value × px_W} {x1 x2 s0 : Int} (h : ec_E hb_X n 255 80 [(0, .inr (.inl 215)), (1, .inl x1), (2, .inl x2)] [.inl s0] w r) : ec_tw (ec_fd w 151 30) < ec_tw 0 → ec_tw (ec_fd w 151 28) ≠ ec_tw 41 → True ∧ ∃ (v : Option Value) (w1 : px_W), ec_E hb_X n 251 0 [(0, .inr (.inl 215))] [] w (v, w1) ∧ (v = none → ec_W hb_A w1 → ec_E hb_X n 255 101 [(0, .inr (.inl 215)), (1, .inl x1), (2, .inl s0)] [] w1 r) := by
  have h2 := hb_ecw ((0, 3, 2, 0, 0) :: (0, 1, 0, 0, 0) :: (5, 0, 151, 30, 0) :: (4, 1, 2, 0, 0) :: (0, 1, 0, 0, 0) :: (5, 0, 151, 28, 0) :: (0, 2, 0, 0, 41) :: (4, 2, 1, 0, 0) :: (0, 1, 0, 0, 0) :: (6, 2, 251, 1, 101) :: []) (by decide +kernel) h
  exact h2
theorem eg255_151_156_0 {n : Nat} {w : px_W} {r : Option Value × px_W} {x1 x2 s0 : Int} (h : ec_E hb_X n 255 156 [(0, .inr (.inl 215)), (1, .inl x1), (2, .inl x2)] [.inl s0] w r) : ec_tw s0 = ec_tw 0 → True ∧ ∃ (v : Option Value) (w1 : px_W), ec_E hb_X n 251 0 [(0, .inr (.inl 215))] [] w (v, w1) ∧ (v = none → ec_W hb_A w1 → ec_E hb_X n 255 288 [(0, .inr (.inl 215)), (1, .inl x1), (2, .inl x2)] [] w1 r) := by
  have h2 := hb_ecw ((4, 1, 0, 1, 0) :: (0, 1, 0, 0, 0) :: (6, 2, 251, 1, 288) :: []) (by decide +kernel) h
  exact h2
theorem eg255_151_156_1 {n : Nat} {w : px_W} {r : Option Value × px_W} {x1 x2 s0 : Int} (h : ec_E hb_X n 255 156 [(0, .inr (.inl 215)), (1, .inl x1), (2, .inl x2)] [.inl s0] w r) : ec_tw s0 ≠ ec_tw 0 → (True ∧ 0 ≤ ec_tw ((ec_fd w 151 29) - 10) ∧ ec_tw ((ec_fd w 151 29) - 10) < 3) ∧ ∃ (v : Option Value) (w1 : px_W), ec_E hb_X n 249 0 [(0, .inr (.inl 215))] [] w (v, w1) ∧ (v = none → ec_W hb_A w1 → ec_E hb_X n 255 176 [(0, .inr (.inl 215)), (1, .inl x1), (2, .inl x2), (3, .inl (ec_rd w 169 (ec_tw ((ec_fd w 151 29) - 10))))] [] w1 r) := by
  have h2 := hb_ecw ((4, 1, 1, 0, 0) :: (0, 1, 0, 0, 0) :: (5, 1, 151, 233, 0) :: (0, 1, 0, 0, 0) :: (5, 0, 151, 29, 0) :: (0, 2, 0, 0, 10) :: (1, 1, 0, 0, 0) :: (5, 2, 169, 0, 3) :: (0, 3, 3, 0, 0) :: (0, 1, 0, 0, 0) :: (6, 2, 249, 1, 176) :: []) (by decide +kernel) h
  exact h2
theorem eg255_151_145_0 {n : Nat} {w : px_W} {r : Option Value × px_W} {x1 x2 : Int} (h : ec_E hb_X n 255 145 [(0, .inr (.inl 215)), (1, .inl x1), (2, .inl x2)] [] w r) : True ∧ ec_E hb_X n 255 288 [(0, .inr (.inl 215)), (1, .inl x1), (2, .inl x2)] [] w r := by
  have h2 := hb_ecw ((4, 0, 0, 0, 0) :: (6, 0, 288, 3, 0) :: []) (by decide +kernel) h
  exact h2
theorem eg255_151_101_0 {n : Nat} {w : px_W} {r : Option Value × px_W} {x1 x2 : Int} (h : ec_E hb_X n 255 101 [(0, .inr (.inl 215)), (1, .inl x1), (2, .inl x2)] [] w r) : ec_tw 0 ≤ ec_tw (ec_fd w 151 30) → True ∧ ec_E hb_X n 255 112 [(0, .inr (.inl 215)), (1, .inl x1), (2, .inl x2)] [] w r := by
  have h2 := hb_ecw ((0, 1, 0, 0, 0) :: (5, 0, 151, 30, 0) :: (4, 1, 3, 1, 0) :: (6, 0, 112, 3, 0) :: []) (by decide +kernel) h
  exact h2
theorem eg255_151_101_1 {n : Nat} {w : px_W} {r : Option Value × px_W} {x1 x2 : Int} (h : ec_E hb_X n 255 101 [(0, .inr (.inl 215)), (1, .inl x1), (2, .inl x2)] [] w r) : ec_tw (ec_fd w 151 30) < ec_tw 0 → True ∧ ∃ (v : Option Value) (w1 : px_W), ec_E hb_X n 249 0 [(0, .inr (.inl 215))] [] w (v, w1) ∧ (v = none → ec_W hb_A w1 → ec_E hb_X n 255 112 [(0, .inr (.inl 215)), (1, .inl x1), (2, .inl x2)] [] w1 r) := by
  have h2 := hb_ecw ((0, 1, 0, 0, 0) :: (5, 0, 151, 30, 0) :: (4, 1, 2, 0, 0) :: (0, 1, 0, 0, 0) :: (6, 2, 249, 1, 112) :: []) (by decide +kernel) h
  exact h2
theorem eg255_151_288_0 {n : Nat} {w : px_W} {r : Option Value × px_W} {x1 x2 : Int} (h : ec_E hb_X n 255 288 [(0, .inr (.inl 215)), (1, .inl x1), (2, .inl x2)] [] w r) : ec_tw x2 = ec_tw x1 → True ∧ r = (ec_R 0, w) ∧ ec_W hb_A w := by
  have h2 := hb_ecw ((0, 0, 2, 0, 0) :: (0, 0, 1, 0, 0) :: (4, 2, 0, 1, 0) :: (0, 2, 0, 0, 0) :: (6, 3, 0, 0, 0) :: []) (by decide +kernel) h
  exact h2
theorem eg255_151_288_1 {n : Nat} {w : px_W} {r : Option Value × px_W} {x1 x2 : Int} (h : ec_E hb_X n 255 288 [(0, .inr (.inl 215)), (1, .inl x1), (2, .inl x2)] [] w r) : ec_tw x2 ≠ ec_tw x1 → True ∧ r = (ec_R 1, w) ∧ ec_W hb_A w := by
  have h2 := hb_ecw ((0, 0, 2, 0, 0) :: (0, 0, 1, 0, 0) :: (4, 2, 1, 0, 0) :: (0, 2, 0, 0, 1) :: (4, 0, 0, 0, 0) :: (6, 3, 0, 0, 0) :: []) (by decide +kernel) h
  exact h2
theorem eg255_151_176_0 {n : Nat} {w : px_W} {r : Option Value × px_W} {x1 x2 x3 : Int} (h : ec_E hb_X n 255 176 [(0, .inr (.inl 215)), (1, .inl x1), (2, .inl x2), (3, .inl x3)] [] w r) : ec_tw 0 ≤ ec_tw (ec_fd w 151 30) → True ∧ ec_E hb_X n 255 210 [(0, .inr (.inl 215)), (1, .inl x1), (2, .inl x2), (3, .inl x3), (4, .inl (ec_fd w 151 28))] [] w r := by
  have h2 := hb_ecw ((0, 1, 0, 0, 0) :: (5, 0, 151, 28, 0) :: (0, 3, 4, 0, 0) :: (0, 1, 0, 0, 0) :: (5, 0, 151, 30, 0) :: (4, 1, 3, 1, 0) :: (6, 0, 210, 5, 0) :: []) (by decide +kernel) h
  exact h2
theorem eg255_151_176_1 {n : Nat} {w : px_W} {r : Option Value × px_W} {x1 x2 x3 : Int} (h : ec_E hb_X n 255 176 [(0, .inr (.inl 215)), (1, .inl x1), (2, .inl x2), (3, .inl x3)] [] w r) : ec_tw (ec_fd w 151 30) < ec_tw 0 → ec_tw (ec_fd w 151 28) = ec_tw 60 → True ∧ ec_E hb_X n 255 216 [(0, .inr (.inl 215)), (1, .inl x1), (2, .inl x2), (3, .inl x3), (4, .inl (ec_fd w 151 28))] [] w r := by
  have h2 := hb_ecw ((0, 1, 0, 0, 0) :: (5, 0, 151, 28, 0) :: (0, 3, 4, 0, 0) :: (0, 1, 0, 0, 0) :: (5, 0, 151, 30, 0) :: (4, 1, 2, 0, 0) :: (0, 0, 4, 0, 0) :: (0, 2, 0, 0, 60) :: (4, 2, 0, 1, 0) :: (6, 0, 216, 5, 0) :: []) (by decide +kernel) h
  exact h2
theorem eg255_151_176_2 {n : Nat} {w : px_W} {r : Option Value × px_W} {x1 x2 x3 : Int} (h : ec_E hb_X n 255 176 [(0, .inr (.inl 215)), (1, .inl x1), (2, .inl x2), (3, .inl x3)] [] w r) : ec_tw (ec_fd w 151 30) < ec_tw 0 → ec_tw (ec_fd w 151 28) ≠ ec_tw 60 → ec_tw (ec_fd w 151 28) = ec_tw 61 → True ∧ ec_E hb_X n 255 216 [(0, .inr (.inl 215)), (1, .inl x1), (2, .inl x2), (3, .inl x3), (4, .inl (ec_fd w 151 28))] [] w r := by
  have h2 := hb_ecw ((0, 1, 0, 0, 0) :: (5, 0, 151, 28, 0) :: (0, 3, 4, 0, 0) :: (0, 1, 0, 0, 0) :: (5, 0, 151, 30, 0) :: (4, 1, 2, 0, 0) :: (0, 0, 4, 0, 0) :: (0, 2, 0, 0, 60) :: (4, 2, 1, 0, 0) :: (0, 0, 4, 0, 0) :: (0, 2, 0, 0, 61) :: (4, 2, 0, 1, 0) :: (6, 0, 216, 5, 0) :: []) (by decide +kernel) h
  exact h2
theorem eg255_151_176_3 {n : Nat} {w : px_W} {r : Option Value × px_W} {x1 x2 x3 : Int} (h : ec_E hb_X n 255 176 [(0, .inr (.inl 215)), (1, .inl x1), (2, .inl x2), (3, .inl x3)] [] w r) : ec_tw (ec_fd w 151 30) < ec_tw 0 → ec_tw (ec_fd w 151 28) ≠ ec_tw 60 → ec_tw (ec_fd w 151 28) ≠ ec_tw 61 → ec_tw (ec_fd w 151 28) = ec_tw 62 → True ∧ ec_E hb_X n 255 216 [(0, .inr (.inl 215)), (1, .inl x1), (2, .inl x2), (3, .inl x3), (4, .inl (ec_fd w 151 28))] [] w r := by
  have h2 := hb_ecw ((0, 1, 0, 0, 0) :: (5, 0, 151, 28, 0) :: (0, 3, 4, 0, 0) :: (0, 1, 0, 0, 0) :: (5, 0, 151, 30, 0) :: (4, 1, 2, 0, 0) :: (0, 0, 4, 0, 0) :: (0, 2, 0, 0, 60) :: (4, 2, 1, 0, 0) :: (0, 0, 4, 0, 0) :: (0, 2, 0, 0, 61) :: (4, 2, 1, 0, 0) :: (0, 0, 4, 0, 0) :: (0, 2, 0, 0, 62) :: (4, 2, 0, 1, 0) :: (6, 0, 216, 5, 0) :: []) (by decide +kernel) h
  exact h2
theorem eg255_151_176_4 {n : Nat} {w : px_W} {r : Option Value × px_W} {x1 x2 x3 : Int} (h : ec_E hb_X n 255 176 [(0, .inr (.inl 215)), (1, .inl x1), (2, .inl x2), (3, .inl x3)] [] w r) : ec_tw (ec_fd w 151 30) < ec_tw 0 → ec_tw (ec_fd w 151 28) ≠ ec_tw 60 → ec_tw (ec_fd w 151 28) ≠ ec_tw 61 → ec_tw (ec_fd w 151 28) ≠ ec_tw 62 → True ∧ ec_E hb_X n 255 210 [(0, .inr (.inl 215)), (1, .inl x1), (2, .inl x2), (3, .inl x3), (4, .inl (ec_fd w 151 28))] [] w r := by
  have h2 := hb_ecw ((0, 1, 0, 0, 0) :: (5, 0, 151, 28, 0) :: (0, 3, 4, 0, 0) :: (0, 1, 0, 0, 0) :: (5, 0, 151, 30, 0) :: (4, 1, 2, 0, 0) :: (0, 0, 4, 0, 0) :: (0, 2, 0, 0, 60) :: (4, 2, 1, 0, 0) :: (0, 0, 4, 0, 0) :: (0, 2, 0, 0, 61) :: (4, 2, 1, 0, 0) :: (0, 0, 4, 0, 0) :: (0, 2, 0, 0, 62) :: (4, 2, 1, 0, 0) :: (6, 0, 210, 5, 0) :: []) (by decide +kernel) h
  exact h2
theorem eg255_151_112_0 {n : Nat} {w : px_W} {r : Option Value × px_W} {x1 x2 : Int} (h : ec_E hb_X n 255 112 [(0, .inr (.inl 215)), (1, .inl x1), (2, .inl x2)] [] w r) : True ∧ ec_E hb_X n 255 288 [(0, .inr (.inl 215)), (1, .inl x1), (2, .inl x2)] [] (ec_pf w 151 31 ((ec_fd w 151 31) - 1)) r := by
  have h2 := hb_ecw ((0, 1, 0, 0, 0) :: (3, 0, 0, 0, 0) :: (5, 0, 151, 31, 0) :: (0, 2, 0, 0, 1) :: (1, 1, 0, 0, 0) :: (5, 4, 151, 31, 0) :: (4, 0, 0, 0, 0) :: (6, 0, 288, 3, 0) :: []) (by decide +kernel) h
  exact h2
theorem eg255_151_210_0 {n : Nat} {w : px_W} {r : Option Value × px_W} {x1 x2 x3 x4 : Int} (h : ec_E hb_X n 255 210 [(0, .inr (.inl 215)), (1, .inl x1), (2, .inl x2), (3, .inl x3), (4, .inl x4)] [] w r) : True ∧ ∃ (v : Option Value) (w1 : px_W), ec_E hb_X n 251 0 [(0, .inr (.inl 215))] [] w (v, w1) ∧ (v = none → ec_W hb_A w1 → ec_E hb_X n 255 214 [(0, .inr (.inl 215)), (1, .inl x1), (2, .inl x2), (3, .inl x3), (4, .inl x4)] [] w1 r) := by
  have h2 := hb_ecw ((0, 1, 0, 0, 0) :: (6, 2, 251, 1, 214) :: []) (by decide +kernel) h
  exact h2
theorem eg255_151_216_0 {n : Nat} {w : px_W} {r : Option Value × px_W} {x1 x2 x3 x4 : Int} (h : ec_E hb_X n 255 216 [(0, .inr (.inl 215)), (1, .inl x1), (2, .inl x2), (3, .inl x3), (4, .inl x4)] [] w r) : True ∧ ∃ (v : Option Value) (w1 : px_W), ec_E hb_X n 249 0 [(0, .inr (.inl 215))] [] w (v, w1) ∧ (v = none → ec_W hb_A w1 → ec_E hb_X n 255 220 [(0, .inr (.inl 215)), (1, .inl x1), (2, .inl x2), (3, .inl x3), (4, .inl x4)] [] w1 r) := by
  have h2 := hb_ecw ((0, 1, 0, 0, 0) :: (6, 2, 249, 1, 220) :: []) (by decide +kernel) h
  exact h2
theorem eg255_151_214_0 {n : Nat} {w : px_W} {r : Option Value × px_W} {x1 x2 x3 x4 : Int} (h : ec_E hb_X n 255 214 [(0, .inr (.inl 215)), (1, .inl x1), (2, .inl x2), (3, .inl x3), (4, .inl x4)] [] w r) : True ∧ r = (ec_R 0, w) ∧ ec_W hb_A w := by
  have h2 := hb_ecw ((0, 2, 0, 0, 0) :: (6, 3, 0, 0, 0) :: []) (by decide +kernel) h
  exact h2
theorem eg255_151_220_0 {n : Nat} {w : px_W} {r : Option Value × px_W} {x1 x2 x3 x4 : Int} (h : ec_E hb_X n 255 220 [(0, .inr (.inl 215)), (1, .inl x1), (2, .inl x2), (3, .inl x3), (4, .inl x4)] [] w r) : True ∧ ∃ (v : Option Value) (w1 : px_W), ec_E hb_X n 254 0 [(0, .inr (.inl 215)), (1, .inl 0)] [] w (v, w1) ∧ ∀ zz : Int, v = ec_R zz → ec_W hb_A w1 → ec_E hb_X n 255 225 [(0, .inr (.inl 215)), (1, .inl x1), (2, .inl x2), (3, .inl x3), (4, .inl x4)] [.inl zz] w1 r := by
  have h2 := hb_ecw ((0, 1, 0, 0, 0) :: (0, 2, 0, 0, 0) :: (6, 1, 254, 2, 225) :: []) (by decide +kernel) h
  exact h2
theorem eg255_151_225_0 {n : Nat} {w : px_W} {r : Option Value × px_W} {x1 x2 x3 x4 s0 : Int} (h : ec_E hb_X n 255 225 [(0, .inr (.inl 215)), (1, .inl x1), (2, .inl x2), (3, .inl x3), (4, .inl x4)] [.inl s0] w r) : ec_tw x4 ≠ ec_tw 60 → ec_tw x4 ≠ ec_tw 61 → ec_tw x3 ≤ ec_tw s0 → True ∧ ec_E hb_X n 255 280 [(0, .inr (.inl 215)), (1, .inl x1), (2, .inl x2)] [.inl 0] w r := by
  have h2 := hb_ecw ((0, 3, 5, 0, 0) :: (0, 0, 4, 0, 0) :: (0, 2, 0, 0, 60) :: (4, 2, 1, 1, 0) :: (0, 0, 4, 0, 0) :: (0, 2, 0, 0, 61) :: (4, 2, 1, 1, 0) :: (0, 0, 3, 0, 0) :: (0, 0, 5, 0, 0) :: (4, 2, 5, 1, 0) :: (0, 2, 0, 0, 0) :: (6, 0, 280, 3, 0) :: []) (by decide +kernel) h
  exact h2
theorem eg255_151_225_1 {n : Nat} {w : px_W} {r : Option Value × px_W} {x1 x2 x3 x4 s0 : Int} (h : ec_E hb_X n 255 225 [(0, .inr (.inl 215)), (1, .inl x1), (2, .inl x2), (3, .inl x3), (4, .inl x4)] [.inl s0] w r) : ec_tw x4 ≠ ec_tw 60 → ec_tw x4 ≠ ec_tw 61 → ec_tw s0 < ec_tw x3 → True ∧ ec_E hb_X n 255 280 [(0, .inr (.inl 215)), (1, .inl x1), (2, .inl x2)] [.inl 1] w r := by
  have h2 := hb_ecw ((0, 3, 5, 0, 0) :: (0, 0, 4, 0, 0) :: (0, 2, 0, 0, 60) :: (4, 2, 1, 1, 0) :: (0, 0, 4, 0, 0) :: (0, 2, 0, 0, 61) :: (4, 2, 1, 1, 0) :: (0, 0, 3, 0, 0) :: (0, 0, 5, 0, 0) :: (4, 2, 4, 0, 0) :: (0, 2, 0, 0, 1) :: (4, 0, 0, 0, 0) :: (6, 0, 280, 3, 0) :: []) (by decide +kernel) h
  exact h2
theorem eg255_151_225_2 {n : Nat} {w : px_W} {r : Option Value × px_W} {x1 x2 x3 x4 s0 : Int} (h : ec_E hb_X n 255 225 [(0, .inr (.inl 215)), (1, .inl x1), (2, .inl x2), (3, .inl x3), (4, .inl x4)] [.inl s0] w r) : ec_tw x4 ≠ ec_tw 60 → ec_tw x4 = ec_tw 61 → ec_tw x3 ≠ ec_tw s0 → True ∧ ec_E hb_X n 255 280 [(0, .inr (.inl 215)), (1, .inl x1), (2, .inl x2)] [.inl 0] w r := by
  have h2 := hb_ecw ((0, 3, 5, 0, 0) :: (0, 0, 4, 0, 0) :: (0, 2, 0, 0, 60) :: (4, 2, 1, 1, 0) :: (0, 0, 4, 0, 0) :: (0, 2, 0, 0, 61) :: (4, 2, 0, 0, 0) :: (0, 0, 3, 0, 0) :: (0, 0, 5, 0, 0) :: (4, 2, 1, 1, 0) :: (0, 2, 0, 0, 0) :: (4, 0, 0, 0, 0) :: (6, 0, 280, 3, 0) :: []) (by decide +kernel) h
  exact h2
theorem eg255_151_225_3 {n : Nat} {w : px_W} {r : Option Value × px_W} {x1 x2 x3 x4 s0 : Int} (h : ec_E hb_X n 255 225 [(0, .inr (.inl 215)), (1, .inl x1), (2, .inl x2), (3, .inl x3), (4, .inl x4)] [.inl s0] w r) : ec_tw x4 ≠ ec_tw 60 → ec_tw x4 = ec_tw 61 → ec_tw x3 = ec_tw s0 → True ∧ ec_E hb_X n 255 280 [(0, .inr (.inl 215)), (1, .inl x1), (2, .inl x2)] [.inl 1] w r := by
  have h2 := hb_ecw ((0, 3, 5, 0, 0) :: (0, 0, 4, 0, 0) :: (0, 2, 0, 0, 60) :: (4, 2, 1, 1, 0) :: (0, 0, 4, 0, 0) :: (0, 2, 0, 0, 61) :: (4, 2, 0, 0, 0) :: (0, 0, 3, 0, 0) :: (0, 0, 5, 0, 0) :: (4, 2, 0, 0, 0) :: (0, 2, 0, 0, 1) :: (4, 0, 0, 0, 0) :: (6, 0, 280, 3, 0) :: []) (by decide +kernel) h
  exact h2
theorem eg255_151_225_4 {n : Nat} {w : px_W} {r : Option Value × px_W} {x1 x2 x3 x4 s0 : Int} (h : ec_E hb_X n 255 225 [(0, .inr (.inl 215)), (1, .inl x1), (2, .inl x2), (3, .inl x3), (4, .inl x4)] [.inl s0] w r) : ec_tw x4 = ec_tw 60 → ec_tw s0 ≤ ec_tw x3 → True ∧ ec_E hb_X n 255 280 [(0, .inr (.inl 215)), (1, .inl x1), (2, .inl x2)] [.inl 0] w r := by
  have h2 := hb_ecw ((0, 3, 5, 0, 0) :: (0, 0, 4, 0, 0) :: (0, 2, 0, 0, 60) :: (4, 2, 0, 0, 0) :: (0, 0, 3, 0, 0) :: (0, 0, 5, 0, 0) :: (4, 2, 3, 1, 0) :: (0, 2, 0, 0, 0) :: (4, 0, 0, 0, 0) :: (6, 0, 280, 3, 0) :: []) (by decide +kernel) h
  exact h2
theorem eg255_151_225_5 {n : Nat} {w : px_W} {r : Option Value × px_W} {x1 x2 x3 x4 s0 : Int} (h : ec_E hb_X n 255 225 [(0, .inr (.inl 215)), (1, .inl x1), (2, .inl x2), (3, .inl x3), (4, .inl x4)] [.inl s0] w r) : ec_tw x4 = ec_tw 60 → ec_tw x3 < ec_tw s0 → True ∧ ec_E hb_X n 255 280 [(0, .inr (.inl 215)), (1, .inl x1), (2, .inl x2)] [.inl 1] w r := by
  have h2 := hb_ecw ((0, 3, 5, 0, 0) :: (0, 0, 4, 0, 0) :: (0, 2, 0, 0, 60) :: (4, 2, 0, 0, 0) :: (0, 0, 3, 0, 0) :: (0, 0, 5, 0, 0) :: (4, 2, 2, 0, 0) :: (0, 2, 0, 0, 1) :: (4, 0, 0, 0, 0) :: (6, 0, 280, 3, 0) :: []) (by decide +kernel) h
  exact h2
theorem eg255_151_280_0 {n : Nat} {w : px_W} {r : Option Value × px_W} {x1 x2 s0 : Int} (h : ec_E hb_X n 255 280 [(0, .inr (.inl 215)), (1, .inl x1), (2, .inl x2)] [.inl s0] w r) : True ∧ ec_E hb_X n 255 288 [(0, .inr (.inl 215)), (1, .inl x1), (2, .inl s0)] [] w r := by
  have h2 := hb_ecw ((0, 3, 2, 0, 0) :: (4, 0, 0, 0, 0) :: (6, 0, 288, 3, 0) :: []) (by decide +kernel) h
  exact h2
/-! X12_every -/
theorem eg256_151_0_0 {n : Nat} {w : px_W} {r : Option Value × px_W} (h : ec_E hb_X n 256 0 [(0, .inr (.inl 215))] [] w r) : True ∧ ∃ (v : Option Value) (w1 : px_W), ec_E hb_X n 255 0 [(0, .inr (.inl 215))] [] w (v, w1) ∧ ∀ zz : Int, v = ec_R zz → ec_W hb_A w1 → ec_E hb_X n 256 4 [(0, .inr (.inl 215))] [.inl zz] w1 r := by
  have h2 := hb_ecw ((0, 1, 0, 0, 0) :: (6, 1, 255, 1, 4) :: []) (by decide +kernel) h
  exact h2
theorem eg256_151_4_0 {n : Nat} {w : px_W} {r : Option Value × px_W} {s0 : Int} (h : ec_E hb_X n 256 4 [(0, .inr (.inl 215))] [.inl s0] w r) : True ∧ ec_E hb_X n 256 5 [(0, .inr (.inl 215)), (1, .inl s0)] [] w r := by
  have h2 := hb_ecw ((0, 3, 1, 0, 0) :: (6, 0, 5, 2, 0) :: []) (by decide +kernel) h
  exact h2
theorem eg256_151_5_0 {n : Nat} {w : px_W} {r : Option Value × px_W} {x1 : Int} (h : ec_E hb_X n 256 5 [(0, .inr (.inl 215)), (1, .inl x1)] [] w r) : True ∧ ∃ (v : Option Value) (w1 : px_W), ec_E hb_X n 252 0 [(0, .inr (.inl 215)), (1, .inl 7), (2, .inl 7)] [] w (v, w1) ∧ ∀ zz : Int, v = ec_R zz → ec_W hb_A w1 → ec_E hb_X n 256 13 [(0, .inr (.inl 215)), (1, .inl x1)] [.inl zz] w1 r := by
  have h2 := hb_ecw ((0, 1, 0, 0, 0) :: (0, 2, 0, 0, 7) :: (0, 2, 0, 0, 7) :: (6, 1, 252, 3, 13) :: []) (by decide +kernel) h
  exact h2
theorem eg256_151_13_0 {n : Nat} {w : px_W} {r : Option Value × px_W} {x1 s0 : Int} (h : ec_E hb_X n 256 13 [(0, .inr (.inl 215)), (1, .inl x1)] [.inl s0] w r) : ec_tw s0 = ec_tw 0 → True ∧ r = (ec_R x1, w) ∧ ec_W hb_A w := by
  have h2 := hb_ecw ((4, 1, 0, 1, 0) :: (0, 0, 1, 0, 0) :: (6, 3, 0, 0, 0) :: []) (by decide +kernel) h
  exact h2
theorem eg256_151_13_1 {n : Nat} {w : px_W} {r : Option Value × px_W} {x1 s0 : Int} (h : ec_E hb_X n 256 13 [(0, .inr (.inl 215)), (1, .inl x1)] [.inl s0] w r) : ec_tw s0 ≠ ec_tw 0 → True ∧ ∃ (v : Option Value) (w1 : px_W), ec_E hb_X n 249 0 [(0, .inr (.inl 215))] [] w (v, w1) ∧ (v = none → ec_W hb_A w1 → ec_E hb_X n 256 20 [(0, .inr (.inl 215)), (1, .inl x1)] [] w1 r) := by
  have h2 := hb_ecw ((4, 1, 1, 0, 0) :: (0, 1, 0, 0, 0) :: (6, 2, 249, 1, 20) :: []) (by decide +kernel) h
  exact h2
theorem eg256_151_20_0 {n : Nat} {w : px_W} {r : Option Value × px_W} {x1 : Int} (h : ec_E hb_X n 256 20 [(0, .inr (.inl 215)), (1, .inl x1)] [] w r) : True ∧ ∃ (v : Option Value) (w1 : px_W), ec_E hb_X n 255 0 [(0, .inr (.inl 215))] [] w (v, w1) ∧ ∀ zz : Int, v = ec_R zz → ec_W hb_A w1 → ec_E hb_X n 256 24 [(0, .inr (.inl 215)), (1, .inl x1)] [.inl zz] w1 r := by
  have h2 := hb_ecw ((0, 1, 0, 0, 0) :: (6, 1, 255, 1, 24) :: []) (by decide +kernel) h
  exact h2
theorem eg256_151_24_0 {n : Nat} {w : px_W} {r : Option Value × px_W} {x1 s0 : Int} (h : ec_E hb_X n 256 24 [(0, .inr (.inl 215)), (1, .inl x1)] [.inl s0] w r) : True ∧ ec_E hb_X n 256 5 [(0, .inr (.inl 215)), (1, .inl (ec_and x1 s0))] [] w r := by
  have h2 := hb_ecw ((0, 3, 2, 0, 0) :: (0, 0, 1, 0, 0) :: (0, 0, 2, 0, 0) :: (1, 3, 0, 0, 0) :: (0, 3, 1, 0, 0) :: (4, 0, 0, 0, 0) :: (6, 0, 5, 2, 0) :: []) (by decide +kernel) h
  exact h2
/-! X12_cond -/
theorem eg257_151_0_0 {n : Nat} {w : px_W} {r : Option Value × px_W} (h : ec_E hb_X n 257 0 [(0, .inr (.inl 215))] [] w r) : True ∧ ∃ (v : Option Value) (w1 : px_W), ec_E hb_X n 256 0 [(0, .inr (.inl 215))] [] w (v, w1) ∧ ∀ zz : Int, v = ec_R zz → ec_W hb_A w1 → ec_E hb_X n 257 4 [(0, .inr (.inl 215))] [.inl zz] w1 r := by
  have h2 := hb_ecw ((0, 1, 0, 0, 0) :: (6, 1, 256, 1, 4) :: []) (by decide +kernel) h
  exact h2
theorem eg257_151_4_0 {n : Nat} {w : px_W} {r : Option Value × px_W} {s0 : Int} (h : ec_E hb_X n 257 4 [(0, .inr (.inl 215))] [.inl s0] w r) : True ∧ ec_E hb_X n 257 5 [(0, .inr (.inl 215)), (1, .inl s0)] [] w r := by
  have h2 := hb_ecw ((0, 3, 1, 0, 0) :: (6, 0, 5, 2, 0) :: []) (by decide +kernel) h
  exact h2
theorem eg257_151_5_0 {n : Nat} {w : px_W} {r : Option Value × px_W} {x1 : Int} (h : ec_E hb_X n 257 5 [(0, .inr (.inl 215)), (1, .inl x1)] [] w r) : True ∧ ∃ (v : Option Value) (w1 : px_W), ec_E hb_X n 252 0 [(0, .inr (.inl 215)), (1, .inl 6), (2, .inl 6)] [] w (v, w1) ∧ ∀ zz : Int, v = ec_R zz → ec_W hb_A w1 → ec_E hb_X n 257 13 [(0, .inr (.inl 215)), (1, .inl x1)] [.inl zz] w1 r := by
  have h2 := hb_ecw ((0, 1, 0, 0, 0) :: (0, 2, 0, 0, 6) :: (0, 2, 0, 0, 6) :: (6, 1, 252, 3, 13) :: []) (by decide +kernel) h
  exact h2
theorem eg257_151_13_0 {n : Nat} {w : px_W} {r : Option Value × px_W} {x1 s0 : Int} (h : ec_E hb_X n 257 13 [(0, .inr (.inl 215)), (1, .inl x1)] [.inl s0] w r) : ec_tw s0 = ec_tw 0 → True ∧ r = (ec_R x1, w) ∧ ec_W hb_A w := by
  have h2 := hb_ecw ((4, 1, 0, 1, 0) :: (0, 0, 1, 0, 0) :: (6, 3, 0, 0, 0) :: []) (by decide +kernel) h
  exact h2
theorem eg257_151_13_1 {n : Nat} {w : px_W} {r : Option Value × px_W} {x1 s0 : Int} (h : ec_E hb_X n 257 13 [(0, .inr (.inl 215)), (1, .inl x1)] [.inl s0] w r) : ec_tw s0 ≠ ec_tw 0 → True ∧ ∃ (v : Option Value) (w1 : px_W), ec_E hb_X n 249 0 [(0, .inr (.inl 215))] [] w (v, w1) ∧ (v = none → ec_W hb_A w1 → ec_E hb_X n 257 20 [(0, .inr (.inl 215)), (1, .inl x1)] [] w1 r) := by
  have h2 := hb_ecw ((4, 1, 1, 0, 0) :: (0, 1, 0, 0, 0) :: (6, 2, 249, 1, 20) :: []) (by decide +kernel) h
  exact h2
theorem eg257_151_20_0 {n : Nat} {w : px_W} {r : Option Value × px_W} {x1 : Int} (h : ec_E hb_X n 257 20 [(0, .inr (.inl 215)), (1, .inl x1)] [] w r) : True ∧ ∃ (v : Option Value) (w1 : px_W), ec_E hb_X n 256 0 [(0, .inr (.inl 215))] [] w (v, w1) ∧ ∀ zz : Int, v = ec_R zz → ec_W hb_A w1 → ec_E hb_X n 257 24 [(0, .inr (.inl 215)), (1, .inl x1)] [.inl zz] w1 r := by
  have h2 := hb_ecw ((0, 1, 0, 0, 0) :: (6, 1, 256, 1, 24) :: []) (by decide +kernel) h
  exact h2
theorem eg257_151_24_0 {n : Nat} {w : px_W} {r : Option Value × px_W} {x1 s0 : Int} (h : ec_E hb_X n 257 24 [(0, .inr (.inl 215)), (1, .inl x1)] [.inl s0] w r) : True ∧ ec_E hb_X n 257 5 [(0, .inr (.inl 215)), (1, .inl (ec_or x1 s0))] [] w r := by
  have h2 := hb_ecw ((0, 3, 2, 0, 0) :: (0, 0, 1, 0, 0) :: (0, 0, 2, 0, 0) :: (1, 4, 0, 0, 0) :: (0, 3, 1, 0, 0) :: (4, 0, 0, 0, 0) :: (6, 0, 5, 2, 0) :: []) (by decide +kernel) h
  exact h2
/-! X12_first -/
theorem eg258_151_0_0 {n : Nat} {w : px_W} {r : Option Value × px_W} (h : ec_E hb_X n 258 0 [(0, .inr (.inl 215))] [] w r) : True ∧ ec_E hb_X n 258 4 [(0, .inr (.inl 215)), (1, .inl 0), (2, .inl 0)] [] w r := by
  have h2 := hb_ecw ((0, 2, 0, 0, 0) :: (0, 3, 1, 0, 0) :: (0, 2, 0, 0, 0) :: (0, 3, 2, 0, 0) :: (6, 0, 4, 3, 0) :: []) (by decide +kernel) h
  exact h2
theorem eg258_151_4_0 {n : Nat} {w : px_W} {r : Option Value × px_W} {x1 x2 : Int} (h : ec_E hb_X n 258 4 [(0, .inr (.inl 215)), (1, .inl x1), (2, .inl x2)] [] w r) : ec_tw 3 ≤ ec_tw x2 → True ∧ ec_E hb_X n 258 27 [(0, .inr (.inl 215)), (1, .inl x1), (2, .inl 1), (3, .inl 0)] [] w r := by
  have h2 := hb_ecw ((0, 0, 2, 0, 0) :: (0, 2, 0, 0, 3) :: (4, 2, 3, 1, 0) :: (0, 2, 0, 0, 1) :: (0, 3, 2, 0, 0) :: (0, 2, 0, 0, 0) :: (0, 3, 3, 0, 0) :: (6, 0, 27, 4, 0) :: []) (by decide +kernel) h
  exact h2
theorem eg258_151_4_1 {n : Nat} {w : px_W} {r : Option Value × px_W} {x1 x2 : Int} (h : ec_E hb_X n 258 4 [(0, .inr (.inl 215)), (1, .inl x1), (2, .inl x2)] [] w r) : ec_tw x2 < ec_tw 3 → (True ∧ 0 ≤ ec_tw x2 ∧ ec_tw x2 < 3) ∧ ec_E hb_X n 258 4 [(0, .inr (.inl 215)), (1, .inl x1), (2, .inl (x2 + 1))] [] (ec_wr w 171 (ec_tw x2) 9) r := by
  have h2 := hb_ecw ((0, 0, 2, 0, 0) :: (0, 2, 0, 0, 3) :: (4, 2, 2, 0, 0) :: (0, 1, 0, 0, 0) :: (5, 1, 151, 235, 0) :: (0, 0, 2, 0, 0) :: (0, 2, 0, 0, 9) :: (5, 3, 171, 0, 3) :: (0, 5, 2, 0, 1) :: (4, 0, 0, 0, 0) :: (6, 0, 4, 3, 0) :: []) (by decide +kernel) h
  exact h2
theorem eg258_151_27_0 {n : Nat} {w : px_W} {r : Option Value × px_W} {x1 x2 x3 : Int} (h : ec_E hb_X n 258 27 [(0, .inr (.inl 215)), (1, .inl x1), (2, .inl x2), (3, .inl x3)] [] w r) : ec_tw x2 = ec_tw 0 → True ∧ r = (none, w) ∧ ec_W hb_A w := by
  have h2 := hb_ecw ((0, 0, 2, 0, 0) :: (4, 1, 0, 1, 0) :: (6, 4, 0, 0, 0) :: []) (by decide +kernel) h
  exact h2
theorem eg258_151_27_1 {n : Nat} {w : px_W} {r : Option Value × px_W} {x1 x2 x3 : Int} (h : ec_E hb_X n 258 27 [(0, .inr (.inl 215)), (1, .inl x1), (2, .inl x2), (3, .inl x3)] [] w r) : ec_tw x2 ≠ ec_tw 0 → True ∧ ∃ (v : Option Value) (w1 : px_W), ec_E hb_X n 252 0 [(0, .inr (.inl 215)), (1, .inl 13), (2, .inl 15)] [] w (v, w1) ∧ ∀ zz : Int, v = ec_R zz → ec_W hb_A w1 → ec_E hb_X n 258 39 [(0, .inr (.inl 215)), (1, .inl x1), (2, .inl x2), (3, .inl x3)] [.inl zz] w1 r := by
  have h2 := hb_ecw ((0, 0, 2, 0, 0) :: (4, 1, 1, 0, 0) :: (0, 1, 0, 0, 0) :: (0, 2, 0, 0, 13) :: (0, 2, 0, 0, 15) :: (6, 1, 252, 3, 39) :: []) (by decide +kernel) h
  exact h2
theorem eg258_151_39_0 {n : Nat} {w : px_W} {r : Option Value × px_W} {x1 x2 x3 s0 : Int} (h : ec_E hb_X n 258 39 [(0, .inr (.inl 215)), (1, .inl x1), (2, .inl x2), (3, .inl x3)] [.inl s0] w r) : ec_tw s0 = ec_tw 0 → True ∧ ec_E hb_X n 258 57 [(0, .inr (.inl 215)), (1, .inl x1), (2, .inl x2), (3, .inl x3)] [] w r := by
  have h2 := hb_ecw ((4, 1, 0, 1, 0) :: (6, 0, 57, 4, 0) :: []) (by decide +kernel) h
  exact h2
theorem eg258_151_39_1 {n : Nat} {w : px_W} {r : Option Value × px_W} {x1 x2 x3 s0 : Int} (h : ec_E hb_X n 258 39 [(0, .inr (.inl 215)), (1, .inl x1), (2, .inl x2), (3, .inl x3)] [.inl s0] w r) : ec_tw s0 ≠ ec_tw 0 → ec_tw (ec_and (ec_shr x1 ((ec_fd w 151 29) - 13)) 1) ≠ ec_tw 1 → (True ∧ 0 ≤ ec_tw ((ec_fd w 151 29) - 13) ∧ ec_tw ((ec_fd w 151 29) - 13) < 3) ∧ ∃ (v : Option Value) (w1 : px_W), ec_E hb_X n 249 0 [(0, .inr (.inl 215))] [] (ec_wr w 171 (ec_tw ((ec_fd w 151 29) - 13)) x3) (v, w1) ∧ (v = none → ec_W hb_A w1 → ec_E hb_X n 258 90 [(0, .inr (.inl 215)), (1, .inl (ec_or x1 (ec_shl 1 ((ec_fd w 151 29) - 13)))), (2, .inl x2), (3, .inl x3), (4, .inl ((ec_fd w 151 29) - 13))] [] w1 r) := by
  have h2 := hb_ecw ((4, 1, 1, 0, 0) :: (0, 0, 1, 0, 0) :: (0, 1, 0, 0, 0) :: (5, 0, 151, 29, 0) :: (0, 2, 0, 0, 13) :: (1, 1, 0, 0, 0) :: (1, 7, 0, 0, 0) :: (0, 2, 0, 0, 1) :: (1, 3, 0, 0, 0) :: (0, 2, 0, 0, 1) :: (4, 2, 1, 1, 0) :: (0, 1, 0, 0, 0) :: (5, 0, 151, 29, 0) :: (0, 2, 0, 0, 13) :: (1, 1, 0, 0, 0) :: (0, 3, 4, 0, 0) :: (0, 0, 1, 0, 0) :: (0, 2, 0, 0, 1) :: (0, 0, 4, 0, 0) :: (1, 6, 0, 0, 0) :: (1, 4, 0, 0, 0) :: (0, 3, 1, 0, 0) :: (0, 1, 0, 0, 0) :: (5, 1, 151, 235, 0) :: (0, 0, 4, 0, 0) :: (0, 0, 3, 0, 0) :: (5, 3, 171, 0, 3) :: (0, 1, 0, 0, 0) :: (6, 2, 249, 1, 90) :: []) (by decide +kernel) h
  exact h2
theorem eg258_151_39_2 {n : Nat} {w : px_W} {r : Option Value × px_W} {x1 x2 x3 s0 : Int} (h : ec_E hb_X n 258 39 [(0, .inr (.inl 215)), (1, .inl x1), (2, .inl x2), (3, .inl x3)] [.inl s0] w r) : ec_tw s0 ≠ ec_tw 0 → ec_tw (ec_and (ec_shr x1 ((ec_fd w 151 29) - 13)) 1) = ec_tw 1 → True ∧ ec_E hb_X n 258 57 [(0, .inr (.inl 215)), (1, .inl x1), (2, .inl x2), (3, .inl x3)] [] w r := by
  have h2 := hb_ecw ((4, 1, 1, 0, 0) :: (0, 0, 1, 0, 0) :: (0, 1, 0, 0, 0) :: (5, 0, 151, 29, 0) :: (0, 2, 0, 0, 13) :: (1, 1, 0, 0, 0) :: (1, 7, 0, 0, 0) :: (0, 2, 0, 0, 1) :: (1, 3, 0, 0, 0) :: (0, 2, 0, 0, 1) :: (4, 2, 0, 0, 0) :: (6, 0, 57, 4, 0) :: []) (by decide +kernel) h
  exact h2
theorem eg258_151_57_0 {n : Nat} {w : px_W} {r : Option Value × px_W} {x1 x2 x3 : Int} (h : ec_E hb_X n 258 57 [(0, .inr (.inl 215)), (1, .inl x1), (2, .inl x2), (3, .inl x3)] [] w r) : True ∧ ∃ (v : Option Value) (w1 : px_W), ec_E hb_X n 251 0 [(0, .inr (.inl 215))] [] w (v, w1) ∧ (v = none → ec_W hb_A w1 → ec_E hb_X n 258 61 [(0, .inr (.inl 215)), (1, .inl x1), (2, .inl x2), (3, .inl x3)] [] w1 r) := by
  have h2 := hb_ecw ((0, 1, 0, 0, 0) :: (6, 2, 251, 1, 61) :: []) (by decide +kernel) h
  exact h2
theorem eg258_151_90_0 {n : Nat} {w : px_W} {r : Option Value × px_W} {x1 x2 x3 x4 : Int} (h : ec_E hb_X n 258 90 [(0, .inr (.inl 215)), (1, .inl x1), (2, .inl x2), (3, .inl x3), (4, .inl x4)] [] w r) : True ∧ ∃ (v : Option Value) (w1 : px_W), ec_E hb_X n 252 0 [(0, .inr (.inl 215)), (1, .inl 4), (2, .inl 4)] [] w (v, w1) ∧ ∀ zz : Int, v = ec_R zz → ec_W hb_A w1 → ec_E hb_X n 258 96 [(0, .inr (.inl 215)), (1, .inl x1), (2, .inl x2), (3, .inl x3), (4, .inl x4)] [.inl zz] w1 r := by
  have h2 := hb_ecw ((0, 1, 0, 0, 0) :: (0, 2, 0, 0, 4) :: (0, 2, 0, 0, 4) :: (6, 1, 252, 3, 96) :: []) (by decide +kernel) h
  exact h2
theorem eg258_151_61_0 {n : Nat} {w : px_W} {r : Option Value × px_W} {x1 x2 x3 : Int} (h : ec_E hb_X n 258 61 [(0, .inr (.inl 215)), (1, .inl x1), (2, .inl x2), (3, .inl x3)] [] w r) : True ∧ r = (none, w) ∧ ec_W hb_A w := by
  have h2 := hb_ecw ((6, 4, 0, 0, 0) :: []) (by decide +kernel) h
  exact h2
theorem eg258_151_96_0 {n : Nat} {w : px_W} {r : Option Value × px_W} {x1 x2 x3 x4 s0 : Int} (h : ec_E hb_X n 258 96 [(0, .inr (.inl 215)), (1, .inl x1), (2, .inl x2), (3, .inl x3), (4, .inl x4)] [.inl s0] w r) : ec_tw s0 = ec_tw 0 → True ∧ ec_E hb_X n 258 105 [(0, .inr (.inl 215)), (1, .inl x1), (2, .inl s0), (3, .inl x3)] [] w r := by
  have h2 := hb_ecw ((0, 3, 2, 0, 0) :: (0, 0, 2, 0, 0) :: (4, 1, 0, 1, 0) :: (6, 0, 105, 4, 0) :: []) (by decide +kernel) h
  exact h2
theorem eg258_151_96_1 {n : Nat} {w : px_W} {r : Option Value × px_W} {x1 x2 x3 x4 s0 : Int} (h : ec_E hb_X n 258 96 [(0, .inr (.inl 215)), (1, .inl x1), (2, .inl x2), (3, .inl x3), (4, .inl x4)] [.inl s0] w r) : ec_tw s0 ≠ ec_tw 0 → True ∧ ∃ (v : Option Value) (w1 : px_W), ec_E hb_X n 249 0 [(0, .inr (.inl 215))] [] w (v, w1) ∧ (v = none → ec_W hb_A w1 → ec_E hb_X n 258 105 [(0, .inr (.inl 215)), (1, .inl x1), (2, .inl s0), (3, .inl x3), (4, .inl x4)] [] w1 r) := by
  have h2 := hb_ecw ((0, 3, 2, 0, 0) :: (0, 0, 2, 0, 0) :: (4, 1, 1, 0, 0) :: (0, 1, 0, 0, 0) :: (6, 2, 249, 1, 105) :: []) (by decide +kernel) h
  exact h2
theorem eg258_151_105_0 {n : Nat} {w : px_W} {r : Option Value × px_W} {x1 x2 x3 : Int} (h : ec_E hb_X n 258 105 [(0, .inr (.inl 215)), (1, .inl x1), (2, .inl x2), (3, .inl x3)] [] w r) : True ∧ ec_E hb_X n 258 27 [(0, .inr (.inl 215)), (1, .inl x1), (2, .inl x2), (3, .inl (x3 + 1))] [] w r := by
  have h2 := hb_ecw ((0, 5, 3, 0, 1) :: (4, 0, 0, 0, 0) :: (6, 0, 27, 4, 0) :: []) (by decide +kernel) h
  exact h2
theorem eg258_151_105b_0 {n : Nat} {w : px_W} {r : Option Value × px_W} {x1 x2 x3 x4 : Int} (h : ec_E hb_X n 258 105 [(0, .inr (.inl 215)), (1, .inl x1), (2, .inl x2), (3, .inl x3), (4, .inl x4)] [] w r) : True ∧ ec_E hb_X n 258 27 [(0, .inr (.inl 215)), (1, .inl x1), (2, .inl x2), (3, .inl (x3 + 1))] [] w r := by
  have h2 := hb_ecw ((0, 5, 3, 0, 1) :: (4, 0, 0, 0, 0) :: (6, 0, 27, 4, 0) :: []) (by decide +kernel) h
  exact h2
/-! X12_line -/
theorem eg259_151_0_0 {n : Nat} {w : px_W} {r : Option Value × px_W} (h : ec_E hb_X n 259 0 [(0, .inr (.inl 215))] [] w r) : True ∧ ∃ (v : Option Value) (w1 : px_W), ec_E hb_X n 249 0 [(0, .inr (.inl 215))] [] w (v, w1) ∧ (v = none → ec_W hb_A w1 → ec_E hb_X n 259 9 [(0, .inr (.inl 215)), (1, .inl (ec_fd w 151 29))] [] w1 r) := by
  have h2 := hb_ecw ((0, 1, 0, 0, 0) :: (5, 0, 151, 29, 0) :: (0, 3, 1, 0, 0) :: (0, 1, 0, 0, 0) :: (6, 2, 249, 1, 9) :: []) (by decide +kernel) h
  exact h2
theorem eg259_151_9_0 {n : Nat} {w : px_W} {r : Option Value × px_W} {x1 : Int} (h : ec_E hb_X n 259 9 [(0, .inr (.inl 215)), (1, .inl x1)] [] w r) : ec_tw x1 ≠ ec_tw 0 → ec_tw x1 ≠ ec_tw 1 → True ∧ ∃ (v : Option Value) (w1 : px_W), ec_E hb_X n 253 0 [(0, .inr (.inl 215)), (1, .inl 5)] [] w (v, w1) ∧ (v = none → ec_W hb_A w1 → ec_E hb_X n 259 56 [(0, .inr (.inl 215)), (1, .inl x1)] [] w1 r) := by
  have h2 := hb_ecw ((0, 0, 1, 0, 0) :: (4, 1, 1, 1, 0) :: (0, 0, 1, 0, 0) :: (0, 2, 0, 0, 1) :: (4, 2, 1, 1, 0) :: (0, 1, 0, 0, 0) :: (0, 2, 0, 0, 5) :: (6, 2, 253, 2, 56) :: []) (by decide +kernel) h
  exact h2
theorem eg259_151_9_1 {n : Nat} {w : px_W} {r : Option Value × px_W} {x1 : Int} (h : ec_E hb_X n 259 9 [(0, .inr (.inl 215)), (1, .inl x1)] [] w r) : ec_tw x1 ≠ ec_tw 0 → ec_tw x1 = ec_tw 1 → True ∧ ∃ (v : Option Value) (w1 : px_W), ec_E hb_X n 258 0 [(0, .inr (.inl 215))] [] w (v, w1) ∧ (v = none → ec_W hb_A w1 → ec_E hb_X n 259 48 [(0, .inr (.inl 215)), (1, .inl x1)] [] w1 r) := by
  have h2 := hb_ecw ((0, 0, 1, 0, 0) :: (4, 1, 1, 1, 0) :: (0, 0, 1, 0, 0) :: (0, 2, 0, 0, 1) :: (4, 2, 0, 0, 0) :: (0, 1, 0, 0, 0) :: (6, 2, 258, 1, 48) :: []) (by decide +kernel) h
  exact h2
theorem eg259_151_9_2 {n : Nat} {w : px_W} {r : Option Value × px_W} {x1 : Int} (h : ec_E hb_X n 259 9 [(0, .inr (.inl 215)), (1, .inl x1)] [] w r) : ec_tw x1 = ec_tw 0 → True ∧ ∃ (v : Option Value) (w1 : px_W), ec_E hb_X n 254 0 [(0, .inr (.inl 215)), (1, .inl 0)] [] w (v, w1) ∧ ∀ zz : Int, v = ec_R zz → ec_W hb_A w1 → ec_E hb_X n 259 19 [(0, .inr (.inl 215)), (1, .inl x1)] [.inl zz, .inr (.inl 215)] w1 r := by
  have h2 := hb_ecw ((0, 0, 1, 0, 0) :: (4, 1, 0, 0, 0) :: (0, 1, 0, 0, 0) :: (0, 1, 0, 0, 0) :: (0, 2, 0, 0, 0) :: (6, 1, 254, 2, 19) :: []) (by decide +kernel) h
  exact h2
theorem eg259_151_56_0 {n : Nat} {w : px_W} {r : Option Value × px_W} {x1 : Int} (h : ec_E hb_X n 259 56 [(0, .inr (.inl 215)), (1, .inl x1)] [] w r) : True ∧ ∃ (v : Option Value) (w1 : px_W), ec_E hb_X n 257 0 [(0, .inr (.inl 215))] [] w (v, w1) ∧ ∀ zz : Int, v = ec_R zz → ec_W hb_A w1 → ec_E hb_X n 259 60 [(0, .inr (.inl 215)), (1, .inl x1)] [.inl zz] w1 r := by
  have h2 := hb_ecw ((0, 1, 0, 0, 0) :: (6, 1, 257, 1, 60) :: []) (by decide +kernel) h
  exact h2
theorem eg259_151_48_0 {n : Nat} {w : px_W} {r : Option Value × px_W} {x1 : Int} (h : ec_E hb_X n 259 48 [(0, .inr (.inl 215)), (1, .inl x1)] [] w r) : True ∧ ec_E hb_X n 259 86 [(0, .inr (.inl 215)), (1, .inl x1)] [] w r := by
  have h2 := hb_ecw ((4, 0, 0, 0, 0) :: (6, 0, 86, 2, 0) :: []) (by decide +kernel) h
  exact h2
theorem eg259_151_19_0 {n : Nat} {w : px_W} {r : Option Value × px_W} {x1 s1 : Int} (h : ec_E hb_X n 259 19 [(0, .inr (.inl 215)), (1, .inl x1)] [.inl s1, .inr (.inl 215)] w r) : True ∧ ∃ (v : Option Value) (w1 : px_W), ec_E hb_X n 253 0 [(0, .inr (.inl 215)), (1, .inl 3)] [] (ec_pf w 151 36 s1) (v, w1) ∧ (v = none → ec_W hb_A w1 → ec_E hb_X n 259 27 [(0, .inr (.inl 215)), (1, .inl x1)] [] w1 r) := by
  have h2 := hb_ecw ((5, 4, 151, 36, 0) :: (0, 1, 0, 0, 0) :: (0, 2, 0, 0, 3) :: (6, 2, 253, 2, 27) :: []) (by decide +kernel) h
  exact h2
theorem eg259_151_60_0 {n : Nat} {w : px_W} {r : Option Value × px_W} {x1 s0 : Int} (h : ec_E hb_X n 259 60 [(0, .inr (.inl 215)), (1, .inl x1)] [.inl s0] w r) : ec_tw 0 ≤ ec_tw (ec_fd w 151 30) → True ∧ ec_E hb_X n 259 81 [(0, .inr (.inl 215)), (1, .inl x1), (2, .inl s0)] [.inl (ec_fd w 151 39), .inr (.inl 215)] w r := by
  have h2 := hb_ecw ((0, 3, 2, 0, 0) :: (0, 1, 0, 0, 0) :: (3, 0, 0, 0, 0) :: (5, 0, 151, 39, 0) :: (0, 1, 0, 0, 0) :: (5, 0, 151, 30, 0) :: (4, 1, 3, 1, 0) :: (6, 0, 81, 3, 0) :: []) (by decide +kernel) h
  exact h2
theorem eg259_151_60_1 {n : Nat} {w : px_W} {r : Option Value × px_W} {x1 s0 : Int} (h : ec_E hb_X n 259 60 [(0, .inr (.inl 215)), (1, .inl x1)] [.inl s0] w r) : ec_tw (ec_fd w 151 30) < ec_tw 0 → ec_tw s0 = ec_tw 0 → True ∧ ec_E hb_X n 259 81 [(0, .inr (.inl 215)), (1, .inl x1), (2, .inl s0)] [.inl (ec_fd w 151 39), .inr (.inl 215)] w r := by
  have h2 := hb_ecw ((0, 3, 2, 0, 0) :: (0, 1, 0, 0, 0) :: (3, 0, 0, 0, 0) :: (5, 0, 151, 39, 0) :: (0, 1, 0, 0, 0) :: (5, 0, 151, 30, 0) :: (4, 1, 2, 0, 0) :: (0, 0, 2, 0, 0) :: (4, 1, 0, 1, 0) :: (6, 0, 81, 3, 0) :: []) (by decide +kernel) h
  exact h2
theorem eg259_151_60_2 {n : Nat} {w : px_W} {r : Option Value × px_W} {x1 s0 : Int} (h : ec_E hb_X n 259 60 [(0, .inr (.inl 215)), (1, .inl x1)] [.inl s0] w r) : ec_tw (ec_fd w 151 30) < ec_tw 0 → ec_tw s0 ≠ ec_tw 0 → True ∧ ec_E hb_X n 259 82 [(0, .inr (.inl 215)), (1, .inl x1), (2, .inl s0)] [.inl 1, .inl (ec_fd w 151 39), .inr (.inl 215)] w r := by
  have h2 := hb_ecw ((0, 3, 2, 0, 0) :: (0, 1, 0, 0, 0) :: (3, 0, 0, 0, 0) :: (5, 0, 151, 39, 0) :: (0, 1, 0, 0, 0) :: (5, 0, 151, 30, 0) :: (4, 1, 2, 0, 0) :: (0, 0, 2, 0, 0) :: (4, 1, 1, 0, 0) :: (0, 2, 0, 0, 1) :: (4, 0, 0, 0, 0) :: (6, 0, 82, 3, 0) :: []) (by decide +kernel) h
  exact h2
theorem eg259_151_86_0 {n : Nat} {w : px_W} {r : Option Value × px_W} {x1 : Int} (h : ec_E hb_X n 259 86 [(0, .inr (.inl 215)), (1, .inl x1)] [] w r) : ec_tw 0 ≤ ec_tw (ec_fd w 151 30) → True ∧ ec_E hb_X n 259 106 [(0, .inr (.inl 215)), (1, .inl x1)] [] w r := by
  have h2 := hb_ecw ((0, 1, 0, 0, 0) :: (5, 0, 151, 30, 0) :: (4, 1, 3, 1, 0) :: (6, 0, 106, 2, 0) :: []) (by decide +kernel) h
  exact h2
theorem eg259_151_86_1 {n : Nat} {w : px_W} {r : Option Value × px_W} {x1 : Int} (h : ec_E hb_X n 259 86 [(0, .inr (.inl 215)), (1, .inl x1)] [] w r) : ec_tw (ec_fd w 151 30) < ec_tw 0 → ec_tw (ec_fd w 151 28) = ec_tw 59 → True ∧ ec_E hb_X n 259 106 [(0, .inr (.inl 215)), (1, .inl x1)] [] w r := by
  have h2 := hb_ecw ((0, 1, 0, 0, 0) :: (5, 0, 151, 30, 0) :: (4, 1, 2, 0, 0) :: (0, 1, 0, 0, 0) :: (5, 0, 151, 28, 0) :: (0, 2, 0, 0, 59) :: (4, 2, 0, 1, 0) :: (6, 0, 106, 2, 0) :: []) (by decide +kernel) h
  exact h2
theorem eg259_151_86_2 {n : Nat} {w : px_W} {r : Option Value × px_W} {x1 : Int} (h : ec_E hb_X n 259 86 [(0, .inr (.inl 215)), (1, .inl x1)] [] w r) : ec_tw (ec_fd w 151 30) < ec_tw 0 → ec_tw (ec_fd w 151 28) ≠ ec_tw 59 → True ∧ ∃ (v : Option Value) (w1 : px_W), ec_E hb_X n 251 0 [(0, .inr (.inl 215))] [] w (v, w1) ∧ (v = none → ec_W hb_A w1 → ec_E hb_X n 259 106 [(0, .inr (.inl 215)), (1, .inl x1)] [] w1 r) := by
  have h2 := hb_ecw ((0, 1, 0, 0, 0) :: (5, 0, 151, 30, 0) :: (4, 1, 2, 0, 0) :: (0, 1, 0, 0, 0) :: (5, 0, 151, 28, 0) :: (0, 2, 0, 0, 59) :: (4, 2, 1, 0, 0) :: (0, 1, 0, 0, 0) :: (6, 2, 251, 1, 106) :: []) (by decide +kernel) h
  exact h2
theorem eg259_151_27_0 {n : Nat} {w : px_W} {r : Option Value × px_W} {x1 : Int} (h : ec_E hb_X n 259 27 [(0, .inr (.inl 215)), (1, .inl x1)] [] w r) : True ∧ ∃ (v : Option Value) (w1 : px_W), ec_E hb_X n 254 0 [(0, .inr (.inl 215)), (1, .inl 1)] [] w (v, w1) ∧ ∀ zz : Int, v = ec_R zz → ec_W hb_A w1 → ec_E hb_X n 259 33 [(0, .inr (.inl 215)), (1, .inl x1)] [.inl zz, .inr (.inl 215)] w1 r := by
  have h2 := hb_ecw ((0, 1, 0, 0, 0) :: (0, 1, 0, 0, 0) :: (0, 2, 0, 0, 1) :: (6, 1, 254, 2, 33) :: []) (by decide +kernel) h
  exact h2
theorem eg259_151_81_0 {n : Nat} {w : px_W} {r : Option Value × px_W} {x1 x2 s1 : Int} (h : ec_E hb_X n 259 81 [(0, .inr (.inl 215)), (1, .inl x1), (2, .inl x2)] [.inl s1, .inr (.inl 215)] w r) : True ∧ ec_E hb_X n 259 82 [(0, .inr (.inl 215)), (1, .inl x1), (2, .inl x2)] [.inl 0, .inl s1, .inr (.inl 215)] w r := by
  have h2 := hb_ecw ((0, 2, 0, 0, 0) :: (6, 0, 82, 3, 0) :: []) (by decide +kernel) h
  exact h2
theorem eg259_151_82_0 {n : Nat} {w : px_W} {r : Option Value × px_W} {x1 x2 s1 s2 : Int} (h : ec_E hb_X n 259 82 [(0, .inr (.inl 215)), (1, .inl x1), (2, .inl x2)] [.inl s2, .inl s1, .inr (.inl 215)] w r) : True ∧ ec_E hb_X n 259 86 [(0, .inr (.inl 215)), (1, .inl x1)] [] (ec_pf w 151 39 (ec_or s1 s2)) r := by
  have h2 := hb_ecw ((1, 4, 0, 0, 0) :: (5, 4, 151, 39, 0) :: (6, 0, 86, 2, 0) :: []) (by decide +kernel) h
  exact h2
theorem eg259_151_106_0 {n : Nat} {w : px_W} {r : Option Value × px_W} {x1 : Int} (h : ec_E hb_X n 259 106 [(0, .inr (.inl 215)), (1, .inl x1)] [] w r) : ec_tw 0 ≤ ec_tw (ec_fd w 151 30) → True ∧ ec_E hb_X n 259 117 [(0, .inr (.inl 215)), (1, .inl x1)] [] w r := by
  have h2 := hb_ecw ((0, 1, 0, 0, 0) :: (5, 0, 151, 30, 0) :: (4, 1, 3, 1, 0) :: (6, 0, 117, 2, 0) :: []) (by decide +kernel) h
  exact h2
theorem eg259_151_106_1 {n : Nat} {w : px_W} {r : Option Value × px_W} {x1 : Int} (h : ec_E hb_X n 259 106 [(0, .inr (.inl 215)), (1, .inl x1)] [] w r) : ec_tw (ec_fd w 151 30) < ec_tw 0 → True ∧ ∃ (v : Option Value) (w1 : px_W), ec_E hb_X n 249 0 [(0, .inr (.inl 215))] [] w (v, w1) ∧ (v = none → ec_W hb_A w1 → ec_E hb_X n 259 117 [(0, .inr (.inl 215)), (1, .inl x1)] [] w1 r) := by
  have h2 := hb_ecw ((0, 1, 0, 0, 0) :: (5, 0, 151, 30, 0) :: (4, 1, 2, 0, 0) :: (0, 1, 0, 0, 0) :: (6, 2, 249, 1, 117) :: []) (by decide +kernel) h
  exact h2
theorem eg259_151_33_0 {n : Nat} {w : px_W} {r : Option Value × px_W} {x1 s1 : Int} (h : ec_E hb_X n 259 33 [(0, .inr (.inl 215)), (1, .inl x1)] [.inl s1, .inr (.inl 215)] w r) : True ∧ ec_E hb_X n 259 86 [(0, .inr (.inl 215)), (1, .inl x1)] [] (ec_pf w 151 37 s1) r := by
  have h2 := hb_ecw ((5, 4, 151, 37, 0) :: (4, 0, 0, 0, 0) :: (6, 0, 86, 2, 0) :: []) (by decide +kernel) h
  exact h2
theorem eg259_151_117_0 {n : Nat} {w : px_W} {r : Option Value × px_W} {x1 : Int} (h : ec_E hb_X n 259 117 [(0, .inr (.inl 215)), (1, .inl x1)] [] w r) : (True ∧ 0 ≤ ec_tw (ec_fd w 151 35) ∧ ec_tw (ec_fd w 151 35) < 8) ∧ r = (none, ec_pf (ec_wr w 170 (ec_tw (ec_fd w 151 35)) x1) 151 35 ((ec_fd (ec_wr w 170 (ec_tw (ec_fd w 151 35)) x1) 151 35) + 1)) ∧ ec_W hb_A (ec_pf (ec_wr w 170 (ec_tw (ec_fd w 151 35)) x1) 151 35 ((ec_fd (ec_wr w 170 (ec_tw (ec_fd w 151 35)) x1) 151 35) + 1)) := by
  have h2 := hb_ecw ((0, 1, 0, 0, 0) :: (5, 1, 151, 234, 0) :: (0, 1, 0, 0, 0) :: (5, 0, 151, 35, 0) :: (0, 0, 1, 0, 0) :: (5, 3, 170, 0, 8) :: (0, 1, 0, 0, 0) :: (3, 0, 0, 0, 0) :: (5, 0, 151, 35, 0) :: (0, 2, 0, 0, 1) :: (1, 0, 0, 0, 0) :: (5, 4, 151, 35, 0) :: (6, 4, 0, 0, 0) :: []) (by decide +kernel) h
  exact h2
/-! X12_reads -/
theorem eg260_151_0_0 {n : Nat} {w : px_W} {r : Option Value × px_W} {x1 x2 : Int} (h : ec_E hb_X n 260 0 [(0, .inr (.inl 215)), (1, .inl x1), (2, .inl x2)] [] w r) : True ∧ ec_E hb_X n 260 47 [(0, .inr (.inl 215)), (1, .inl x1), (2, .inl x2), (3, .inl 0)] [] (ec_pf (ec_pf (ec_pf (ec_pf (ec_pf (ec_pf (ec_pf (ec_pf (ec_pf w 151 24 x1) 151 25 x2) 151 26 0) 151 30 (-1)) 151 31 0) 151 35 0) 151 36 0) 151 37 1) 151 39 0) r := by
  have h2 := hb_ecw ((0, 1, 0, 0, 0) :: (0, 0, 1, 0, 0) :: (5, 4, 151, 24, 0) :: (0, 1, 0, 0, 0) :: (0, 0, 2, 0, 0) :: (5, 4, 151, 25, 0) :: (0, 1, 0, 0, 0) :: (0, 2, 0, 0, 0) :: (5, 4, 151, 26, 0) :: (0, 1, 0, 0, 0) :: (0, 2, 0, 0, (-1)) :: (5, 4, 151, 30, 0) :: (0, 1, 0, 0, 0) :: (0, 2, 0, 0, 0) :: (5, 4, 151, 31, 0) :: (0, 1, 0, 0, 0) :: (0, 2, 0, 0, 0) :: (5, 4, 151, 35, 0) :: (0, 1, 0, 0, 0) :: (0, 2, 0, 0, 0) :: (5, 4, 151, 36, 0) :: (0, 1, 0, 0, 0) :: (0, 2, 0, 0, 1) :: (5, 4, 151, 37, 0) :: (0, 1, 0, 0, 0) :: (0, 2, 0, 0, 0) :: (5, 4, 151, 39, 0) :: (0, 2, 0, 0, 0) :: (0, 3, 3, 0, 0) :: (6, 0, 47, 4, 0) :: []) (by decide +kernel) h
  exact h2
theorem eg260_151_47_0 {n : Nat} {w : px_W} {r : Option Value × px_W} {x1 x2 x3 : Int} (h : ec_E hb_X n 260 47 [(0, .inr (.inl 215)), (1, .inl x1), (2, .inl x2), (3, .inl x3)] [] w r) : ec_tw 3 ≤ ec_tw x3 → True ∧ ∃ (v : Option Value) (w1 : px_W), ec_E hb_X n 249 0 [(0, .inr (.inl 215))] [] w (v, w1) ∧ (v = none → ec_W hb_A w1 → ec_E hb_X n 260 70 [(0, .inr (.inl 215)), (1, .inl x1), (2, .inl x2), (3, .inl x3)] [] w1 r) := by
  have h2 := hb_ecw ((0, 0, 3, 0, 0) :: (0, 2, 0, 0, 3) :: (4, 2, 3, 1, 0) :: (0, 1, 0, 0, 0) :: (6, 2, 249, 1, 70) :: []) (by decide +kernel) h
  exact h2
theorem eg260_151_47_1 {n : Nat} {w : px_W} {r : Option Value × px_W} {x1 x2 x3 : Int} (h : ec_E hb_X n 260 47 [(0, .inr (.inl 215)), (1, .inl x1), (2, .inl x2), (3, .inl x3)] [] w r) : ec_tw x3 < ec_tw 3 → (True ∧ 0 ≤ ec_tw x3 ∧ ec_tw x3 < 3) ∧ ec_E hb_X n 260 47 [(0, .inr (.inl 215)), (1, .inl x1), (2, .inl x2), (3, .inl (x3 + 1))] [] (ec_wr w 171 (ec_tw x3) 9) r := by
  have h2 := hb_ecw ((0, 0, 3, 0, 0) :: (0, 2, 0, 0, 3) :: (4, 2, 2, 0, 0) :: (0, 1, 0, 0, 0) :: (5, 1, 151, 235, 0) :: (0, 0, 3, 0, 0) :: (0, 2, 0, 0, 9) :: (5, 3, 171, 0, 3) :: (0, 5, 3, 0, 1) :: (4, 0, 0, 0, 0) :: (6, 0, 47, 4, 0) :: []) (by decide +kernel) h
  exact h2
theorem eg260_151_70_0 {n : Nat} {w : px_W} {r : Option Value × px_W} {x1 x2 x3 : Int} (h : ec_E hb_X n 260 70 [(0, .inr (.inl 215)), (1, .inl x1), (2, .inl x2), (3, .inl x3)] [] w r) : ec_tw 0 ≤ ec_tw (ec_fd w 151 30) → True ∧ r = (none, w) ∧ ec_W hb_A w := by
  have h2 := hb_ecw ((0, 1, 0, 0, 0) :: (5, 0, 151, 30, 0) :: (4, 1, 3, 1, 0) :: (6, 4, 0, 0, 0) :: []) (by decide +kernel) h
  exact h2
theorem eg260_151_70_1 {n : Nat} {w : px_W} {r : Option Value × px_W} {x1 x2 x3 : Int} (h : ec_E hb_X n 260 70 [(0, .inr (.inl 215)), (1, .inl x1), (2, .inl x2), (3, .inl x3)] [] w r) : ec_tw (ec_fd w 151 30) < ec_tw 0 → ec_tw (ec_fd w 151 28) = ec_tw 0 → True ∧ r = (none, w) ∧ ec_W hb_A w := by
  have h2 := hb_ecw ((0, 1, 0, 0, 0) :: (5, 0, 151, 30, 0) :: (4, 1, 2, 0, 0) :: (0, 1, 0, 0, 0) :: (5, 0, 151, 28, 0) :: (4, 1, 0, 1, 0) :: (6, 4, 0, 0, 0) :: []) (by decide +kernel) h
  exact h2
theorem eg260_151_70_2 {n : Nat} {w : px_W} {r : Option Value × px_W} {x1 x2 x3 : Int} (h : ec_E hb_X n 260 70 [(0, .inr (.inl 215)), (1, .inl x1), (2, .inl x2), (3, .inl x3)] [] w r) : ec_tw (ec_fd w 151 30) < ec_tw 0 → ec_tw (ec_fd w 151 28) ≠ ec_tw 0 → True ∧ ∃ (v : Option Value) (w1 : px_W), ec_E hb_X n 252 0 [(0, .inr (.inl 215)), (1, .inl 0), (2, .inl 2)] [] w (v, w1) ∧ ∀ zz : Int, v = ec_R zz → ec_W hb_A w1 → ec_E hb_X n 260 90 [(0, .inr (.inl 215)), (1, .inl x1), (2, .inl x2), (3, .inl x3)] [.inl zz] w1 r := by
  have h2 := hb_ecw ((0, 1, 0, 0, 0) :: (5, 0, 151, 30, 0) :: (4, 1, 2, 0, 0) :: (0, 1, 0, 0, 0) :: (5, 0, 151, 28, 0) :: (4, 1, 1, 0, 0) :: (0, 1, 0, 0, 0) :: (0, 2, 0, 0, 0) :: (0, 2, 0, 0, 2) :: (6, 1, 252, 3, 90) :: []) (by decide +kernel) h
  exact h2
theorem eg260_151_90_0 {n : Nat} {w : px_W} {r : Option Value × px_W} {x1 x2 x3 s0 : Int} (h : ec_E hb_X n 260 90 [(0, .inr (.inl 215)), (1, .inl x1), (2, .inl x2), (3, .inl x3)] [.inl s0] w r) : ec_tw s0 = ec_tw 0 → True ∧ ec_E hb_X n 260 109 [(0, .inr (.inl 215)), (1, .inl x1), (2, .inl x2)] [] w r := by
  have h2 := hb_ecw ((4, 1, 0, 1, 0) :: (6, 0, 109, 3, 0) :: []) (by decide +kernel) h
  exact h2
theorem eg260_151_90_1 {n : Nat} {w : px_W} {r : Option Value × px_W} {x1 x2 x3 s0 : Int} (h : ec_E hb_X n 260 90 [(0, .inr (.inl 215)), (1, .inl x1), (2, .inl x2), (3, .inl x3)] [.inl s0] w r) : ec_tw s0 ≠ ec_tw 0 → ec_tw 8 ≤ ec_tw (ec_fd w 151 35) → True ∧ ec_E hb_X n 260 109 [(0, .inr (.inl 215)), (1, .inl x1), (2, .inl x2)] [] w r := by
  have h2 := hb_ecw ((4, 1, 1, 0, 0) :: (0, 1, 0, 0, 0) :: (5, 0, 151, 35, 0) :: (0, 2, 0, 0, 8) :: (4, 2, 3, 1, 0) :: (6, 0, 109, 3, 0) :: []) (by decide +kernel) h
  exact h2
theorem eg260_151_90_2 {n : Nat} {w : px_W} {r : Option Value × px_W} {x1 x2 x3 s0 : Int} (h : ec_E hb_X n 260 90 [(0, .inr (.inl 215)), (1, .inl x1), (2, .inl x2), (3, .inl x3)] [.inl s0] w r) : ec_tw s0 ≠ ec_tw 0 → ec_tw (ec_fd w 151 35) < ec_tw 8 → True ∧ ∃ (v : Option Value) (w1 : px_W), ec_E hb_X n 259 0 [(0, .inr (.inl 215))] [] w (v, w1) ∧ (v = none → ec_W hb_A w1 → ec_E hb_X n 260 106 [(0, .inr (.inl 215)), (1, .inl x1), (2, .inl x2), (3, .inl x3)] [] w1 r) := by
  have h2 := hb_ecw ((4, 1, 1, 0, 0) :: (0, 1, 0, 0, 0) :: (5, 0, 151, 35, 0) :: (0, 2, 0, 0, 8) :: (4, 2, 2, 0, 0) :: (0, 1, 0, 0, 0) :: (6, 2, 259, 1, 106) :: []) (by decide +kernel) h
  exact h2
theorem eg260_151_109_0 {n : Nat} {w : px_W} {r : Option Value × px_W} {x1 x2 : Int} (h : ec_E hb_X n 260 109 [(0, .inr (.inl 215)), (1, .inl x1), (2, .inl x2)] [] w r) : True ∧ ∃ (v : Option Value) (w1 : px_W), ec_E hb_X n 251 0 [(0, .inr (.inl 215))] [] w (v, w1) ∧ (v = none → ec_W hb_A w1 → ec_E hb_X n 260 113 [(0, .inr (.inl 215)), (1, .inl x1), (2, .inl x2)] [] w1 r) := by
  have h2 := hb_ecw ((0, 1, 0, 0, 0) :: (6, 2, 251, 1, 113) :: []) (by decide +kernel) h
  exact h2
theorem eg260_151_106_0 {n : Nat} {w : px_W} {r : Option Value × px_W} {x1 x2 x3 : Int} (h : ec_E hb_X n 260 106 [(0, .inr (.inl 215)), (1, .inl x1), (2, .inl x2), (3, .inl x3)] [] w r) : True ∧ ec_E hb_X n 260 70 [(0, .inr (.inl 215)), (1, .inl x1), (2, .inl x2)] [] w r := by
  have h2 := hb_ecw ((4, 0, 0, 0, 0) :: (6, 0, 70, 3, 0) :: []) (by decide +kernel) h
  exact h2
theorem eg260_151_113_0 {n : Nat} {w : px_W} {r : Option Value × px_W} {x1 x2 : Int} (h : ec_E hb_X n 260 113 [(0, .inr (.inl 215)), (1, .inl x1), (2, .inl x2)] [] w r) : True ∧ ec_E hb_X n 260 70 [(0, .inr (.inl 215)), (1, .inl x1), (2, .inl x2)] [] w r := by
  have h2 := hb_ecw ((4, 0, 0, 0, 0) :: (6, 0, 70, 3, 0) :: []) (by decide +kernel) h
  exact h2
theorem eg260_151_70b_0 {n : Nat} {w : px_W} {r : Option Value × px_W} {x1 x2 : Int} (h : ec_E hb_X n 260 70 [(0, .inr (.inl 215)), (1, .inl x1), (2, .inl x2)] [] w r) : ec_tw 0 ≤ ec_tw (ec_fd w 151 30) → True ∧ r = (none, w) ∧ ec_W hb_A w := by
  have h2 := hb_ecw ((0, 1, 0, 0, 0) :: (5, 0, 151, 30, 0) :: (4, 1, 3, 1, 0) :: (6, 4, 0, 0, 0) :: []) (by decide +kernel) h
  exact h2
theorem eg260_151_70b_1 {n : Nat} {w : px_W} {r : Option Value × px_W} {x1 x2 : Int} (h : ec_E hb_X n 260 70 [(0, .inr (.inl 215)), (1, .inl x1), (2, .inl x2)] [] w r) : ec_tw (ec_fd w 151 30) < ec_tw 0 → ec_tw (ec_fd w 151 28) = ec_tw 0 → True ∧ r = (none, w) ∧ ec_W hb_A w := by
  have h2 := hb_ecw ((0, 1, 0, 0, 0) :: (5, 0, 151, 30, 0) :: (4, 1, 2, 0, 0) :: (0, 1, 0, 0, 0) :: (5, 0, 151, 28, 0) :: (4, 1, 0, 1, 0) :: (6, 4, 0, 0, 0) :: []) (by decide +kernel) h
  exact h2
theorem eg260_151_70b_2 {n : Nat} {w : px_W} {r : Option Value × px_W} {x1 x2 : Int} (h : ec_E hb_X n 260 70 [(0, .inr (.inl 215)), (1, .inl x1), (2, .inl x2)] [] w r) : ec_tw (ec_fd w 151 30) < ec_tw 0 → ec_tw (ec_fd w 151 28) ≠ ec_tw 0 → True ∧ ∃ (v : Option Value) (w1 : px_W), ec_E hb_X n 252 0 [(0, .inr (.inl 215)), (1, .inl 0), (2, .inl 2)] [] w (v, w1) ∧ ∀ zz : Int, v = ec_R zz → ec_W hb_A w1 → ec_E hb_X n 260 90 [(0, .inr (.inl 215)), (1, .inl x1), (2, .inl x2)] [.inl zz] w1 r := by
  have h2 := hb_ecw ((0, 1, 0, 0, 0) :: (5, 0, 151, 30, 0) :: (4, 1, 2, 0, 0) :: (0, 1, 0, 0, 0) :: (5, 0, 151, 28, 0) :: (4, 1, 1, 0, 0) :: (0, 1, 0, 0, 0) :: (0, 2, 0, 0, 0) :: (0, 2, 0, 0, 2) :: (6, 1, 252, 3, 90) :: []) (by decide +kernel) h
  exact h2
theorem eg260_151_90b_0 {n : Nat} {w : px_W} {r : Option Value × px_W} {x1 x2 s0 : Int} (h : ec_E hb_X n 260 90 [(0, .inr (.inl 215)), (1, .inl x1), (2, .inl x2)] [.inl s0] w r) : ec_tw s0 = ec_tw 0 → True ∧ ec_E hb_X n 260 109 [(0, .inr (.inl 215)), (1, .inl x1), (2, .inl x2)] [] w r := by
  have h2 := hb_ecw ((4, 1, 0, 1, 0) :: (6, 0, 109, 3, 0) :: []) (by decide +kernel) h
  exact h2
theorem eg260_151_90b_1 {n : Nat} {w : px_W} {r : Option Value × px_W} {x1 x2 s0 : Int} (h : ec_E hb_X n 260 90 [(0, .inr (.inl 215)), (1, .inl x1), (2, .inl x2)] [.inl s0] w r) : ec_tw s0 ≠ ec_tw 0 → ec_tw 8 ≤ ec_tw (ec_fd w 151 35) → True ∧ ec_E hb_X n 260 109 [(0, .inr (.inl 215)), (1, .inl x1), (2, .inl x2)] [] w r := by
  have h2 := hb_ecw ((4, 1, 1, 0, 0) :: (0, 1, 0, 0, 0) :: (5, 0, 151, 35, 0) :: (0, 2, 0, 0, 8) :: (4, 2, 3, 1, 0) :: (6, 0, 109, 3, 0) :: []) (by decide +kernel) h
  exact h2
theorem eg260_151_90b_2 {n : Nat} {w : px_W} {r : Option Value × px_W} {x1 x2 s0 : Int} (h : ec_E hb_X n 260 90 [(0, .inr (.inl 215)), (1, .inl x1), (2, .inl x2)] [.inl s0] w r) : ec_tw s0 ≠ ec_tw 0 → ec_tw (ec_fd w 151 35) < ec_tw 8 → True ∧ ∃ (v : Option Value) (w1 : px_W), ec_E hb_X n 259 0 [(0, .inr (.inl 215))] [] w (v, w1) ∧ (v = none → ec_W hb_A w1 → ec_E hb_X n 260 106 [(0, .inr (.inl 215)), (1, .inl x1), (2, .inl x2)] [] w1 r) := by
  have h2 := hb_ecw ((4, 1, 1, 0, 0) :: (0, 1, 0, 0, 0) :: (5, 0, 151, 35, 0) :: (0, 2, 0, 0, 8) :: (4, 2, 2, 0, 0) :: (0, 1, 0, 0, 0) :: (6, 2, 259, 1, 106) :: []) (by decide +kernel) h
  exact h2
theorem eg260_151_106b_0 {n : Nat} {w : px_W} {r : Option Value × px_W} {x1 x2 : Int} (h : ec_E hb_X n 260 106 [(0, .inr (.inl 215)), (1, .inl x1), (2, .inl x2)] [] w r) : True ∧ ec_E hb_X n 260 70 [(0, .inr (.inl 215)), (1, .inl x1), (2, .inl x2)] [] w r := by
  have h2 := hb_ecw ((4, 0, 0, 0, 0) :: (6, 0, 70, 3, 0) :: []) (by decide +kernel) h
  exact h2
/-! X12_read -/
theorem eg261_151_0_0 {n : Nat} {w : px_W} {r : Option Value × px_W} (h : ec_E hb_X n 261 0 [(0, .inr (.inl 215))] [] w r) : True ∧ ∃ (v : Option Value) (w1 : px_W), ec_E hb_X n 260 0 [(0, .inr (.inl 215)), (1, .inl (-1)), (2, .inl (ec_fd w 151 4))] [] w (v, w1) ∧ (v = none → ec_W hb_A w1 → ec_E hb_X n 261 11 [(0, .inr (.inl 215)), (1, .inl (ec_fd w 151 4))] [] w1 r) := by
  have h2 := hb_ecw ((0, 1, 0, 0, 0) :: (5, 0, 151, 4, 0) :: (0, 3, 1, 0, 0) :: (0, 1, 0, 0, 0) :: (0, 2, 0, 0, (-1)) :: (0, 0, 1, 0, 0) :: (6, 2, 260, 3, 11) :: []) (by decide +kernel) h
  exact h2
theorem eg261_151_11_0 {n : Nat} {w : px_W} {r : Option Value × px_W} {x1 : Int} (h : ec_E hb_X n 261 11 [(0, .inr (.inl 215)), (1, .inl x1)] [] w r) : ec_tw (ec_fd (ec_pf w 151 4 0) 151 30) < ec_tw 0 → ec_tw (ec_rd (ec_pf w 151 4 0) 152 (ec_tw 10)) ≠ ec_tw 6 → (((((True ∧ 0 ≤ ec_tw 10 ∧ ec_tw 10 < 1580) ∧ 0 ≤ ec_tw 10 ∧ ec_tw 10 < 1580) ∧ 0 ≤ ec_tw 0 ∧ ec_tw 0 < 1580) ∧ 0 ≤ ec_tw (368 + (ec_rd (ec_pf w 151 4 0) 152 (ec_tw 10))) ∧ ec_tw (368 + (ec_rd (ec_pf w 151 4 0) 152 (ec_tw 10))) < 1580) ∧ 0 ≤ ec_tw (374 + (ec_rd (ec_pf w 151 4 0) 152 (ec_tw 10))) ∧ ec_tw (374 + (ec_rd (ec_pf w 151 4 0) 152 (ec_tw 10))) < 1580) ∧ ec_E hb_X n 261 83 [(0, .inr (.inl 215)), (1, .inl x1), (2, .inl (ec_rd (ec_pf w 151 4 0) 152 (ec_tw 10))), (3, .inl 0)] [] (ec_wr (ec_wr (ec_pf w 151 4 0) 152 (ec_tw (368 + (ec_rd (ec_pf w 151 4 0) 152 (ec_tw 10)))) (ec_rd (ec_pf w 151 4 0) 152 (ec_tw 0))) 152 (ec_tw (374 + (ec_rd (ec_pf w 151 4 0) 152 (ec_tw 10)))) x1) r := by
  have h2 := hb_ecw ((0, 1, 0, 0, 0) :: (0, 2, 0, 0, 0) :: (5, 4, 151, 4, 0) :: (0, 1, 0, 0, 0) :: (5, 0, 151, 30, 0) :: (4, 1, 2, 1, 0) :: (0, 1, 0, 0, 0) :: (5, 1, 151, 216, 0) :: (0, 2, 0, 0, 10) :: (5, 2, 152, 0, 1580) :: (0, 2, 0, 0, 6) :: (4, 2, 1, 1, 0) :: (0, 1, 0, 0, 0) :: (5, 1, 151, 216, 0) :: (0, 2, 0, 0, 10) :: (5, 2, 152, 0, 1580) :: (0, 3, 2, 0, 0) :: (0, 1, 0, 0, 0) :: (5, 1, 151, 216, 0) :: (0, 2, 0, 0, 368) :: (0, 0, 2, 0, 0) :: (1, 0, 0, 0, 0) :: (0, 1, 0, 0, 0) :: (5, 1, 151, 216, 0) :: (0, 2, 0, 0, 0) :: (5, 2, 152, 0, 1580) :: (5, 3, 152, 0, 1580) :: (0, 1, 0, 0, 0) :: (5, 1, 151, 216, 0) :: (0, 2, 0, 0, 374) :: (0, 0, 2, 0, 0) :: (1, 0, 0, 0, 0) :: (0, 0, 1, 0, 0) :: (5, 3, 152, 0, 1580) :: (0, 2, 0, 0, 0) :: (0, 3, 3, 0, 0) :: (6, 0, 83, 4, 0) :: []) (by decide +kernel) h
  exact h2
theorem eg261_151_11_1 {n : Nat} {w : px_W} {r : Option Value × px_W} {x1 : Int} (h : ec_E hb_X n 261 11 [(0, .inr (.inl 215)), (1, .inl x1)] [] w r) : ec_tw (ec_fd (ec_pf w 151 4 0) 151 30) < ec_tw 0 → ec_tw (ec_rd (ec_pf w 151 4 0) 152 (ec_tw 10)) = ec_tw 6 → (True ∧ 0 ≤ ec_tw 10 ∧ ec_tw 10 < 1580) ∧ r = (ec_R (-2), ec_pf w 151 4 0) ∧ ec_W hb_A (ec_pf w 151 4 0) := by
  have h2 := hb_ecw ((0, 1, 0, 0, 0) :: (0, 2, 0, 0, 0) :: (5, 4, 151, 4, 0) :: (0, 1, 0, 0, 0) :: (5, 0, 151, 30, 0) :: (4, 1, 2, 1, 0) :: (0, 1, 0, 0, 0) :: (5, 1, 151, 216, 0) :: (0, 2, 0, 0, 10) :: (5, 2, 152, 0, 1580) :: (0, 2, 0, 0, 6) :: (4, 2, 0, 0, 0) :: (0, 2, 0, 0, (-2)) :: (6, 3, 0, 0, 0) :: []) (by decide +kernel) h
  exact h2
theorem eg261_151_11_2 {n : Nat} {w : px_W} {r : Option Value × px_W} {x1 : Int} (h : ec_E hb_X n 261 11 [(0, .inr (.inl 215)), (1, .inl x1)] [] w r) : ec_tw 0 ≤ ec_tw (ec_fd (ec_pf w 151 4 0) 151 30) → True ∧ r = (ec_R ((-100) - (ec_fd (ec_pf w 151 4 0) 151 30)), ec_pf w 151 4 0) ∧ ec_W hb_A (ec_pf w 151 4 0) := by
  have h2 := hb_ecw ((0, 1, 0, 0, 0) :: (0, 2, 0, 0, 0) :: (5, 4, 151, 4, 0) :: (0, 1, 0, 0, 0) :: (5, 0, 151, 30, 0) :: (4, 1, 3, 0, 0) :: (0, 2, 0, 0, (-100)) :: (0, 1, 0, 0, 0) :: (5, 0, 151, 30, 0) :: (1, 1, 0, 0, 0) :: (6, 3, 0, 0, 0) :: []) (by decide +kernel) h
  exact h2
theorem eg261_151_83_0 {n : Nat} {w : px_W} {r : Option Value × px_W} {x1 x2 x3 : Int} (h : ec_E hb_X n 261 83 [(0, .inr (.inl 215)), (1, .inl x1), (2, .inl x2), (3, .inl x3)] [] w r) : ec_tw x1 ≤ ec_tw x3 → ((True ∧ 0 ≤ ec_tw 10 ∧ ec_tw 10 < 1580) ∧ 0 ≤ ec_tw 10 ∧ ec_tw 10 < 1580) ∧ r = (ec_R x2, ec_wr w 152 (ec_tw 10) ((ec_rd w 152 (ec_tw 10)) + 1)) ∧ ec_W hb_A (ec_wr w 152 (ec_tw 10) ((ec_rd w 152 (ec_tw 10)) + 1)) := by
  have h2 := hb_ecw ((0, 0, 3, 0, 0) :: (0, 0, 1, 0, 0) :: (4, 2, 3, 1, 0) :: (0, 1, 0, 0, 0) :: (5, 1, 151, 216, 0) :: (0, 2, 0, 0, 10) :: (3, 3, 0, 0, 0) :: (5, 2, 152, 0, 1580) :: (0, 2, 0, 0, 1) :: (1, 0, 0, 0, 0) :: (5, 3, 152, 0, 1580) :: (0, 0, 2, 0, 0) :: (6, 3, 0, 0, 0) :: []) (by decide +kernel) h
  exact h2
theorem eg261_151_83_1 {n : Nat} {w : px_W} {r : Option Value × px_W} {x1 x2 x3 : Int} (h : ec_E hb_X n 261 83 [(0, .inr (.inl 215)), (1, .inl x1), (2, .inl x2), (3, .inl x3)] [] w r) : ec_tw x3 < ec_tw x1 → ((True ∧ 0 ≤ ec_tw x3 ∧ ec_tw x3 < 200) ∧ 0 ≤ ec_tw ((380 + (200 * x2)) + x3) ∧ ec_tw ((380 + (200 * x2)) + x3) < 1580) ∧ ec_E hb_X n 261 83 [(0, .inr (.inl 215)), (1, .inl x1), (2, .inl x2), (3, .inl (x3 + 1))] [] (ec_wr w 152 (ec_tw ((380 + (200 * x2)) + x3)) (ec_rd w 154 (ec_tw x3))) r := by
  have h2 := hb_ecw ((0, 0, 3, 0, 0) :: (0, 0, 1, 0, 0) :: (4, 2, 2, 0, 0) :: (0, 1, 0, 0, 0) :: (5, 1, 151, 216, 0) :: (0, 2, 0, 0, 380) :: (0, 2, 0, 0, 200) :: (0, 0, 2, 0, 0) :: (1, 2, 0, 0, 0) :: (1, 0, 0, 0, 0) :: (0, 0, 3, 0, 0) :: (1, 0, 0, 0, 0) :: (0, 1, 0, 0, 0) :: (5, 1, 151, 218, 0) :: (0, 0, 3, 0, 0) :: (5, 2, 154, 0, 200) :: (5, 3, 152, 0, 1580) :: (0, 5, 3, 0, 1) :: (4, 0, 0, 0, 0) :: (6, 0, 83, 4, 0) :: []) (by decide +kernel) h
  exact h2

end

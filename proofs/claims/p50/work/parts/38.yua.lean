noncomputable section
/-! X0_begin -/
theorem eg4_149_0_0 {n : Nat} {w : px_W} {r : Option Value × px_W} {x1 : Int} (h : ec_E hb_X n 4 0 [(0, .inr (.inl 213)), (1, .inl x1)] [] w r) : ec_tw 30 ≤ ec_tw (ec_fd w 149 0) → True ∧ ec_E hb_X n 4 29 [(0, .inr (.inl 213)), (1, .inl x1)] [] w r := by
  have h2 := hb_ecw ((0, 1, 0, 0, 0) :: (5, 0, 149, 0, 0) :: (0, 2, 0, 0, 30) :: (4, 2, 3, 1, 0) :: (6, 0, 29, 2, 0) :: []) (by decide +kernel) h
  exact h2
theorem eg4_149_0_1 {n : Nat} {w : px_W} {r : Option Value × px_W} {x1 : Int} (h : ec_E hb_X n 4 0 [(0, .inr (.inl 213)), (1, .inl x1)] [] w r) : ec_tw (ec_fd w 149 0) < ec_tw 30 → (True ∧ 0 ≤ ec_tw (ec_fd w 149 0) ∧ ec_tw (ec_fd w 149 0) < 30) ∧ ec_E hb_X n 4 29 [(0, .inr (.inl 213)), (1, .inl x1)] [] (ec_pf (ec_wr w 150 (ec_tw (ec_fd w 149 0)) x1) 149 0 ((ec_fd (ec_wr w 150 (ec_tw (ec_fd w 149 0)) x1) 149 0) + 1)) r := by
  have h2 := hb_ecw ((0, 1, 0, 0, 0) :: (5, 0, 149, 0, 0) :: (0, 2, 0, 0, 30) :: (4, 2, 2, 0, 0) :: (0, 1, 0, 0, 0) :: (5, 1, 149, 214, 0) :: (0, 1, 0, 0, 0) :: (5, 0, 149, 0, 0) :: (0, 0, 1, 0, 0) :: (5, 3, 150, 0, 30) :: (0, 1, 0, 0, 0) :: (3, 0, 0, 0, 0) :: (5, 0, 149, 0, 0) :: (0, 2, 0, 0, 1) :: (1, 0, 0, 0, 0) :: (5, 4, 149, 0, 0) :: (6, 0, 29, 2, 0) :: []) (by decide +kernel) h
  exact h2
theorem eg4_149_29_0 {n : Nat} {w : px_W} {r : Option Value × px_W} {x1 : Int} (h : ec_E hb_X n 4 29 [(0, .inr (.inl 213)), (1, .inl x1)] [] w r) : True ∧ r = (none, w) ∧ ec_W hb_A w := by
  have h2 := hb_ecw ((6, 4, 0, 0, 0) :: []) (by decide +kernel) h
  exact h2
/-! X0_fills -/
theorem eg5_149_0_0 {n : Nat} {w : px_W} {r : Option Value × px_W} {x1 : Int} (h : ec_E hb_X n 5 0 [(0, .inr (.inl 213)), (1, .inl x1)] [] w r) : ec_tw (ec_fd w 149 3) ≠ ec_tw 1 → ec_tw (ec_fd w 149 3) ≠ ec_tw 3 → True ∧ ec_E hb_X n 5 31 [(0, .inr (.inl 213)), (1, .inl x1)] [] w r := by
  have h2 := hb_ecw ((0, 1, 0, 0, 0) :: (5, 0, 149, 3, 0) :: (0, 2, 0, 0, 1) :: (4, 2, 1, 1, 0) :: (0, 1, 0, 0, 0) :: (5, 0, 149, 3, 0) :: (0, 2, 0, 0, 3) :: (4, 2, 1, 1, 0) :: (6, 0, 31, 2, 0) :: []) (by decide +kernel) h
  exact h2
theorem eg5_149_0_1 {n : Nat} {w : px_W} {r : Option Value × px_W} {x1 : Int} (h : ec_E hb_X n 5 0 [(0, .inr (.inl 213)), (1, .inl x1)] [] w r) : ec_tw (ec_fd w 149 3) ≠ ec_tw 1 → ec_tw (ec_fd w 149 3) = ec_tw 3 → True ∧ ∃ (v : Option Value) (w1 : px_W), ec_E hb_X n 4 0 [(0, .inr (.inl 213)), (1, .inl 40)] [] w (v, w1) ∧ (v = none → ec_W hb_A w1 → ec_E hb_X n 5 31 [(0, .inr (.inl 213)), (1, .inl x1)] [] w1 r) := by
  have h2 := hb_ecw ((0, 1, 0, 0, 0) :: (5, 0, 149, 3, 0) :: (0, 2, 0, 0, 1) :: (4, 2, 1, 1, 0) :: (0, 1, 0, 0, 0) :: (5, 0, 149, 3, 0) :: (0, 2, 0, 0, 3) :: (4, 2, 0, 0, 0) :: (0, 1, 0, 0, 0) :: (0, 2, 0, 0, 40) :: (6, 2, 4, 2, 31) :: []) (by decide +kernel) h
  exact h2
theorem eg5_149_0_2 {n : Nat} {w : px_W} {r : Option Value × px_W} {x1 : Int} (h : ec_E hb_X n 5 0 [(0, .inr (.inl 213)), (1, .inl x1)] [] w r) : ec_tw (ec_fd w 149 3) = ec_tw 1 → True ∧ ∃ (v : Option Value) (w1 : px_W), ec_E hb_X n 4 0 [(0, .inr (.inl 213)), (1, .inl 20)] [] w (v, w1) ∧ (v = none → ec_W hb_A w1 → ec_E hb_X n 5 14 [(0, .inr (.inl 213)), (1, .inl x1)] [] w1 r) := by
  have h2 := hb_ecw ((0, 1, 0, 0, 0) :: (5, 0, 149, 3, 0) :: (0, 2, 0, 0, 1) :: (4, 2, 0, 0, 0) :: (0, 1, 0, 0, 0) :: (0, 2, 0, 0, 20) :: (6, 2, 4, 2, 14) :: []) (by decide +kernel) h
  exact h2
theorem eg5_149_31_0 {n : Nat} {w : px_W} {r : Option Value × px_W} {x1 : Int} (h : ec_E hb_X n 5 31 [(0, .inr (.inl 213)), (1, .inl x1)] [] w r) : True ∧ ∃ (v : Option Value) (w1 : px_W), ec_E hb_X n 4 0 [(0, .inr (.inl 213)), (1, .inl 10)] [] w (v, w1) ∧ (v = none → ec_W hb_A w1 → ec_E hb_X n 5 37 [(0, .inr (.inl 213)), (1, .inl x1)] [] w1 r) := by
  have h2 := hb_ecw ((0, 1, 0, 0, 0) :: (0, 2, 0, 0, 10) :: (6, 2, 4, 2, 37) :: []) (by decide +kernel) h
  exact h2
theorem eg5_149_14_0 {n : Nat} {w : px_W} {r : Option Value × px_W} {x1 : Int} (h : ec_E hb_X n 5 14 [(0, .inr (.inl 213)), (1, .inl x1)] [] w r) : True ∧ ec_E hb_X n 5 31 [(0, .inr (.inl 213)), (1, .inl x1)] [] w r := by
  have h2 := hb_ecw ((4, 0, 0, 0, 0) :: (6, 0, 31, 2, 0) :: []) (by decide +kernel) h
  exact h2
theorem eg5_149_37_0 {n : Nat} {w : px_W} {r : Option Value × px_W} {x1 : Int} (h : ec_E hb_X n 5 37 [(0, .inr (.inl 213)), (1, .inl x1)] [] w r) : ec_tw (ec_fd w 149 3) ≠ ec_tw 1 → ec_tw (ec_fd w 149 3) ≠ ec_tw 3 → True ∧ r = (ec_R (x1 + (ec_fd w 149 5)), w) ∧ ec_W hb_A w := by
  have h2 := hb_ecw ((0, 0, 1, 0, 0) :: (0, 1, 0, 0, 0) :: (5, 0, 149, 5, 0) :: (1, 0, 0, 0, 0) :: (0, 3, 2, 0, 0) :: (0, 1, 0, 0, 0) :: (5, 0, 149, 3, 0) :: (0, 2, 0, 0, 1) :: (4, 2, 1, 1, 0) :: (0, 1, 0, 0, 0) :: (5, 0, 149, 3, 0) :: (0, 2, 0, 0, 3) :: (4, 2, 1, 1, 0) :: (0, 0, 2, 0, 0) :: (6, 3, 0, 0, 0) :: []) (by decide +kernel) h
  exact h2
theorem eg5_149_37_1 {n : Nat} {w : px_W} {r : Option Value × px_W} {x1 : Int} (h : ec_E hb_X n 5 37 [(0, .inr (.inl 213)), (1, .inl x1)] [] w r) : ec_tw (ec_fd w 149 3) ≠ ec_tw 1 → ec_tw (ec_fd w 149 3) = ec_tw 3 → True ∧ r = (ec_R ((x1 + (ec_fd w 149 5)) * 3), w) ∧ ec_W hb_A w := by
  have h2 := hb_ecw ((0, 0, 1, 0, 0) :: (0, 1, 0, 0, 0) :: (5, 0, 149, 5, 0) :: (1, 0, 0, 0, 0) :: (0, 3, 2, 0, 0) :: (0, 1, 0, 0, 0) :: (5, 0, 149, 3, 0) :: (0, 2, 0, 0, 1) :: (4, 2, 1, 1, 0) :: (0, 1, 0, 0, 0) :: (5, 0, 149, 3, 0) :: (0, 2, 0, 0, 3) :: (4, 2, 0, 0, 0) :: (0, 0, 2, 0, 0) :: (0, 2, 0, 0, 3) :: (1, 2, 0, 0, 0) :: (4, 0, 0, 0, 0) :: (6, 3, 0, 0, 0) :: []) (by decide +kernel) h
  exact h2
theorem eg5_149_37_2 {n : Nat} {w : px_W} {r : Option Value × px_W} {x1 : Int} (h : ec_E hb_X n 5 37 [(0, .inr (.inl 213)), (1, .inl x1)] [] w r) : ec_tw (ec_fd w 149 3) = ec_tw 1 → True ∧ r = (ec_R ((x1 + (ec_fd w 149 5)) - 40), w) ∧ ec_W hb_A w := by
  have h2 := hb_ecw ((0, 0, 1, 0, 0) :: (0, 1, 0, 0, 0) :: (5, 0, 149, 5, 0) :: (1, 0, 0, 0, 0) :: (0, 3, 2, 0, 0) :: (0, 1, 0, 0, 0) :: (5, 0, 149, 3, 0) :: (0, 2, 0, 0, 1) :: (4, 2, 0, 0, 0) :: (0, 0, 2, 0, 0) :: (0, 2, 0, 0, 40) :: (1, 1, 0, 0, 0) :: (4, 0, 0, 0, 0) :: (6, 3, 0, 0, 0) :: []) (by decide +kernel) h
  exact h2
/-! X0_thingCarries -/
theorem eg9_149_0_0 {n : Nat} {w : px_W} {r : Option Value × px_W} {x1 : Int} (h : ec_E hb_X n 9 0 [(0, .inr (.inl 213)), (1, .inl x1)] [] w r) : True ∧ ∃ (v : Option Value) (w1 : px_W), ec_E hb_X n 4 0 [(0, .inr (.inl 213)), (1, .inl 11)] [] w (v, w1) ∧ (v = none → ec_W hb_A w1 → ec_E hb_X n 9 6 [(0, .inr (.inl 213)), (1, .inl x1)] [] w1 r) := by
  have h2 := hb_ecw ((0, 1, 0, 0, 0) :: (0, 2, 0, 0, 11) :: (6, 2, 4, 2, 6) :: []) (by decide +kernel) h
  exact h2
theorem eg9_149_6_0 {n : Nat} {w : px_W} {r : Option Value × px_W} {x1 : Int} (h : ec_E hb_X n 9 6 [(0, .inr (.inl 213)), (1, .inl x1)] [] w r) : True ∧ ∃ (v : Option Value) (w1 : px_W), ec_E hb_X n 5 0 [(0, .inr (.inl 213)), (1, .inl x1)] [] w (v, w1) ∧ ∀ zz : Int, v = ec_R zz → ec_W hb_A w1 → ec_E hb_X n 9 11 [(0, .inr (.inl 213)), (1, .inl x1)] [.inl zz] w1 r := by
  have h2 := hb_ecw ((0, 1, 0, 0, 0) :: (0, 0, 1, 0, 0) :: (6, 1, 5, 2, 11) :: []) (by decide +kernel) h
  exact h2
theorem eg9_149_11_0 {n : Nat} {w : px_W} {r : Option Value × px_W} {x1 s0 : Int} (h : ec_E hb_X n 9 11 [(0, .inr (.inl 213)), (1, .inl x1)] [.inl s0] w r) : True ∧ r = (ec_R ((s0 * 2) - (ec_fd w 149 4)), w) ∧ ec_W hb_A w := by
  have h2 := hb_ecw ((0, 2, 0, 0, 2) :: (1, 2, 0, 0, 0) :: (0, 1, 0, 0, 0) :: (5, 0, 149, 4, 0) :: (1, 1, 0, 0, 0) :: (6, 3, 0, 0, 0) :: []) (by decide +kernel) h
  exact h2
/-! X0_carries -/
theorem eg6_149_0_0 {n : Nat} {w : px_W} {r : Option Value × px_W} {x1 : Int} (h : ec_E hb_X n 6 0 [(0, .inr (.inl 213)), (1, .inl x1)] [] w r) : ec_tw (ec_fd w 149 3) = ec_tw 2 → True ∧ ∃ (v : Option Value) (w1 : px_W), ec_E hb_X n 4 0 [(0, .inr (.inl 213)), (1, .inl 30)] [] w (v, w1) ∧ (v = none → ec_W hb_A w1 → ec_E hb_X n 6 22 [(0, .inr (.inl 213)), (1, .inl x1)] [] w1 r) := by
  have h2 := hb_ecw ((0, 1, 0, 0, 0) :: (5, 0, 149, 3, 0) :: (0, 2, 0, 0, 2) :: (4, 2, 0, 1, 0) :: (0, 1, 0, 0, 0) :: (0, 2, 0, 0, 30) :: (6, 2, 4, 2, 22) :: []) (by decide +kernel) h
  exact h2
theorem eg6_149_0_1 {n : Nat} {w : px_W} {r : Option Value × px_W} {x1 : Int} (h : ec_E hb_X n 6 0 [(0, .inr (.inl 213)), (1, .inl x1)] [] w r) : ec_tw (ec_fd w 149 3) ≠ ec_tw 2 → ec_tw (ec_fd w 149 3) ≠ ec_tw 3 → ec_tw (ec_fd w 149 3) ≠ ec_tw 5 → ec_tw (ec_fd w 149 3) ≠ ec_tw 6 → True ∧ ∃ (v : Option Value) (w1 : px_W), ec_E hb_X n 9 0 [(0, .inr (.inl 213)), (1, .inl x1)] [] w (v, w1) ∧ ∀ zz : Int, v = ec_R zz → ec_W hb_A w1 → ec_E hb_X n 6 89 [(0, .inr (.inl 213)), (1, .inl x1)] [.inl zz] w1 r := by
  have h2 := hb_ecw ((0, 1, 0, 0, 0) :: (5, 0, 149, 3, 0) :: (0, 2, 0, 0, 2) :: (4, 2, 1, 0, 0) :: (0, 1, 0, 0, 0) :: (5, 0, 149, 3, 0) :: (0, 2, 0, 0, 3) :: (4, 2, 1, 1, 0) :: (0, 1, 0, 0, 0) :: (5, 0, 149, 3, 0) :: (0, 2, 0, 0, 5) :: (4, 2, 1, 1, 0) :: (0, 1, 0, 0, 0) :: (5, 0, 149, 3, 0) :: (0, 2, 0, 0, 6) :: (4, 2, 1, 1, 0) :: (0, 1, 0, 0, 0) :: (0, 0, 1, 0, 0) :: (6, 1, 9, 2, 89) :: []) (by decide +kernel) h
  exact h2
theorem eg6_149_0_2 {n : Nat} {w : px_W} {r : Option Value × px_W} {x1 : Int} (h : ec_E hb_X n 6 0 [(0, .inr (.inl 213)), (1, .inl x1)] [] w r) : ec_tw (ec_fd w 149 3) ≠ ec_tw 2 → ec_tw (ec_fd w 149 3) ≠ ec_tw 3 → ec_tw (ec_fd w 149 3) ≠ ec_tw 5 → ec_tw (ec_fd w 149 3) = ec_tw 6 → True ∧ ∃ (v : Option Value) (w1 : px_W), ec_E hb_X n 4 0 [(0, .inr (.inl 213)), (1, .inl 71)] [] w (v, w1) ∧ (v = none → ec_W hb_A w1 → ec_E hb_X n 6 70 [(0, .inr (.inl 213)), (1, .inl x1)] [] w1 r) := by
  have h2 := hb_ecw ((0, 1, 0, 0, 0) :: (5, 0, 149, 3, 0) :: (0, 2, 0, 0, 2) :: (4, 2, 1, 0, 0) :: (0, 1, 0, 0, 0) :: (5, 0, 149, 3, 0) :: (0, 2, 0, 0, 3) :: (4, 2, 1, 1, 0) :: (0, 1, 0, 0, 0) :: (5, 0, 149, 3, 0) :: (0, 2, 0, 0, 5) :: (4, 2, 1, 1, 0) :: (0, 1, 0, 0, 0) :: (5, 0, 149, 3, 0) :: (0, 2, 0, 0, 6) :: (4, 2, 0, 0, 0) :: (0, 1, 0, 0, 0) :: (0, 2, 0, 0, 71) :: (6, 2, 4, 2, 70) :: []) (by decide +kernel) h
  exact h2
theorem eg6_149_0_3 {n : Nat} {w : px_W} {r : Option Value × px_W} {x1 : Int} (h : ec_E hb_X n 6 0 [(0, .inr (.inl 213)), (1, .inl x1)] [] w r) : ec_tw (ec_fd w 149 3) ≠ ec_tw 2 → ec_tw (ec_fd w 149 3) ≠ ec_tw 3 → ec_tw (ec_fd w 149 3) = ec_tw 5 → True ∧ ∃ (v : Option Value) (w1 : px_W), ec_E hb_X n 4 0 [(0, .inr (.inl 213)), (1, .inl 60)] [] w (v, w1) ∧ (v = none → ec_W hb_A w1 → ec_E hb_X n 6 47 [(0, .inr (.inl 213)), (1, .inl x1)] [] w1 r) := by
  have h2 := hb_ecw ((0, 1, 0, 0, 0) :: (5, 0, 149, 3, 0) :: (0, 2, 0, 0, 2) :: (4, 2, 1, 0, 0) :: (0, 1, 0, 0, 0) :: (5, 0, 149, 3, 0) :: (0, 2, 0, 0, 3) :: (4, 2, 1, 1, 0) :: (0, 1, 0, 0, 0) :: (5, 0, 149, 3, 0) :: (0, 2, 0, 0, 5) :: (4, 2, 0, 0, 0) :: (0, 1, 0, 0, 0) :: (0, 2, 0, 0, 60) :: (6, 2, 4, 2, 47) :: []) (by decide +kernel) h
  exact h2
theorem eg6_149_0_4 {n : Nat} {w : px_W} {r : Option Value × px_W} {x1 : Int} (h : ec_E hb_X n 6 0 [(0, .inr (.inl 213)), (1, .inl x1)] [] w r) : ec_tw (ec_fd w 149 3) ≠ ec_tw 2 → ec_tw (ec_fd w 149 3) = ec_tw 3 → True ∧ ∃ (v : Option Value) (w1 : px_W), ec_E hb_X n 4 0 [(0, .inr (.inl 213)), (1, .inl 30)] [] w (v, w1) ∧ (v = none → ec_W hb_A w1 → ec_E hb_X n 6 22 [(0, .inr (.inl 213)), (1, .inl x1)] [] w1 r) := by
  have h2 := hb_ecw ((0, 1, 0, 0, 0) :: (5, 0, 149, 3, 0) :: (0, 2, 0, 0, 2) :: (4, 2, 1, 0, 0) :: (0, 1, 0, 0, 0) :: (5, 0, 149, 3, 0) :: (0, 2, 0, 0, 3) :: (4, 2, 0, 0, 0) :: (0, 1, 0, 0, 0) :: (0, 2, 0, 0, 30) :: (6, 2, 4, 2, 22) :: []) (by decide +kernel) h
  exact h2
theorem eg6_149_22_0 {n : Nat} {w : px_W} {r : Option Value × px_W} {x1 : Int} (h : ec_E hb_X n 6 22 [(0, .inr (.inl 213)), (1, .inl x1)] [] w r) : True ∧ ∃ (v : Option Value) (w1 : px_W), ec_E hb_X n 9 0 [(0, .inr (.inl 213)), (1, .inl x1)] [] w (v, w1) ∧ ∀ zz : Int, v = ec_R zz → ec_W hb_A w1 → ec_E hb_X n 6 27 [(0, .inr (.inl 213)), (1, .inl x1)] [.inl zz] w1 r := by
  have h2 := hb_ecw ((0, 1, 0, 0, 0) :: (0, 0, 1, 0, 0) :: (6, 1, 9, 2, 27) :: []) (by decide +kernel) h
  exact h2
theorem eg6_149_89_0 {n : Nat} {w : px_W} {r : Option Value × px_W} {x1 s0 : Int} (h : ec_E hb_X n 6 89 [(0, .inr (.inl 213)), (1, .inl x1)] [.inl s0] w r) : True ∧ r = (ec_R s0, w) ∧ ec_W hb_A w := by
  have h2 := hb_ecw ((6, 3, 0, 0, 0) :: []) (by decide +kernel) h
  exact h2
theorem eg6_149_70_0 {n : Nat} {w : px_W} {r : Option Value × px_W} {x1 : Int} (h : ec_E hb_X n 6 70 [(0, .inr (.inl 213)), (1, .inl x1)] [] w r) : True ∧ ∃ (v : Option Value) (w1 : px_W), ec_E hb_X n 9 0 [(0, .inr (.inl 213)), (1, .inl x1)] [] w (v, w1) ∧ ∀ zz : Int, v = ec_R zz → ec_W hb_A w1 → ec_E hb_X n 6 75 [(0, .inr (.inl 213)), (1, .inl x1)] [.inl zz] w1 r := by
  have h2 := hb_ecw ((0, 1, 0, 0, 0) :: (0, 0, 1, 0, 0) :: (6, 1, 9, 2, 75) :: []) (by decide +kernel) h
  exact h2
theorem eg6_149_47_0 {n : Nat} {w : px_W} {r : Option Value × px_W} {x1 : Int} (h : ec_E hb_X n 6 47 [(0, .inr (.inl 213)), (1, .inl x1)] [] w r) : True ∧ ∃ (v : Option Value) (w1 : px_W), ec_E hb_X n 9 0 [(0, .inr (.inl 213)), (1, .inl x1)] [] w (v, w1) ∧ ∀ zz : Int, v = ec_R zz → ec_W hb_A w1 → ec_E hb_X n 6 53 [(0, .inr (.inl 213)), (1, .inl x1)] [.inl zz, .inl 0] w1 r := by
  have h2 := hb_ecw ((0, 2, 0, 0, 0) :: (0, 1, 0, 0, 0) :: (0, 0, 1, 0, 0) :: (6, 1, 9, 2, 53) :: []) (by decide +kernel) h
  exact h2
theorem eg6_149_27_0 {n : Nat} {w : px_W} {r : Option Value × px_W} {x1 s0 : Int} (h : ec_E hb_X n 6 27 [(0, .inr (.inl 213)), (1, .inl x1)] [.inl s0] w r) : True ∧ r = (ec_R (s0 + (ec_fd w 149 5)), w) ∧ ec_W hb_A w := by
  have h2 := hb_ecw ((0, 1, 0, 0, 0) :: (5, 0, 149, 5, 0) :: (1, 0, 0, 0, 0) :: (6, 3, 0, 0, 0) :: []) (by decide +kernel) h
  exact h2
theorem eg6_149_75_0 {n : Nat} {w : px_W} {r : Option Value × px_W} {x1 s0 : Int} (h : ec_E hb_X n 6 75 [(0, .inr (.inl 213)), (1, .inl x1)] [.inl s0] w r) : True ∧ ∃ (v : Option Value) (w1 : px_W), ec_E hb_X n 5 0 [(0, .inr (.inl 213)), (1, .inl 0)] [] w (v, w1) ∧ ∀ zz : Int, v = ec_R zz → ec_W hb_A w1 → ec_E hb_X n 6 82 [(0, .inr (.inl 213)), (1, .inl x1), (2, .inl s0)] [.inl zz, .inl s0] w1 r := by
  have h2 := hb_ecw ((0, 3, 2, 0, 0) :: (0, 0, 2, 0, 0) :: (0, 1, 0, 0, 0) :: (0, 2, 0, 0, 0) :: (6, 1, 5, 2, 82) :: []) (by decide +kernel) h
  exact h2
theorem eg6_149_53_0 {n : Nat} {w : px_W} {r : Option Value × px_W} {x1 s0 s1 : Int} (h : ec_E hb_X n 6 53 [(0, .inr (.inl 213)), (1, .inl x1)] [.inl s1, .inl s0] w r) : True ∧ r = (ec_R (s0 - s1), w) ∧ ec_W hb_A w := by
  have h2 := hb_ecw ((1, 1, 0, 0, 0) :: (6, 3, 0, 0, 0) :: []) (by decide +kernel) h
  exact h2
theorem eg6_149_82_0 {n : Nat} {w : px_W} {r : Option Value × px_W} {x1 x2 s0 s1 : Int} (h : ec_E hb_X n 6 82 [(0, .inr (.inl 213)), (1, .inl x1), (2, .inl x2)] [.inl s1, .inl s0] w r) : True ∧ r = (ec_R (s0 + s1), w) ∧ ec_W hb_A w := by
  have h2 := hb_ecw ((1, 0, 0, 0, 0) :: (6, 3, 0, 0, 0) :: []) (by decide +kernel) h
  exact h2
/-! X0_thingFits -/
theorem eg10_149_0_0 {n : Nat} {w : px_W} {r : Option Value × px_W} {x1 : Int} (h : ec_E hb_X n 10 0 [(0, .inr (.inl 213)), (1, .inl x1)] [] w r) : True ∧ ∃ (v : Option Value) (w1 : px_W), ec_E hb_X n 4 0 [(0, .inr (.inl 213)), (1, .inl 12)] [] w (v, w1) ∧ (v = none → ec_W hb_A w1 → ec_E hb_X n 10 6 [(0, .inr (.inl 213)), (1, .inl x1)] [] w1 r) := by
  have h2 := hb_ecw ((0, 1, 0, 0, 0) :: (0, 2, 0, 0, 12) :: (6, 2, 4, 2, 6) :: []) (by decide +kernel) h
  exact h2
theorem eg10_149_6_0 {n : Nat} {w : px_W} {r : Option Value × px_W} {x1 : Int} (h : ec_E hb_X n 10 6 [(0, .inr (.inl 213)), (1, .inl x1)] [] w r) : ec_tw ((ec_fd w 149 5) - (ec_fd w 149 4)) ≠ ec_tw 0 → (True ∧ ec_tw ((ec_fd w 149 5) - (ec_fd w 149 4)) ≠ 0) ∧ r = (ec_R (ec_dv x1 ((ec_fd w 149 5) - (ec_fd w 149 4))), w) ∧ ec_W hb_A w := by
  have h2 := hb_ecw ((0, 1, 0, 0, 0) :: (5, 0, 149, 5, 0) :: (0, 1, 0, 0, 0) :: (5, 0, 149, 4, 0) :: (1, 1, 0, 0, 0) :: (0, 3, 2, 0, 0) :: (0, 0, 2, 0, 0) :: (4, 1, 1, 1, 0) :: (0, 0, 1, 0, 0) :: (0, 0, 2, 0, 0) :: (2, 0, 0, 0, 0) :: (6, 3, 0, 0, 0) :: []) (by decide +kernel) h
  exact h2
theorem eg10_149_6_1 {n : Nat} {w : px_W} {r : Option Value × px_W} {x1 : Int} (h : ec_E hb_X n 10 6 [(0, .inr (.inl 213)), (1, .inl x1)] [] w r) : ec_tw ((ec_fd w 149 5) - (ec_fd w 149 4)) = ec_tw 0 → True ∧ r = (ec_R 0, ec_pf w 149 2 1) ∧ ec_W hb_A (ec_pf w 149 2 1) := by
  have h2 := hb_ecw ((0, 1, 0, 0, 0) :: (5, 0, 149, 5, 0) :: (0, 1, 0, 0, 0) :: (5, 0, 149, 4, 0) :: (1, 1, 0, 0, 0) :: (0, 3, 2, 0, 0) :: (0, 0, 2, 0, 0) :: (4, 1, 0, 0, 0) :: (0, 1, 0, 0, 0) :: (0, 2, 0, 0, 1) :: (5, 4, 149, 2, 0) :: (0, 2, 0, 0, 0) :: (6, 3, 0, 0, 0) :: []) (by decide +kernel) h
  exact h2
/-! X0_fits -/
theorem eg7_149_0_0 {n : Nat} {w : px_W} {r : Option Value × px_W} {x1 : Int} (h : ec_E hb_X n 7 0 [(0, .inr (.inl 213)), (1, .inl x1)] [] w r) : ec_tw (ec_fd w 149 3) ≠ ec_tw 1 → ec_tw (ec_fd w 149 3) ≠ ec_tw 6 → True ∧ ∃ (v : Option Value) (w1 : px_W), ec_E hb_X n 10 0 [(0, .inr (.inl 213)), (1, .inl x1)] [] w (v, w1) ∧ ∀ zz : Int, v = ec_R zz → ec_W hb_A w1 → ec_E hb_X n 7 67 [(0, .inr (.inl 213)), (1, .inl x1)] [.inl zz] w1 r := by
  have h2 := hb_ecw ((0, 1, 0, 0, 0) :: (5, 0, 149, 3, 0) :: (0, 2, 0, 0, 1) :: (4, 2, 1, 1, 0) :: (0, 1, 0, 0, 0) :: (5, 0, 149, 3, 0) :: (0, 2, 0, 0, 6) :: (4, 2, 1, 1, 0) :: (0, 1, 0, 0, 0) :: (0, 0, 1, 0, 0) :: (6, 1, 10, 2, 67) :: []) (by decide +kernel) h
  exact h2
theorem eg7_149_0_1 {n : Nat} {w : px_W} {r : Option Value × px_W} {x1 : Int} (h : ec_E hb_X n 7 0 [(0, .inr (.inl 213)), (1, .inl x1)] [] w r) : ec_tw (ec_fd w 149 3) ≠ ec_tw 1 → ec_tw (ec_fd w 149 3) = ec_tw 6 → True ∧ ∃ (v : Option Value) (w1 : px_W), ec_E hb_X n 4 0 [(0, .inr (.inl 213)), (1, .inl 70)] [] w (v, w1) ∧ (v = none → ec_W hb_A w1 → ec_E hb_X n 7 54 [(0, .inr (.inl 213)), (1, .inl x1)] [] w1 r) := by
  have h2 := hb_ecw ((0, 1, 0, 0, 0) :: (5, 0, 149, 3, 0) :: (0, 2, 0, 0, 1) :: (4, 2, 1, 1, 0) :: (0, 1, 0, 0, 0) :: (5, 0, 149, 3, 0) :: (0, 2, 0, 0, 6) :: (4, 2, 0, 0, 0) :: (0, 1, 0, 0, 0) :: (0, 2, 0, 0, 70) :: (6, 2, 4, 2, 54) :: []) (by decide +kernel) h
  exact h2
theorem eg7_149_0_2 {n : Nat} {w : px_W} {r : Option Value × px_W} {x1 : Int} (h : ec_E hb_X n 7 0 [(0, .inr (.inl 213)), (1, .inl x1)] [] w r) : ec_tw (ec_fd w 149 3) = ec_tw 1 → True ∧ ∃ (v : Option Value) (w1 : px_W), ec_E hb_X n 4 0 [(0, .inr (.inl 213)), (1, .inl 21)] [] w (v, w1) ∧ (v = none → ec_W hb_A w1 → ec_E hb_X n 7 14 [(0, .inr (.inl 213)), (1, .inl x1)] [] w1 r) := by
  have h2 := hb_ecw ((0, 1, 0, 0, 0) :: (5, 0, 149, 3, 0) :: (0, 2, 0, 0, 1) :: (4, 2, 0, 0, 0) :: (0, 1, 0, 0, 0) :: (0, 2, 0, 0, 21) :: (6, 2, 4, 2, 14) :: []) (by decide +kernel) h
  exact h2
theorem eg7_149_67_0 {n : Nat} {w : px_W} {r : Option Value × px_W} {x1 s0 : Int} (h : ec_E hb_X n 7 67 [(0, .inr (.inl 213)), (1, .inl x1)] [.inl s0] w r) : True ∧ r = (ec_R s0, w) ∧ ec_W hb_A w := by
  have h2 := hb_ecw ((6, 3, 0, 0, 0) :: []) (by decide +kernel) h
  exact h2
theorem eg7_149_54_0 {n : Nat} {w : px_W} {r : Option Value × px_W} {x1 : Int} (h : ec_E hb_X n 7 54 [(0, .inr (.inl 213)), (1, .inl x1)] [] w r) : True ∧ ∃ (v : Option Value) (w1 : px_W), ec_E hb_X n 10 0 [(0, .inr (.inl 213)), (1, .inl (x1 * 2))] [] w (v, w1) ∧ ∀ zz : Int, v = ec_R zz → ec_W hb_A w1 → ec_E hb_X n 7 61 [(0, .inr (.inl 213)), (1, .inl x1)] [.inl zz] w1 r := by
  have h2 := hb_ecw ((0, 1, 0, 0, 0) :: (0, 0, 1, 0, 0) :: (0, 2, 0, 0, 2) :: (1, 2, 0, 0, 0) :: (6, 1, 10, 2, 61) :: []) (by decide +kernel) h
  exact h2
theorem eg7_149_14_0 {n : Nat} {w : px_W} {r : Option Value × px_W} {x1 : Int} (h : ec_E hb_X n 7 14 [(0, .inr (.inl 213)), (1, .inl x1)] [] w r) : True ∧ ∃ (v : Option Value) (w1 : px_W), ec_E hb_X n 10 0 [(0, .inr (.inl 213)), (1, .inl x1)] [] w (v, w1) ∧ ∀ zz : Int, v = ec_R zz → ec_W hb_A w1 → ec_E hb_X n 7 19 [(0, .inr (.inl 213)), (1, .inl x1)] [.inl zz] w1 r := by
  have h2 := hb_ecw ((0, 1, 0, 0, 0) :: (0, 0, 1, 0, 0) :: (6, 1, 10, 2, 19) :: []) (by decide +kernel) h
  exact h2
theorem eg7_149_61_0 {n : Nat} {w : px_W} {r : Option Value × px_W} {x1 s0 : Int} (h : ec_E hb_X n 7 61 [(0, .inr (.inl 213)), (1, .inl x1)] [.inl s0] w r) : True ∧ r = (ec_R s0, w) ∧ ec_W hb_A w := by
  have h2 := hb_ecw ((6, 3, 0, 0, 0) :: []) (by decide +kernel) h
  exact h2
theorem eg7_149_19_0 {n : Nat} {w : px_W} {r : Option Value × px_W} {x1 s0 : Int} (h : ec_E hb_X n 7 19 [(0, .inr (.inl 213)), (1, .inl x1)] [.inl s0] w r) : ec_tw (ec_fd w 149 2) = ec_tw 0 → True ∧ ∃ (v : Option Value) (w1 : px_W), ec_E hb_X n 5 0 [(0, .inr (.inl 213)), (1, .inl 1)] [] w (v, w1) ∧ ∀ zz : Int, v = ec_R zz → ec_W hb_A w1 → ec_E hb_X n 7 37 [(0, .inr (.inl 213)), (1, .inl x1), (2, .inl s0)] [.inl zz, .inl s0] w1 r := by
  have h2 := hb_ecw ((0, 3, 2, 0, 0) :: (0, 1, 0, 0, 0) :: (5, 0, 149, 2, 0) :: (4, 1, 0, 1, 0) :: (0, 0, 2, 0, 0) :: (0, 1, 0, 0, 0) :: (0, 2, 0, 0, 1) :: (6, 1, 5, 2, 37) :: []) (by decide +kernel) h
  exact h2
theorem eg7_149_19_1 {n : Nat} {w : px_W} {r : Option Value × px_W} {x1 s0 : Int} (h : ec_E hb_X n 7 19 [(0, .inr (.inl 213)), (1, .inl x1)] [.inl s0] w r) : ec_tw (ec_fd w 149 2) ≠ ec_tw 0 → True ∧ r = (ec_R 0, w) ∧ ec_W hb_A w := by
  have h2 := hb_ecw ((0, 3, 2, 0, 0) :: (0, 1, 0, 0, 0) :: (5, 0, 149, 2, 0) :: (4, 1, 1, 0, 0) :: (0, 2, 0, 0, 0) :: (4, 0, 0, 0, 0) :: (6, 3, 0, 0, 0) :: []) (by decide +kernel) h
  exact h2
theorem eg7_149_37_0 {n : Nat} {w : px_W} {r : Option Value × px_W} {x1 x2 s0 s1 : Int} (h : ec_E hb_X n 7 37 [(0, .inr (.inl 213)), (1, .inl x1), (2, .inl x2)] [.inl s1, .inl s0] w r) : True ∧ r = (ec_R (s0 + s1), w) ∧ ec_W hb_A w := by
  have h2 := hb_ecw ((1, 0, 0, 0, 0) :: (6, 3, 0, 0, 0) :: []) (by decide +kernel) h
  exact h2
/-! X0_thingTells -/
theorem eg11_149_0_0 {n : Nat} {w : px_W} {r : Option Value × px_W} {x1 : Int} (h : ec_E hb_X n 11 0 [(0, .inr (.inl 213)), (1, .inl x1)] [] w r) : True ∧ ∃ (v : Option Value) (w1 : px_W), ec_E hb_X n 4 0 [(0, .inr (.inl 213)), (1, .inl 13)] [] w (v, w1) ∧ (v = none → ec_W hb_A w1 → ec_E hb_X n 11 6 [(0, .inr (.inl 213)), (1, .inl x1)] [] w1 r) := by
  have h2 := hb_ecw ((0, 1, 0, 0, 0) :: (0, 2, 0, 0, 13) :: (6, 2, 4, 2, 6) :: []) (by decide +kernel) h
  exact h2
theorem eg11_149_6_0 {n : Nat} {w : px_W} {r : Option Value × px_W} {x1 : Int} (h : ec_E hb_X n 11 6 [(0, .inr (.inl 213)), (1, .inl x1)] [] w r) : True ∧ ∃ (v : Option Value) (w1 : px_W), ec_E hb_X n 6 0 [(0, .inr (.inl 213)), (1, .inl x1)] [] w (v, w1) ∧ ∀ zz : Int, v = ec_R zz → ec_W hb_A w1 → ec_E hb_X n 11 11 [(0, .inr (.inl 213)), (1, .inl x1)] [.inl zz] w1 r := by
  have h2 := hb_ecw ((0, 1, 0, 0, 0) :: (0, 0, 1, 0, 0) :: (6, 1, 6, 2, 11) :: []) (by decide +kernel) h
  exact h2
theorem eg11_149_11_0 {n : Nat} {w : px_W} {r : Option Value × px_W} {x1 s0 : Int} (h : ec_E hb_X n 11 11 [(0, .inr (.inl 213)), (1, .inl x1)] [.inl s0] w r) : True ∧ r = (ec_R (ec_xor s0 (ec_fd w 149 5)), w) ∧ ec_W hb_A w := by
  have h2 := hb_ecw ((0, 1, 0, 0, 0) :: (5, 0, 149, 5, 0) :: (1, 5, 0, 0, 0) :: (6, 3, 0, 0, 0) :: []) (by decide +kernel) h
  exact h2
/-! X0_tells -/
theorem eg8_149_0_0 {n : Nat} {w : px_W} {r : Option Value × px_W} {x1 : Int} (h : ec_E hb_X n 8 0 [(0, .inr (.inl 213)), (1, .inl x1)] [] w r) : ec_tw (ec_fd w 149 3) ≠ ec_tw 3 → ec_tw (ec_fd w 149 3) = ec_tw 4 → True ∧ ∃ (v : Option Value) (w1 : px_W), ec_E hb_X n 4 0 [(0, .inr (.inl 213)), (1, .inl 50)] [] w (v, w1) ∧ (v = none → ec_W hb_A w1 → ec_E hb_X n 8 44 [(0, .inr (.inl 213)), (1, .inl x1)] [] w1 r) := by
  have h2 := hb_ecw ((0, 1, 0, 0, 0) :: (5, 0, 149, 3, 0) :: (0, 2, 0, 0, 3) :: (4, 2, 1, 1, 0) :: (0, 1, 0, 0, 0) :: (5, 0, 149, 3, 0) :: (0, 2, 0, 0, 4) :: (4, 2, 0, 1, 0) :: (0, 1, 0, 0, 0) :: (0, 2, 0, 0, 50) :: (6, 2, 4, 2, 44) :: []) (by decide +kernel) h
  exact h2
theorem eg8_149_0_1 {n : Nat} {w : px_W} {r : Option Value × px_W} {x1 : Int} (h : ec_E hb_X n 8 0 [(0, .inr (.inl 213)), (1, .inl x1)] [] w r) : ec_tw (ec_fd w 149 3) ≠ ec_tw 3 → ec_tw (ec_fd w 149 3) ≠ ec_tw 4 → ec_tw (ec_fd w 149 3) ≠ ec_tw 5 → True ∧ ∃ (v : Option Value) (w1 : px_W), ec_E hb_X n 11 0 [(0, .inr (.inl 213)), (1, .inl x1)] [] w (v, w1) ∧ ∀ zz : Int, v = ec_R zz → ec_W hb_A w1 → ec_E hb_X n 8 63 [(0, .inr (.inl 213)), (1, .inl x1)] [.inl zz] w1 r := by
  have h2 := hb_ecw ((0, 1, 0, 0, 0) :: (5, 0, 149, 3, 0) :: (0, 2, 0, 0, 3) :: (4, 2, 1, 1, 0) :: (0, 1, 0, 0, 0) :: (5, 0, 149, 3, 0) :: (0, 2, 0, 0, 4) :: (4, 2, 1, 0, 0) :: (0, 1, 0, 0, 0) :: (5, 0, 149, 3, 0) :: (0, 2, 0, 0, 5) :: (4, 2, 1, 1, 0) :: (0, 1, 0, 0, 0) :: (0, 0, 1, 0, 0) :: (6, 1, 11, 2, 63) :: []) (by decide +kernel) h
  exact h2
theorem eg8_149_0_2 {n : Nat} {w : px_W} {r : Option Value × px_W} {x1 : Int} (h : ec_E hb_X n 8 0 [(0, .inr (.inl 213)), (1, .inl x1)] [] w r) : ec_tw (ec_fd w 149 3) ≠ ec_tw 3 → ec_tw (ec_fd w 149 3) ≠ ec_tw 4 → ec_tw (ec_fd w 149 3) = ec_tw 5 → True ∧ ∃ (v : Option Value) (w1 : px_W), ec_E hb_X n 4 0 [(0, .inr (.inl 213)), (1, .inl 50)] [] w (v, w1) ∧ (v = none → ec_W hb_A w1 → ec_E hb_X n 8 44 [(0, .inr (.inl 213)), (1, .inl x1)] [] w1 r) := by
  have h2 := hb_ecw ((0, 1, 0, 0, 0) :: (5, 0, 149, 3, 0) :: (0, 2, 0, 0, 3) :: (4, 2, 1, 1, 0) :: (0, 1, 0, 0, 0) :: (5, 0, 149, 3, 0) :: (0, 2, 0, 0, 4) :: (4, 2, 1, 0, 0) :: (0, 1, 0, 0, 0) :: (5, 0, 149, 3, 0) :: (0, 2, 0, 0, 5) :: (4, 2, 0, 0, 0) :: (0, 1, 0, 0, 0) :: (0, 2, 0, 0, 50) :: (6, 2, 4, 2, 44) :: []) (by decide +kernel) h
  exact h2
theorem eg8_149_0_3 {n : Nat} {w : px_W} {r : Option Value × px_W} {x1 : Int} (h : ec_E hb_X n 8 0 [(0, .inr (.inl 213)), (1, .inl x1)] [] w r) : ec_tw (ec_fd w 149 3) = ec_tw 3 → True ∧ ∃ (v : Option Value) (w1 : px_W), ec_E hb_X n 4 0 [(0, .inr (.inl 213)), (1, .inl 41)] [] w (v, w1) ∧ (v = none → ec_W hb_A w1 → ec_E hb_X n 8 14 [(0, .inr (.inl 213)), (1, .inl x1)] [] w1 r) := by
  have h2 := hb_ecw ((0, 1, 0, 0, 0) :: (5, 0, 149, 3, 0) :: (0, 2, 0, 0, 3) :: (4, 2, 0, 0, 0) :: (0, 1, 0, 0, 0) :: (0, 2, 0, 0, 41) :: (6, 2, 4, 2, 14) :: []) (by decide +kernel) h
  exact h2
theorem eg8_149_44_0 {n : Nat} {w : px_W} {r : Option Value × px_W} {x1 : Int} (h : ec_E hb_X n 8 44 [(0, .inr (.inl 213)), (1, .inl x1)] [] w r) : True ∧ ∃ (v : Option Value) (w1 : px_W), ec_E hb_X n 11 0 [(0, .inr (.inl 213)), (1, .inl x1)] [] w (v, w1) ∧ ∀ zz : Int, v = ec_R zz → ec_W hb_A w1 → ec_E hb_X n 8 49 [(0, .inr (.inl 213)), (1, .inl x1)] [.inl zz] w1 r := by
  have h2 := hb_ecw ((0, 1, 0, 0, 0) :: (0, 0, 1, 0, 0) :: (6, 1, 11, 2, 49) :: []) (by decide +kernel) h
  exact h2
theorem eg8_149_63_0 {n : Nat} {w : px_W} {r : Option Value × px_W} {x1 s0 : Int} (h : ec_E hb_X n 8 63 [(0, .inr (.inl 213)), (1, .inl x1)] [.inl s0] w r) : True ∧ r = (ec_R s0, w) ∧ ec_W hb_A w := by
  have h2 := hb_ecw ((6, 3, 0, 0, 0) :: []) (by decide +kernel) h
  exact h2
theorem eg8_149_14_0 {n : Nat} {w : px_W} {r : Option Value × px_W} {x1 : Int} (h : ec_E hb_X n 8 14 [(0, .inr (.inl 213)), (1, .inl x1)] [] w r) : True ∧ ∃ (v : Option Value) (w1 : px_W), ec_E hb_X n 11 0 [(0, .inr (.inl 213)), (1, .inl x1)] [] w (v, w1) ∧ ∀ zz : Int, v = ec_R zz → ec_W hb_A w1 → ec_E hb_X n 8 19 [(0, .inr (.inl 213)), (1, .inl x1)] [.inl zz] w1 r := by
  have h2 := hb_ecw ((0, 1, 0, 0, 0) :: (0, 0, 1, 0, 0) :: (6, 1, 11, 2, 19) :: []) (by decide +kernel) h
  exact h2
theorem eg8_149_49_0 {n : Nat} {w : px_W} {r : Option Value × px_W} {x1 s0 : Int} (h : ec_E hb_X n 8 49 [(0, .inr (.inl 213)), (1, .inl x1)] [.inl s0] w r) : True ∧ ∃ (v : Option Value) (w1 : px_W), ec_E hb_X n 5 0 [(0, .inr (.inl 213)), (1, .inl x1)] [] w (v, w1) ∧ ∀ zz : Int, v = ec_R zz → ec_W hb_A w1 → ec_E hb_X n 8 56 [(0, .inr (.inl 213)), (1, .inl x1), (2, .inl s0)] [.inl zz, .inl s0] w1 r := by
  have h2 := hb_ecw ((0, 3, 2, 0, 0) :: (0, 0, 2, 0, 0) :: (0, 1, 0, 0, 0) :: (0, 0, 1, 0, 0) :: (6, 1, 5, 2, 56) :: []) (by decide +kernel) h
  exact h2
theorem eg8_149_19_0 {n : Nat} {w : px_W} {r : Option Value × px_W} {x1 s0 : Int} (h : ec_E hb_X n 8 19 [(0, .inr (.inl 213)), (1, .inl x1)] [.inl s0] w r) : True ∧ r = (ec_R (s0 - 1), w) ∧ ec_W hb_A w := by
  have h2 := hb_ecw ((0, 2, 0, 0, 1) :: (1, 1, 0, 0, 0) :: (6, 3, 0, 0, 0) :: []) (by decide +kernel) h
  exact h2
theorem eg8_149_56_0 {n : Nat} {w : px_W} {r : Option Value × px_W} {x1 x2 s0 s1 : Int} (h : ec_E hb_X n 8 56 [(0, .inr (.inl 213)), (1, .inl x1), (2, .inl x2)] [.inl s1, .inl s0] w r) : True ∧ r = (ec_R (ec_xor s0 s1), w) ∧ ec_W hb_A w := by
  have h2 := hb_ecw ((1, 5, 0, 0, 0) :: (6, 3, 0, 0, 0) :: []) (by decide +kernel) h
  exact h2
/-! X0_clearTrace -/
theorem eg2_149_0_0 {n : Nat} {w : px_W} {r : Option Value × px_W} (h : ec_E hb_X n 2 0 [(0, .inr (.inl 213))] [] w r) : True ∧ r = (none, ec_pf (ec_pf w 149 0 0) 149 2 0) ∧ ec_W hb_A (ec_pf (ec_pf w 149 0 0) 149 2 0) := by
  have h2 := hb_ecw ((0, 1, 0, 0, 0) :: (0, 2, 0, 0, 0) :: (5, 4, 149, 0, 0) :: (0, 1, 0, 0, 0) :: (0, 2, 0, 0, 0) :: (5, 4, 149, 2, 0) :: (6, 4, 0, 0, 0) :: []) (by decide +kernel) h
  exact h2
/-! X0_become -/
theorem eg3_149_0_0 {n : Nat} {w : px_W} {r : Option Value × px_W} {x1 x2 x3 : Int} (h : ec_E hb_X n 3 0 [(0, .inr (.inl 213)), (1, .inl x1), (2, .inl x2), (3, .inl x3)] [] w r) : True ∧ r = (none, ec_pf (ec_pf (ec_pf w 149 3 x1) 149 4 x2) 149 5 x3) ∧ ec_W hb_A (ec_pf (ec_pf (ec_pf w 149 3 x1) 149 4 x2) 149 5 x3) := by
  have h2 := hb_ecw ((0, 1, 0, 0, 0) :: (0, 0, 1, 0, 0) :: (5, 4, 149, 3, 0) :: (0, 1, 0, 0, 0) :: (0, 0, 2, 0, 0) :: (5, 4, 149, 4, 0) :: (0, 1, 0, 0, 0) :: (0, 0, 3, 0, 0) :: (5, 4, 149, 5, 0) :: (6, 4, 0, 0, 0) :: []) (by decide +kernel) h
  exact h2
/-! X2_isOne -/
theorem eg23_0_0 {n : Nat} {w : px_W} {r : Option Value × px_W} {x0 : Int} (h : ec_E hb_X n 23 0 [(0, .inl x0)] [] w r) : ec_tw x0 < ec_tw 0 → True ∧ r = (ec_R 0, w) ∧ ec_W hb_A w := by
  have h2 := hb_ecw ((0, 0, 0, 0, 0) :: (4, 1, 2, 1, 0) :: (0, 2, 0, 0, 0) :: (6, 3, 0, 0, 0) :: []) (by decide +kernel) h
  exact h2
theorem eg23_0_1 {n : Nat} {w : px_W} {r : Option Value × px_W} {x0 : Int} (h : ec_E hb_X n 23 0 [(0, .inl x0)] [] w r) : ec_tw 0 ≤ ec_tw x0 → ec_tw 4 ≤ ec_tw x0 → True ∧ r = (ec_R 0, w) ∧ ec_W hb_A w := by
  have h2 := hb_ecw ((0, 0, 0, 0, 0) :: (4, 1, 3, 0, 0) :: (0, 0, 0, 0, 0) :: (0, 2, 0, 0, 4) :: (4, 2, 3, 1, 0) :: (0, 2, 0, 0, 0) :: (6, 3, 0, 0, 0) :: []) (by decide +kernel) h
  exact h2
theorem eg23_0_2 {n : Nat} {w : px_W} {r : Option Value × px_W} {x0 : Int} (h : ec_E hb_X n 23 0 [(0, .inl x0)] [] w r) : ec_tw 0 ≤ ec_tw x0 → ec_tw x0 < ec_tw 4 → True ∧ r = (ec_R 1, w) ∧ ec_W hb_A w := by
  have h2 := hb_ecw ((0, 0, 0, 0, 0) :: (4, 1, 3, 0, 0) :: (0, 0, 0, 0, 0) :: (0, 2, 0, 0, 4) :: (4, 2, 2, 0, 0) :: (0, 2, 0, 0, 1) :: (4, 0, 0, 0, 0) :: (6, 3, 0, 0, 0) :: []) (by decide +kernel) h
  exact h2
/-! X11_howManyOf -/
theorem eg177_0_0_0 {n : Nat} {w : px_W} {r : Option Value × px_W} {x1 : Int} (h : ec_E hb_X n 177 0 [(0, .inr (.inl 64)), (1, .inl x1)] [] w r) : ec_tw x1 = 0 → True ∧ r = (ec_R 8, w) ∧ ec_W hb_A w := by
  have h2 := hb_ecw ((0, 0, 1, 0, 0) :: (4, 3, 0, 0, 0) :: (0, 2, 0, 0, 8) :: (6, 3, 0, 0, 0) :: []) (by decide +kernel) h
  exact h2
theorem eg177_0_0_1 {n : Nat} {w : px_W} {r : Option Value × px_W} {x1 : Int} (h : ec_E hb_X n 177 0 [(0, .inr (.inl 64)), (1, .inl x1)] [] w r) : ec_tw x1 = 1 → True ∧ r = (ec_R (ec_fd w 15 10), w) ∧ ec_W hb_A w := by
  have h2 := hb_ecw ((0, 0, 1, 0, 0) :: (4, 3, 0, 0, 1) :: (0, 1, 0, 0, 0) :: (5, 1, 0, 79, 0) :: (5, 0, 15, 10, 0) :: (6, 3, 0, 0, 0) :: []) (by decide +kernel) h
  exact h2
theorem eg177_0_0_2 {n : Nat} {w : px_W} {r : Option Value × px_W} {x1 : Int} (h : ec_E hb_X n 177 0 [(0, .inr (.inl 64)), (1, .inl x1)] [] w r) : ec_tw x1 = 2 → True ∧ r = (ec_R (ec_fd w 29 7), w) ∧ ec_W hb_A w := by
  have h2 := hb_ecw ((0, 0, 1, 0, 0) :: (4, 3, 0, 0, 2) :: (0, 1, 0, 0, 0) :: (5, 1, 0, 93, 0) :: (5, 0, 29, 7, 0) :: (6, 3, 0, 0, 0) :: []) (by decide +kernel) h
  exact h2
theorem eg177_0_0_3 {n : Nat} {w : px_W} {r : Option Value × px_W} {x1 : Int} (h : ec_E hb_X n 177 0 [(0, .inr (.inl 64)), (1, .inl x1)] [] w r) : ec_tw x1 = 3 → True ∧ r = (ec_R (ec_fd w 29 9), w) ∧ ec_W hb_A w := by
  have h2 := hb_ecw ((0, 0, 1, 0, 0) :: (4, 3, 0, 0, 3) :: (0, 1, 0, 0, 0) :: (5, 1, 0, 93, 0) :: (5, 0, 29, 9, 0) :: (6, 3, 0, 0, 0) :: []) (by decide +kernel) h
  exact h2
theorem eg177_0_0_4 {n : Nat} {w : px_W} {r : Option Value × px_W} {x1 : Int} (h : ec_E hb_X n 177 0 [(0, .inr (.inl 64)), (1, .inl x1)] [] w r) : ec_tw x1 = 4 → True ∧ r = (ec_R (ec_fd w 39 1), w) ∧ ec_W hb_A w := by
  have h2 := hb_ecw ((0, 0, 1, 0, 0) :: (4, 3, 0, 0, 4) :: (0, 1, 0, 0, 0) :: (5, 1, 0, 103, 0) :: (5, 0, 39, 1, 0) :: (6, 3, 0, 0, 0) :: []) (by decide +kernel) h
  exact h2
theorem eg177_0_0_5 {n : Nat} {w : px_W} {r : Option Value × px_W} {x1 : Int} (h : ec_E hb_X n 177 0 [(0, .inr (.inl 64)), (1, .inl x1)] [] w r) : ec_tw x1 = 5 → True ∧ r = (ec_R 4, w) ∧ ec_W hb_A w := by
  have h2 := hb_ecw ((0, 0, 1, 0, 0) :: (4, 3, 0, 0, 5) :: (0, 2, 0, 0, 4) :: (6, 3, 0, 0, 0) :: []) (by decide +kernel) h
  exact h2
theorem eg177_0_0_6 {n : Nat} {w : px_W} {r : Option Value × px_W} {x1 : Int} (h : ec_E hb_X n 177 0 [(0, .inr (.inl 64)), (1, .inl x1)] [] w r) : (ec_tw x1 < 0 ∨ 0 + 5 < ec_tw x1) → True ∧ r = (ec_R 0, w) ∧ ec_W hb_A w := by
  have h2 := hb_ecw ((0, 0, 1, 0, 0) :: (4, 4, 5, 0, 0) :: (0, 2, 0, 0, 0) :: (6, 3, 0, 0, 0) :: []) (by decide +kernel) h
  exact h2
/-! X11_kindOn -/
theorem eg178_0_0_0 {n : Nat} {w : px_W} {r : Option Value × px_W} {x1 : Int} (h : ec_E hb_X n 178 0 [(0, .inr (.inl 64)), (1, .inl x1)] [] w r) : ec_tw (ec_rd w 144 (ec_tw x1)) ≠ ec_tw 5 → ((True ∧ 0 ≤ ec_tw x1 ∧ ec_tw x1 < 4) ∧ 0 ≤ ec_tw x1 ∧ ec_tw x1 < 4) ∧ ∃ (v : Option Value) (w1 : px_W), ec_E hb_X n 177 0 [(0, .inr (.inl 64)), (1, .inl (ec_rd w 144 (ec_tw x1)))] [] w (v, w1) ∧ ∀ zz : Int, v = ec_R zz → ec_W hb_A w1 → ec_E hb_X n 178 45 [(0, .inr (.inl 64)), (1, .inl x1), (2, .inl (ec_rd w 144 (ec_tw x1))), (3, .inl (ec_rd w 145 (ec_tw x1)))] [.inl zz, .inl 0, .inl (ec_rd w 145 (ec_tw x1))] w1 r := by
  have h2 := hb_ecw ((0, 1, 0, 0, 0) :: (5, 1, 0, 206, 0) :: (5, 1, 142, 208, 0) :: (0, 0, 1, 0, 0) :: (5, 2, 144, 0, 4) :: (0, 3, 2, 0, 0) :: (0, 0, 2, 0, 0) :: (0, 2, 0, 0, 5) :: (4, 2, 1, 1, 0) :: (0, 1, 0, 0, 0) :: (5, 1, 0, 206, 0) :: (5, 1, 142, 209, 0) :: (0, 0, 1, 0, 0) :: (5, 2, 145, 0, 4) :: (0, 3, 3, 0, 0) :: (0, 0, 3, 0, 0) :: (0, 2, 0, 0, 0) :: (0, 1, 0, 0, 0) :: (0, 0, 2, 0, 0) :: (6, 1, 177, 2, 45) :: []) (by decide +kernel) h
  exact h2
theorem eg178_0_0_1 {n : Nat} {w : px_W} {r : Option Value × px_W} {x1 : Int} (h : ec_E hb_X n 178 0 [(0, .inr (.inl 64)), (1, .inl x1)] [] w r) : ec_tw (ec_rd w 144 (ec_tw x1)) = ec_tw 5 → ((True ∧ 0 ≤ ec_tw x1 ∧ ec_tw x1 < 4) ∧ 0 ≤ ec_tw x1 ∧ ec_tw x1 < 4) ∧ r = (ec_R (10 + (ec_rd w 146 (ec_tw x1))), w) ∧ ec_W hb_A w := by
  have h2 := hb_ecw ((0, 1, 0, 0, 0) :: (5, 1, 0, 206, 0) :: (5, 1, 142, 208, 0) :: (0, 0, 1, 0, 0) :: (5, 2, 144, 0, 4) :: (0, 3, 2, 0, 0) :: (0, 0, 2, 0, 0) :: (0, 2, 0, 0, 5) :: (4, 2, 0, 0, 0) :: (0, 2, 0, 0, 10) :: (0, 1, 0, 0, 0) :: (5, 1, 0, 206, 0) :: (5, 1, 142, 210, 0) :: (0, 0, 1, 0, 0) :: (5, 2, 146, 0, 4) :: (1, 0, 0, 0, 0) :: (6, 3, 0, 0, 0) :: []) (by decide +kernel) h
  exact h2
theorem eg178_0_45_0 {n : Nat} {w : px_W} {r : Option Value × px_W} {x1 x2 x3 s0 s1 s2 : Int} (h : ec_E hb_X n 178 45 [(0, .inr (.inl 64)), (1, .inl x1), (2, .inl x2), (3, .inl x3)] [.inl s2, .inl s1, .inl s0] w r) : True ∧ ∃ (v : Option Value) (w1 : px_W), ec_E hb_X n 173 0 [(0, .inl s0), (1, .inl s1), (2, .inl (s2 - 1))] [] w (v, w1) ∧ ∀ zz : Int, v = ec_R zz → ec_W hb_A w1 → ec_E hb_X n 178 50 [(0, .inr (.inl 64)), (1, .inl x1), (2, .inl x2), (3, .inl x3)] [.inl zz] w1 r := by
  have h2 := hb_ecw ((0, 2, 0, 0, 1) :: (1, 1, 0, 0, 0) :: (6, 1, 173, 3, 50) :: []) (by decide +kernel) h
  exact h2
theorem eg178_0_50_0 {n : Nat} {w : px_W} {r : Option Value × px_W} {x1 x2 x3 s0 : Int} (h : ec_E hb_X n 178 50 [(0, .inr (.inl 64)), (1, .inl x1), (2, .inl x2), (3, .inl x3)] [.inl s0] w r) : ec_tw s0 ≠ ec_tw 0 → ec_tw x2 = 0 → True ∧ r = (ec_R 1, w) ∧ ec_W hb_A w := by
  have h2 := hb_ecw ((4, 1, 1, 1, 0) :: (0, 0, 2, 0, 0) :: (4, 3, 0, 0, 0) :: (0, 2, 0, 0, 1) :: (6, 3, 0, 0, 0) :: []) (by decide +kernel) h
  exact h2
theorem eg178_0_50_1 {n : Nat} {w : px_W} {r : Option Value × px_W} {x1 x2 x3 s0 : Int} (h : ec_E hb_X n 178 50 [(0, .inr (.inl 64)), (1, .inl x1), (2, .inl x2), (3, .inl x3)] [.inl s0] w r) : ec_tw s0 ≠ ec_tw 0 → ec_tw x2 = 1 → ec_tw (ec_rd w 27 (ec_tw x3)) ≠ ec_tw 1 → (True ∧ 0 ≤ ec_tw x3 ∧ ec_tw x3 < 8) ∧ r = (ec_R 2, w) ∧ ec_W hb_A w := by
  have h2 := hb_ecw ((4, 1, 1, 1, 0) :: (0, 0, 2, 0, 0) :: (4, 3, 0, 0, 1) :: (0, 1, 0, 0, 0) :: (5, 1, 0, 79, 0) :: (5, 1, 15, 91, 0) :: (0, 0, 3, 0, 0) :: (5, 2, 27, 0, 8) :: (0, 2, 0, 0, 1) :: (4, 2, 1, 1, 0) :: (0, 2, 0, 0, 2) :: (6, 3, 0, 0, 0) :: []) (by decide +kernel) h
  exact h2
theorem eg178_0_50_2 {n : Nat} {w : px_W} {r : Option Value × px_W} {x1 x2 x3 s0 : Int} (h : ec_E hb_X n 178 50 [(0, .inr (.inl 64)), (1, .inl x1), (2, .inl x2), (3, .inl x3)] [.inl s0] w r) : ec_tw s0 ≠ ec_tw 0 → ec_tw x2 = 1 → ec_tw (ec_rd w 27 (ec_tw x3)) = ec_tw 1 → (True ∧ 0 ≤ ec_tw x3 ∧ ec_tw x3 < 8) ∧ r = (ec_R 3, w) ∧ ec_W hb_A w := by
  have h2 := hb_ecw ((4, 1, 1, 1, 0) :: (0, 0, 2, 0, 0) :: (4, 3, 0, 0, 1) :: (0, 1, 0, 0, 0) :: (5, 1, 0, 79, 0) :: (5, 1, 15, 91, 0) :: (0, 0, 3, 0, 0) :: (5, 2, 27, 0, 8) :: (0, 2, 0, 0, 1) :: (4, 2, 0, 0, 0) :: (0, 2, 0, 0, 3) :: (4, 0, 0, 0, 0) :: (6, 3, 0, 0, 0) :: []) (by decide +kernel) h
  exact h2
theorem eg178_0_50_3 {n : Nat} {w : px_W} {r : Option Value × px_W} {x1 x2 x3 s0 : Int} (h : ec_E hb_X n 178 50 [(0, .inr (.inl 64)), (1, .inl x1), (2, .inl x2), (3, .inl x3)] [.inl s0] w r) : ec_tw s0 ≠ ec_tw 0 → ec_tw x2 = 2 → True ∧ r = (ec_R 4, w) ∧ ec_W hb_A w := by
  have h2 := hb_ecw ((4, 1, 1, 1, 0) :: (0, 0, 2, 0, 0) :: (4, 3, 0, 0, 2) :: (0, 2, 0, 0, 4) :: (6, 3, 0, 0, 0) :: []) (by decide +kernel) h
  exact h2
theorem eg178_0_50_4 {n : Nat} {w : px_W} {r : Option Value × px_W} {x1 x2 x3 s0 : Int} (h : ec_E hb_X n 178 50 [(0, .inr (.inl 64)), (1, .inl x1), (2, .inl x2), (3, .inl x3)] [.inl s0] w r) : ec_tw s0 ≠ ec_tw 0 → ec_tw x2 = 3 → True ∧ r = (ec_R 5, w) ∧ ec_W hb_A w := by
  have h2 := hb_ecw ((4, 1, 1, 1, 0) :: (0, 0, 2, 0, 0) :: (4, 3, 0, 0, 3) :: (0, 2, 0, 0, 5) :: (6, 3, 0, 0, 0) :: []) (by decide +kernel) h
  exact h2
theorem eg178_0_50_5 {n : Nat} {w : px_W} {r : Option Value × px_W} {x1 x2 x3 s0 : Int} (h : ec_E hb_X n 178 50 [(0, .inr (.inl 64)), (1, .inl x1), (2, .inl x2), (3, .inl x3)] [.inl s0] w r) : ec_tw s0 ≠ ec_tw 0 → ec_tw x2 = 4 → True ∧ r = (ec_R 6, w) ∧ ec_W hb_A w := by
  have h2 := hb_ecw ((4, 1, 1, 1, 0) :: (0, 0, 2, 0, 0) :: (4, 3, 0, 0, 4) :: (0, 2, 0, 0, 6) :: (6, 3, 0, 0, 0) :: []) (by decide +kernel) h
  exact h2
theorem eg178_0_50_6 {n : Nat} {w : px_W} {r : Option Value × px_W} {x1 x2 x3 s0 : Int} (h : ec_E hb_X n 178 50 [(0, .inr (.inl 64)), (1, .inl x1), (2, .inl x2), (3, .inl x3)] [.inl s0] w r) : ec_tw s0 ≠ ec_tw 0 → (ec_tw x2 < 0 ∨ 0 + 4 < ec_tw x2) → True ∧ r = (ec_R (-1), w) ∧ ec_W hb_A w := by
  have h2 := hb_ecw ((4, 1, 1, 1, 0) :: (0, 0, 2, 0, 0) :: (4, 4, 4, 0, 0) :: (0, 2, 0, 0, (-1)) :: (6, 3, 0, 0, 0) :: []) (by decide +kernel) h
  exact h2
theorem eg178_0_50_7 {n : Nat} {w : px_W} {r : Option Value × px_W} {x1 x2 x3 s0 : Int} (h : ec_E hb_X n 178 50 [(0, .inr (.inl 64)), (1, .inl x1), (2, .inl x2), (3, .inl x3)] [.inl s0] w r) : ec_tw s0 = ec_tw 0 → True ∧ r = (ec_R (-1), w) ∧ ec_W hb_A w := by
  have h2 := hb_ecw ((4, 1, 0, 0, 0) :: (0, 2, 0, 0, (-1)) :: (6, 3, 0, 0, 0) :: []) (by decide +kernel) h
  exact h2
/-! X11_amountOf -/
theorem eg180_0_0_0 {n : Nat} {w : px_W} {r : Option Value × px_W} {x1 x2 : Int} (h : ec_E hb_X n 180 0 [(0, .inr (.inl 64)), (1, .inl x1), (2, .inl x2)] [] w r) : ec_tw x1 = 0 → (True ∧ 0 ≤ ec_tw x2 ∧ ec_tw x2 < 8) ∧ r = (ec_R (ec_rd w 2 (ec_tw x2)), w) ∧ ec_W hb_A w := by
  have h2 := hb_ecw ((0, 0, 1, 0, 0) :: (4, 3, 0, 0, 0) :: (0, 1, 0, 0, 0) :: (5, 1, 0, 65, 0) :: (5, 1, 1, 66, 0) :: (0, 0, 2, 0, 0) :: (5, 2, 2, 0, 8) :: (6, 3, 0, 0, 0) :: []) (by decide +kernel) h
  exact h2
theorem eg180_0_0_1 {n : Nat} {w : px_W} {r : Option Value × px_W} {x1 x2 : Int} (h : ec_E hb_X n 180 0 [(0, .inr (.inl 64)), (1, .inl x1), (2, .inl x2)] [] w r) : ec_tw x1 = 1 → (True ∧ 0 ≤ ec_tw x2 ∧ ec_tw x2 < 8) ∧ r = (ec_R (ec_rd w 24 (ec_tw x2)), w) ∧ ec_W hb_A w := by
  have h2 := hb_ecw ((0, 0, 1, 0, 0) :: (4, 3, 0, 0, 1) :: (0, 1, 0, 0, 0) :: (5, 1, 0, 79, 0) :: (5, 1, 15, 88, 0) :: (0, 0, 2, 0, 0) :: (5, 2, 24, 0, 8) :: (6, 3, 0, 0, 0) :: []) (by decide +kernel) h
  exact h2
theorem eg180_0_0_2 {n : Nat} {w : px_W} {r : Option Value × px_W} {x1 x2 : Int} (h : ec_E hb_X n 180 0 [(0, .inr (.inl 64)), (1, .inl x1), (2, .inl x2)] [] w r) : ec_tw x1 = 2 → (True ∧ 0 ≤ ec_tw x2 ∧ ec_tw x2 < 10) ∧ r = (ec_R (ec_rd w 35 (ec_tw x2)), w) ∧ ec_W hb_A w := by
  have h2 := hb_ecw ((0, 0, 1, 0, 0) :: (4, 3, 0, 0, 2) :: (0, 1, 0, 0, 0) :: (5, 1, 0, 93, 0) :: (5, 1, 29, 99, 0) :: (0, 0, 2, 0, 0) :: (5, 2, 35, 0, 10) :: (6, 3, 0, 0, 0) :: []) (by decide +kernel) h
  exact h2
theorem eg180_0_0_3 {n : Nat} {w : px_W} {r : Option Value × px_W} {x1 x2 : Int} (h : ec_E hb_X n 180 0 [(0, .inr (.inl 64)), (1, .inl x1), (2, .inl x2)] [] w r) : ec_tw x1 = 3 → (True ∧ 0 ≤ ec_tw x2 ∧ ec_tw x2 < 8) ∧ r = (ec_R (ec_rd w 36 (ec_tw x2)), w) ∧ ec_W hb_A w := by
  have h2 := hb_ecw ((0, 0, 1, 0, 0) :: (4, 3, 0, 0, 3) :: (0, 1, 0, 0, 0) :: (5, 1, 0, 93, 0) :: (5, 1, 29, 100, 0) :: (0, 0, 2, 0, 0) :: (5, 2, 36, 0, 8) :: (6, 3, 0, 0, 0) :: []) (by decide +kernel) h
  exact h2
theorem eg180_0_0_4 {n : Nat} {w : px_W} {r : Option Value × px_W} {x1 x2 : Int} (h : ec_E hb_X n 180 0 [(0, .inr (.inl 64)), (1, .inl x1), (2, .inl x2)] [] w r) : ec_tw x1 = 4 → (True ∧ 0 ≤ ec_tw x2 ∧ ec_tw x2 < 12) ∧ r = (ec_R (ec_rd w 41 (ec_tw x2)), w) ∧ ec_W hb_A w := by
  have h2 := hb_ecw ((0, 0, 1, 0, 0) :: (4, 3, 0, 0, 4) :: (0, 1, 0, 0, 0) :: (5, 1, 0, 103, 0) :: (5, 1, 39, 105, 0) :: (0, 0, 2, 0, 0) :: (5, 2, 41, 0, 12) :: (6, 3, 0, 0, 0) :: []) (by decide +kernel) h
  exact h2
theorem eg180_0_0_5 {n : Nat} {w : px_W} {r : Option Value × px_W} {x1 x2 : Int} (h : ec_E hb_X n 180 0 [(0, .inr (.inl 64)), (1, .inl x1), (2, .inl x2)] [] w r) : (ec_tw x1 < 0 ∨ 0 + 4 < ec_tw x1) → True ∧ r = (ec_R 0, w) ∧ ec_W hb_A w := by
  have h2 := hb_ecw ((0, 0, 1, 0, 0) :: (4, 4, 4, 0, 0) :: (0, 2, 0, 0, 0) :: (6, 3, 0, 0, 0) :: []) (by decide +kernel) h
  exact h2
/-! X11_answerOf -/
theorem eg179_0_0_0 {n : Nat} {w : px_W} {r : Option Value × px_W} {x1 x2 : Int} (h : ec_E hb_X n 179 0 [(0, .inr (.inl 64)), (1, .inl x1), (2, .inl x2)] [] w r) : ec_tw x1 = 0 → True ∧ ∃ (v : Option Value) (w1 : px_W), ec_E hb_X n 5 0 [(0, .inr (.inl 213)), (1, .inl x2)] [] w (v, w1) ∧ ∀ zz : Int, v = ec_R zz → ec_W hb_A w1 → ec_E hb_X n 179 40 [(0, .inr (.inl 64)), (1, .inl x1), (2, .inl x2)] [.inl zz] w1 r := by
  have h2 := hb_ecw ((0, 0, 1, 0, 0) :: (4, 3, 0, 0, 0) :: (0, 1, 0, 0, 0) :: (5, 1, 0, 213, 0) :: (0, 0, 2, 0, 0) :: (6, 1, 5, 2, 40) :: []) (by decide +kernel) h
  exact h2
theorem eg179_0_0_1 {n : Nat} {w : px_W} {r : Option Value × px_W} {x1 x2 : Int} (h : ec_E hb_X n 179 0 [(0, .inr (.inl 64)), (1, .inl x1), (2, .inl x2)] [] w r) : ec_tw x1 = 1 → True ∧ ∃ (v : Option Value) (w1 : px_W), ec_E hb_X n 6 0 [(0, .inr (.inl 213)), (1, .inl x2)] [] w (v, w1) ∧ ∀ zz : Int, v = ec_R zz → ec_W hb_A w1 → ec_E hb_X n 179 49 [(0, .inr (.inl 64)), (1, .inl x1), (2, .inl x2)] [.inl zz] w1 r := by
  have h2 := hb_ecw ((0, 0, 1, 0, 0) :: (4, 3, 0, 0, 1) :: (0, 1, 0, 0, 0) :: (5, 1, 0, 213, 0) :: (0, 0, 2, 0, 0) :: (6, 1, 6, 2, 49) :: []) (by decide +kernel) h
  exact h2
theorem eg179_0_0_2 {n : Nat} {w : px_W} {r : Option Value × px_W} {x1 x2 : Int} (h : ec_E hb_X n 179 0 [(0, .inr (.inl 64)), (1, .inl x1), (2, .inl x2)] [] w r) : ec_tw x1 = 2 → True ∧ ∃ (v : Option Value) (w1 : px_W), ec_E hb_X n 7 0 [(0, .inr (.inl 213)), (1, .inl x2)] [] w (v, w1) ∧ ∀ zz : Int, v = ec_R zz → ec_W hb_A w1 → ec_E hb_X n 179 58 [(0, .inr (.inl 64)), (1, .inl x1), (2, .inl x2)] [.inl zz] w1 r := by
  have h2 := hb_ecw ((0, 0, 1, 0, 0) :: (4, 3, 0, 0, 2) :: (0, 1, 0, 0, 0) :: (5, 1, 0, 213, 0) :: (0, 0, 2, 0, 0) :: (6, 1, 7, 2, 58) :: []) (by decide +kernel) h
  exact h2
theorem eg179_0_0_3 {n : Nat} {w : px_W} {r : Option Value × px_W} {x1 x2 : Int} (h : ec_E hb_X n 179 0 [(0, .inr (.inl 64)), (1, .inl x1), (2, .inl x2)] [] w r) : ec_tw x1 = 3 → True ∧ ∃ (v : Option Value) (w1 : px_W), ec_E hb_X n 8 0 [(0, .inr (.inl 213)), (1, .inl x2)] [] w (v, w1) ∧ ∀ zz : Int, v = ec_R zz → ec_W hb_A w1 → ec_E hb_X n 179 84 [(0, .inr (.inl 64)), (1, .inl x1), (2, .inl x2)] [.inl zz] w1 r := by
  have h2 := hb_ecw ((0, 0, 1, 0, 0) :: (4, 3, 0, 0, 3) :: (0, 1, 0, 0, 0) :: (5, 1, 0, 213, 0) :: (0, 0, 2, 0, 0) :: (6, 1, 8, 2, 84) :: []) (by decide +kernel) h
  exact h2
theorem eg179_0_0_4 {n : Nat} {w : px_W} {r : Option Value × px_W} {x1 x2 : Int} (h : ec_E hb_X n 179 0 [(0, .inr (.inl 64)), (1, .inl x1), (2, .inl x2)] [] w r) : (ec_tw x1 < 0 ∨ 0 + 3 < ec_tw x1) → True ∧ r = (ec_R 0, w) ∧ ec_W hb_A w := by
  have h2 := hb_ecw ((0, 0, 1, 0, 0) :: (4, 4, 3, 0, 0) :: (0, 2, 0, 0, 0) :: (6, 3, 0, 0, 0) :: []) (by decide +kernel) h
  exact h2
theorem eg179_0_40_0 {n : Nat} {w : px_W} {r : Option Value × px_W} {x1 x2 s0 : Int} (h : ec_E hb_X n 179 40 [(0, .inr (.inl 64)), (1, .inl x1), (2, .inl x2)] [.inl s0] w r) : True ∧ r = (ec_R s0, w) ∧ ec_W hb_A w := by
  have h2 := hb_ecw ((6, 3, 0, 0, 0) :: []) (by decide +kernel) h
  exact h2
theorem eg179_0_49_0 {n : Nat} {w : px_W} {r : Option Value × px_W} {x1 x2 s0 : Int} (h : ec_E hb_X n 179 49 [(0, .inr (.inl 64)), (1, .inl x1), (2, .inl x2)] [.inl s0] w r) : True ∧ r = (ec_R s0, w) ∧ ec_W hb_A w := by
  have h2 := hb_ecw ((6, 3, 0, 0, 0) :: []) (by decide +kernel) h
  exact h2
theorem eg179_0_58_0 {n : Nat} {w : px_W} {r : Option Value × px_W} {x1 x2 s0 : Int} (h : ec_E hb_X n 179 58 [(0, .inr (.inl 64)), (1, .inl x1), (2, .inl x2)] [.inl s0] w r) : ec_tw (ec_fd w 149 2) = ec_tw 0 → True ∧ r = (ec_R s0, w) ∧ ec_W hb_A w := by
  have h2 := hb_ecw ((0, 3, 3, 0, 0) :: (0, 1, 0, 0, 0) :: (5, 1, 0, 213, 0) :: (5, 0, 149, 2, 0) :: (4, 1, 0, 1, 0) :: (0, 0, 3, 0, 0) :: (6, 3, 0, 0, 0) :: []) (by decide +kernel) h
  exact h2
theorem eg179_0_58_1 {n : Nat} {w : px_W} {r : Option Value × px_W} {x1 x2 s0 : Int} (h : ec_E hb_X n 179 58 [(0, .inr (.inl 64)), (1, .inl x1), (2, .inl x2)] [.inl s0] w r) : ec_tw (ec_fd w 149 2) ≠ ec_tw 0 → True ∧ r = (ec_R (-15), w) ∧ ec_W hb_A w := by
  have h2 := hb_ecw ((0, 3, 3, 0, 0) :: (0, 1, 0, 0, 0) :: (5, 1, 0, 213, 0) :: (5, 0, 149, 2, 0) :: (4, 1, 1, 0, 0) :: (0, 2, 0, 0, (-15)) :: (4, 0, 0, 0, 0) :: (6, 3, 0, 0, 0) :: []) (by decide +kernel) h
  exact h2
theorem eg179_0_84_0 {n : Nat} {w : px_W} {r : Option Value × px_W} {x1 x2 s0 : Int} (h : ec_E hb_X n 179 84 [(0, .inr (.inl 64)), (1, .inl x1), (2, .inl x2)] [.inl s0] w r) : True ∧ r = (ec_R s0, w) ∧ ec_W hb_A w := by
  have h2 := hb_ecw ((6, 3, 0, 0, 0) :: []) (by decide +kernel) h
  exact h2
/-! X11_act -/
theorem eg168_0_0_0 {n : Nat} {w : px_W} {r : Option Value × px_W} {x1 x2 x3 : Int} (h : ec_E hb_X n 168 0 [(0, .inr (.inl 64)), (1, .inl x1), (2, .inl x2), (3, .inl x3)] [] w r) : True ∧ ∃ (v : Option Value) (w1 : px_W), ec_E hb_X n 2 0 [(0, .inr (.inl 213))] [] w (v, w1) ∧ (v = none → ec_W hb_A w1 → ec_E hb_X n 168 7 [(0, .inr (.inl 64)), (1, .inl x1), (2, .inl x2), (3, .inl x3)] [] w1 r) := by
  have h2 := hb_ecw ((0, 1, 0, 0, 0) :: (5, 1, 0, 213, 0) :: (6, 2, 2, 1, 7) :: []) (by decide +kernel) h
  exact h2
theorem eg168_0_7_0 {n : Nat} {w : px_W} {r : Option Value × px_W} {x1 x2 x3 : Int} (h : ec_E hb_X n 168 7 [(0, .inr (.inl 64)), (1, .inl x1), (2, .inl x2), (3, .inl x3)] [] w r) : True ∧ ∃ (v : Option Value) (w1 : px_W), ec_E hb_X n 23 0 [(0, .inl x1)] [] w (v, w1) ∧ ∀ zz : Int, v = ec_R zz → ec_W hb_A w1 → ec_E hb_X n 168 11 [(0, .inr (.inl 64)), (1, .inl x1), (2, .inl x2), (3, .inl x3)] [.inl zz] w1 r := by
  have h2 := hb_ecw ((0, 0, 1, 0, 0) :: (6, 1, 23, 1, 11) :: []) (by decide +kernel) h
  exact h2
theorem eg168_0_11_0 {n : Nat} {w : px_W} {r : Option Value × px_W} {x1 x2 x3 s0 : Int} (h : ec_E hb_X n 168 11 [(0, .inr (.inl 64)), (1, .inl x1), (2, .inl x2), (3, .inl x3)] [.inl s0] w r) : ec_tw s0 = ec_tw 0 → True ∧ r = (ec_R 0, w) ∧ ec_W hb_A w := by
  have h2 := hb_ecw ((4, 1, 0, 1, 0) :: (0, 2, 0, 0, 0) :: (6, 3, 0, 0, 0) :: []) (by decide +kernel) h
  exact h2
theorem eg168_0_11_1 {n : Nat} {w : px_W} {r : Option Value × px_W} {x1 x2 x3 s0 : Int} (h : ec_E hb_X n 168 11 [(0, .inr (.inl 64)), (1, .inl x1), (2, .inl x2), (3, .inl x3)] [.inl s0] w r) : ec_tw s0 ≠ ec_tw 0 → True ∧ ∃ (v : Option Value) (w1 : px_W), ec_E hb_X n 173 0 [(0, .inl x2), (1, .inl 0), (2, .inl 3)] [] w (v, w1) ∧ ∀ zz : Int, v = ec_R zz → ec_W hb_A w1 → ec_E hb_X n 168 20 [(0, .inr (.inl 64)), (1, .inl x1), (2, .inl x2), (3, .inl x3)] [.inl zz] w1 r := by
  have h2 := hb_ecw ((4, 1, 1, 0, 0) :: (0, 0, 2, 0, 0) :: (0, 2, 0, 0, 0) :: (0, 2, 0, 0, 3) :: (6, 1, 173, 3, 20) :: []) (by decide +kernel) h
  exact h2
theorem eg168_0_20_0 {n : Nat} {w : px_W} {r : Option Value × px_W} {x1 x2 x3 s0 : Int} (h : ec_E hb_X n 168 20 [(0, .inr (.inl 64)), (1, .inl x1), (2, .inl x2), (3, .inl x3)] [.inl s0] w r) : ec_tw s0 ≠ ec_tw 0 → True ∧ ∃ (v : Option Value) (w1 : px_W), ec_E hb_X n 178 0 [(0, .inr (.inl 64)), (1, .inl x1)] [] w (v, w1) ∧ ∀ zz : Int, v = ec_R zz → ec_W hb_A w1 → ec_E hb_X n 168 30 [(0, .inr (.inl 64)), (1, .inl x1), (2, .inl x2), (3, .inl x3)] [.inl zz] w1 r := by
  have h2 := hb_ecw ((4, 1, 1, 1, 0) :: (0, 1, 0, 0, 0) :: (0, 0, 1, 0, 0) :: (6, 1, 178, 2, 30) :: []) (by decide +kernel) h
  exact h2
theorem eg168_0_20_1 {n : Nat} {w : px_W} {r : Option Value × px_W} {x1 x2 x3 s0 : Int} (h : ec_E hb_X n 168 20 [(0, .inr (.inl 64)), (1, .inl x1), (2, .inl x2), (3, .inl x3)] [.inl s0] w r) : ec_tw s0 = ec_tw 0 → True ∧ r = (ec_R 0, w) ∧ ec_W hb_A w := by
  have h2 := hb_ecw ((4, 1, 0, 0, 0) :: (0, 2, 0, 0, 0) :: (6, 3, 0, 0, 0) :: []) (by decide +kernel) h
  exact h2
theorem eg168_0_30_0 {n : Nat} {w : px_W} {r : Option Value × px_W} {x1 x2 x3 s0 : Int} (h : ec_E hb_X n 168 30 [(0, .inr (.inl 64)), (1, .inl x1), (2, .inl x2), (3, .inl x3)] [.inl s0] w r) : ec_tw s0 = ec_tw (-1) → True ∧ r = (ec_R 0, w) ∧ ec_W hb_A w := by
  have h2 := hb_ecw ((0, 3, 4, 0, 0) :: (0, 0, 4, 0, 0) :: (0, 2, 0, 0, (-1)) :: (4, 2, 0, 1, 0) :: (0, 2, 0, 0, 0) :: (6, 3, 0, 0, 0) :: []) (by decide +kernel) h
  exact h2
theorem eg168_0_30_1 {n : Nat} {w : px_W} {r : Option Value × px_W} {x1 x2 x3 s0 : Int} (h : ec_E hb_X n 168 30 [(0, .inr (.inl 64)), (1, .inl x1), (2, .inl x2), (3, .inl x3)] [.inl s0] w r) : ec_tw s0 ≠ ec_tw (-1) → ec_tw s0 < ec_tw 10 → ((True ∧ 0 ≤ ec_tw x1 ∧ ec_tw x1 < 4) ∧ 0 ≤ ec_tw x1 ∧ ec_tw x1 < 4) ∧ ∃ (v : Option Value) (w1 : px_W), ec_E hb_X n 180 0 [(0, .inr (.inl 64)), (1, .inl (ec_rd w 144 (ec_tw x1))), (2, .inl (ec_rd w 145 (ec_tw x1)))] [] w (v, w1) ∧ ∀ zz : Int, v = ec_R zz → ec_W hb_A w1 → ec_E hb_X n 168 81 [(0, .inr (.inl 64)), (1, .inl x1), (2, .inl x2), (3, .inl x3), (4, .inl s0), (5, .inl (ec_rd w 145 (ec_tw x1)))] [.inl zz, .inl (ec_rd w 145 (ec_tw x1)), .inl s0, .inr (.inl 213)] w1 r := by
  have h2 := hb_ecw ((0, 3, 4, 0, 0) :: (0, 0, 4, 0, 0) :: (0, 2, 0, 0, (-1)) :: (4, 2, 1, 0, 0) :: (0, 0, 4, 0, 0) :: (0, 2, 0, 0, 10) :: (4, 2, 2, 1, 0) :: (0, 1, 0, 0, 0) :: (5, 1, 0, 206, 0) :: (5, 1, 142, 209, 0) :: (0, 0, 1, 0, 0) :: (5, 2, 145, 0, 4) :: (0, 3, 5, 0, 0) :: (0, 1, 0, 0, 0) :: (5, 1, 0, 213, 0) :: (0, 0, 4, 0, 0) :: (0, 0, 5, 0, 0) :: (0, 1, 0, 0, 0) :: (0, 1, 0, 0, 0) :: (5, 1, 0, 206, 0) :: (5, 1, 142, 208, 0) :: (0, 0, 1, 0, 0) :: (5, 2, 144, 0, 4) :: (0, 0, 5, 0, 0) :: (6, 1, 180, 3, 81) :: []) (by decide +kernel) h
  exact h2
theorem eg168_0_30_2 {n : Nat} {w : px_W} {r : Option Value × px_W} {x1 x2 x3 s0 : Int} (h : ec_E hb_X n 168 30 [(0, .inr (.inl 64)), (1, .inl x1), (2, .inl x2), (3, .inl x3)] [.inl s0] w r) : ec_tw s0 ≠ ec_tw (-1) → ec_tw 10 ≤ ec_tw s0 → True ∧ r = (ec_R 0, w) ∧ ec_W hb_A w := by
  have h2 := hb_ecw ((0, 3, 4, 0, 0) :: (0, 0, 4, 0, 0) :: (0, 2, 0, 0, (-1)) :: (4, 2, 1, 0, 0) :: (0, 0, 4, 0, 0) :: (0, 2, 0, 0, 10) :: (4, 2, 3, 0, 0) :: (0, 2, 0, 0, 0) :: (6, 3, 0, 0, 0) :: []) (by decide +kernel) h
  exact h2
theorem eg168_0_81_0 {n : Nat} {w : px_W} {r : Option Value × px_W} {x1 x2 x3 x4 x5 s1 s2 s3 : Int} (h : ec_E hb_X n 168 81 [(0, .inr (.inl 64)), (1, .inl x1), (2, .inl x2), (3, .inl x3), (4, .inl x4), (5, .inl x5)] [.inl s3, .inl s2, .inl s1, .inr (.inl 213)] w r) : True ∧ ∃ (v : Option Value) (w1 : px_W), ec_E hb_X n 3 0 [(0, .inr (.inl 213)), (1, .inl s1), (2, .inl s2), (3, .inl s3)] [] w (v, w1) ∧ (v = none → ec_W hb_A w1 → ec_E hb_X n 168 84 [(0, .inr (.inl 64)), (1, .inl x1), (2, .inl x2), (3, .inl x3), (4, .inl x4), (5, .inl x5)] [] w1 r) := by
  have h2 := hb_ecw ((6, 2, 3, 4, 84) :: []) (by decide +kernel) h
  exact h2
theorem eg168_0_84_0 {n : Nat} {w : px_W} {r : Option Value × px_W} {x1 x2 x3 x4 x5 : Int} (h : ec_E hb_X n 168 84 [(0, .inr (.inl 64)), (1, .inl x1), (2, .inl x2), (3, .inl x3), (4, .inl x4), (5, .inl x5)] [] w r) : True ∧ ∃ (v : Option Value) (w1 : px_W), ec_E hb_X n 179 0 [(0, .inr (.inl 64)), (1, .inl x2), (2, .inl x3)] [] w (v, w1) ∧ ∀ zz : Int, v = ec_R zz → ec_W hb_A w1 → ec_E hb_X n 168 90 [(0, .inr (.inl 64)), (1, .inl x1), (2, .inl x2), (3, .inl x3), (4, .inl x4), (5, .inl x5)] [.inl zz] w1 r := by
  have h2 := hb_ecw ((0, 1, 0, 0, 0) :: (0, 0, 2, 0, 0) :: (0, 0, 3, 0, 0) :: (6, 1, 179, 3, 90) :: []) (by decide +kernel) h
  exact h2
theorem eg168_0_90_0 {n : Nat} {w : px_W} {r : Option Value × px_W} {x1 x2 x3 x4 x5 s0 : Int} (h : ec_E hb_X n 168 90 [(0, .inr (.inl 64)), (1, .inl x1), (2, .inl x2), (3, .inl x3), (4, .inl x4), (5, .inl x5)] [.inl s0] w r) : True ∧ r = (ec_R s0, w) ∧ ec_W hb_A w := by
  have h2 := hb_ecw ((6, 3, 0, 0, 0) :: []) (by decide +kernel) h
  exact h2
/-! X11_trace -/
theorem eg169_0_0_0 {n : Nat} {w : px_W} {r : Option Value × px_W} {x1 : Int} (h : ec_E hb_X n 169 0 [(0, .inr (.inl 64)), (1, .inl x1)] [] w r) : True ∧ ∃ (v : Option Value) (w1 : px_W), ec_E hb_X n 173 0 [(0, .inl x1), (1, .inl 0), (2, .inl ((ec_fd w 149 0) - 1))] [] w (v, w1) ∧ ∀ zz : Int, v = ec_R zz → ec_W hb_A w1 → ec_E hb_X n 169 14 [(0, .inr (.inl 64)), (1, .inl x1)] [.inl zz] w1 r := by
  have h2 := hb_ecw ((0, 0, 1, 0, 0) :: (0, 2, 0, 0, 0) :: (0, 1, 0, 0, 0) :: (5, 1, 0, 213, 0) :: (5, 0, 149, 0, 0) :: (0, 2, 0, 0, 1) :: (1, 1, 0, 0, 0) :: (6, 1, 173, 3, 14) :: []) (by decide +kernel) h
  exact h2
theorem eg169_0_14_0 {n : Nat} {w : px_W} {r : Option Value × px_W} {x1 s0 : Int} (h : ec_E hb_X n 169 14 [(0, .inr (.inl 64)), (1, .inl x1)] [.inl s0] w r) : ec_tw s0 = ec_tw 0 → True ∧ r = (ec_R (-3), w) ∧ ec_W hb_A w := by
  have h2 := hb_ecw ((4, 1, 0, 1, 0) :: (0, 2, 0, 0, (-3)) :: (6, 3, 0, 0, 0) :: []) (by decide +kernel) h
  exact h2
theorem eg169_0_14_1 {n : Nat} {w : px_W} {r : Option Value × px_W} {x1 s0 : Int} (h : ec_E hb_X n 169 14 [(0, .inr (.inl 64)), (1, .inl x1)] [.inl s0] w r) : ec_tw s0 ≠ ec_tw 0 → (True ∧ 0 ≤ ec_tw x1 ∧ ec_tw x1 < 30) ∧ r = (ec_R (ec_rd w 150 (ec_tw x1)), w) ∧ ec_W hb_A w := by
  have h2 := hb_ecw ((4, 1, 1, 0, 0) :: (0, 1, 0, 0, 0) :: (5, 1, 0, 213, 0) :: (5, 1, 149, 214, 0) :: (0, 0, 1, 0, 0) :: (5, 2, 150, 0, 30) :: (4, 0, 0, 0, 0) :: (6, 3, 0, 0, 0) :: []) (by decide +kernel) h
  exact h2
/-! X12_begins -/
theorem eg280_151_0_0 {n : Nat} {w : px_W} {r : Option Value × px_W} {x1 : Int} (h : ec_E hb_X n 280 0 [(0, .inr (.inl 215)), (1, .inl x1)] [] w r) : ec_tw 30 ≤ ec_tw (ec_fd w 151 47) → True ∧ ec_E hb_X n 280 29 [(0, .inr (.inl 215)), (1, .inl x1)] [] w r := by
  have h2 := hb_ecw ((0, 1, 0, 0, 0) :: (5, 0, 151, 47, 0) :: (0, 2, 0, 0, 30) :: (4, 2, 3, 1, 0) :: (6, 0, 29, 2, 0) :: []) (by decide +kernel) h
  exact h2
theorem eg280_151_0_1 {n : Nat} {w : px_W} {r : Option Value × px_W} {x1 : Int} (h : ec_E hb_X n 280 0 [(0, .inr (.inl 215)), (1, .inl x1)] [] w r) : ec_tw (ec_fd w 151 47) < ec_tw 30 → (True ∧ 0 ≤ ec_tw (ec_fd w 151 47) ∧ ec_tw (ec_fd w 151 47) < 30) ∧ ec_E hb_X n 280 29 [(0, .inr (.inl 215)), (1, .inl x1)] [] (ec_pf (ec_wr w 178 (ec_tw (ec_fd w 151 47)) x1) 151 47 ((ec_fd (ec_wr w 178 (ec_tw (ec_fd w 151 47)) x1) 151 47) + 1)) r := by
  have h2 := hb_ecw ((0, 1, 0, 0, 0) :: (5, 0, 151, 47, 0) :: (0, 2, 0, 0, 30) :: (4, 2, 2, 0, 0) :: (0, 1, 0, 0, 0) :: (5, 1, 151, 242, 0) :: (0, 1, 0, 0, 0) :: (5, 0, 151, 47, 0) :: (0, 0, 1, 0, 0) :: (5, 3, 178, 0, 30) :: (0, 1, 0, 0, 0) :: (3, 0, 0, 0, 0) :: (5, 0, 151, 47, 0) :: (0, 2, 0, 0, 1) :: (1, 0, 0, 0, 0) :: (5, 4, 151, 47, 0) :: (6, 0, 29, 2, 0) :: []) (by decide +kernel) h
  exact h2
theorem eg280_151_29_0 {n : Nat} {w : px_W} {r : Option Value × px_W} {x1 : Int} (h : ec_E hb_X n 280 29 [(0, .inr (.inl 215)), (1, .inl x1)] [] w r) : True ∧ r = (none, w) ∧ ec_W hb_A w := by
  have h2 := hb_ecw ((6, 4, 0, 0, 0) :: []) (by decide +kernel) h
  exact h2
/-! X12_thingFills -/
theorem eg281_151_0_0 {n : Nat} {w : px_W} {r : Option Value × px_W} {x1 : Int} (h : ec_E hb_X n 281 0 [(0, .inr (.inl 215)), (1, .inl x1)] [] w r) : True ∧ ∃ (v : Option Value) (w1 : px_W), ec_E hb_X n 280 0 [(0, .inr (.inl 215)), (1, .inl 10)] [] w (v, w1) ∧ (v = none → ec_W hb_A w1 → ec_E hb_X n 281 6 [(0, .inr (.inl 215)), (1, .inl x1)] [] w1 r) := by
  have h2 := hb_ecw ((0, 1, 0, 0, 0) :: (0, 2, 0, 0, 10) :: (6, 2, 280, 2, 6) :: []) (by decide +kernel) h
  exact h2
theorem eg281_151_6_0 {n : Nat} {w : px_W} {r : Option Value × px_W} {x1 : Int} (h : ec_E hb_X n 281 6 [(0, .inr (.inl 215)), (1, .inl x1)] [] w r) : True ∧ r = (ec_R (x1 + (ec_fd w 151 50)), w) ∧ ec_W hb_A w := by
  have h2 := hb_ecw ((0, 0, 1, 0, 0) :: (0, 1, 0, 0, 0) :: (5, 0, 151, 50, 0) :: (1, 0, 0, 0, 0) :: (6, 3, 0, 0, 0) :: []) (by decide +kernel) h
  exact h2
/-! X12_fills -/
theorem eg282_151_0_0 {n : Nat} {w : px_W} {r : Option Value × px_W} {x1 : Int} (h : ec_E hb_X n 282 0 [(0, .inr (.inl 215)), (1, .inl x1)] [] w r) : ec_tw (ec_fd w 151 48) ≠ ec_tw 1 → ec_tw (ec_fd w 151 48) ≠ ec_tw 3 → True ∧ ∃ (v : Option Value) (w1 : px_W), ec_E hb_X n 281 0 [(0, .inr (.inl 215)), (1, .inl x1)] [] w (v, w1) ∧ ∀ zz : Int, v = ec_R zz → ec_W hb_A w1 → ec_E hb_X n 282 50 [(0, .inr (.inl 215)), (1, .inl x1)] [.inl zz] w1 r := by
  have h2 := hb_ecw ((0, 1, 0, 0, 0) :: (5, 0, 151, 48, 0) :: (0, 2, 0, 0, 1) :: (4, 2, 1, 1, 0) :: (0, 1, 0, 0, 0) :: (5, 0, 151, 48, 0) :: (0, 2, 0, 0, 3) :: (4, 2, 1, 1, 0) :: (0, 1, 0, 0, 0) :: (0, 0, 1, 0, 0) :: (6, 1, 281, 2, 50) :: []) (by decide +kernel) h
  exact h2
theorem eg282_151_0_1 {n : Nat} {w : px_W} {r : Option Value × px_W} {x1 : Int} (h : ec_E hb_X n 282 0 [(0, .inr (.inl 215)), (1, .inl x1)] [] w r) : ec_tw (ec_fd w 151 48) ≠ ec_tw 1 → ec_tw (ec_fd w 151 48) = ec_tw 3 → True ∧ ∃ (v : Option Value) (w1 : px_W), ec_E hb_X n 280 0 [(0, .inr (.inl 215)), (1, .inl 40)] [] w (v, w1) ∧ (v = none → ec_W hb_A w1 → ec_E hb_X n 282 37 [(0, .inr (.inl 215)), (1, .inl x1)] [] w1 r) := by
  have h2 := hb_ecw ((0, 1, 0, 0, 0) :: (5, 0, 151, 48, 0) :: (0, 2, 0, 0, 1) :: (4, 2, 1, 1, 0) :: (0, 1, 0, 0, 0) :: (5, 0, 151, 48, 0) :: (0, 2, 0, 0, 3) :: (4, 2, 0, 0, 0) :: (0, 1, 0, 0, 0) :: (0, 2, 0, 0, 40) :: (6, 2, 280, 2, 37) :: []) (by decide +kernel) h
  exact h2
theorem eg282_151_0_2 {n : Nat} {w : px_W} {r : Option Value × px_W} {x1 : Int} (h : ec_E hb_X n 282 0 [(0, .inr (.inl 215)), (1, .inl x1)] [] w r) : ec_tw (ec_fd w 151 48) = ec_tw 1 → True ∧ ∃ (v : Option Value) (w1 : px_W), ec_E hb_X n 280 0 [(0, .inr (.inl 215)), (1, .inl 20)] [] w (v, w1) ∧ (v = none → ec_W hb_A w1 → ec_E hb_X n 282 14 [(0, .inr (.inl 215)), (1, .inl x1)] [] w1 r) := by
  have h2 := hb_ecw ((0, 1, 0, 0, 0) :: (5, 0, 151, 48, 0) :: (0, 2, 0, 0, 1) :: (4, 2, 0, 0, 0) :: (0, 1, 0, 0, 0) :: (0, 2, 0, 0, 20) :: (6, 2, 280, 2, 14) :: []) (by decide +kernel) h
  exact h2
theorem eg282_151_50_0 {n : Nat} {w : px_W} {r : Option Value × px_W} {x1 s0 : Int} (h : ec_E hb_X n 282 50 [(0, .inr (.inl 215)), (1, .inl x1)] [.inl s0] w r) : True ∧ r = (ec_R s0, w) ∧ ec_W hb_A w := by
  have h2 := hb_ecw ((6, 3, 0, 0, 0) :: []) (by decide +kernel) h
  exact h2
theorem eg282_151_37_0 {n : Nat} {w : px_W} {r : Option Value × px_W} {x1 : Int} (h : ec_E hb_X n 282 37 [(0, .inr (.inl 215)), (1, .inl x1)] [] w r) : True ∧ ∃ (v : Option Value) (w1 : px_W), ec_E hb_X n 281 0 [(0, .inr (.inl 215)), (1, .inl x1)] [] w (v, w1) ∧ ∀ zz : Int, v = ec_R zz → ec_W hb_A w1 → ec_E hb_X n 282 42 [(0, .inr (.inl 215)), (1, .inl x1)] [.inl zz] w1 r := by
  have h2 := hb_ecw ((0, 1, 0, 0, 0) :: (0, 0, 1, 0, 0) :: (6, 1, 281, 2, 42) :: []) (by decide +kernel) h
  exact h2
theorem eg282_151_14_0 {n : Nat} {w : px_W} {r : Option Value × px_W} {x1 : Int} (h : ec_E hb_X n 282 14 [(0, .inr (.inl 215)), (1, .inl x1)] [] w r) : True ∧ ∃ (v : Option Value) (w1 : px_W), ec_E hb_X n 281 0 [(0, .inr (.inl 215)), (1, .inl x1)] [] w (v, w1) ∧ ∀ zz : Int, v = ec_R zz → ec_W hb_A w1 → ec_E hb_X n 282 19 [(0, .inr (.inl 215)), (1, .inl x1)] [.inl zz] w1 r := by
  have h2 := hb_ecw ((0, 1, 0, 0, 0) :: (0, 0, 1, 0, 0) :: (6, 1, 281, 2, 19) :: []) (by decide +kernel) h
  exact h2
theorem eg282_151_42_0 {n : Nat} {w : px_W} {r : Option Value × px_W} {x1 s0 : Int} (h : ec_E hb_X n 282 42 [(0, .inr (.inl 215)), (1, .inl x1)] [.inl s0] w r) : True ∧ r = (ec_R (s0 * 3), w) ∧ ec_W hb_A w := by
  have h2 := hb_ecw ((0, 2, 0, 0, 3) :: (1, 2, 0, 0, 0) :: (6, 3, 0, 0, 0) :: []) (by decide +kernel) h
  exact h2
theorem eg282_151_19_0 {n : Nat} {w : px_W} {r : Option Value × px_W} {x1 s0 : Int} (h : ec_E hb_X n 282 19 [(0, .inr (.inl 215)), (1, .inl x1)] [.inl s0] w r) : True ∧ r = (ec_R (s0 - 40), w) ∧ ec_W hb_A w := by
  have h2 := hb_ecw ((0, 2, 0, 0, 40) :: (1, 1, 0, 0, 0) :: (6, 3, 0, 0, 0) :: []) (by decide +kernel) h
  exact h2
/-! X12_thingCarries -/
theorem eg283_151_0_0 {n : Nat} {w : px_W} {r : Option Value × px_W} {x1 : Int} (h : ec_E hb_X n 283 0 [(0, .inr (.inl 215)), (1, .inl x1)] [] w r) : True ∧ ∃ (v : Option Value) (w1 : px_W), ec_E hb_X n 280 0 [(0, .inr (.inl 215)), (1, .inl 11)] [] w (v, w1) ∧ (v = none → ec_W hb_A w1 → ec_E hb_X n 283 6 [(0, .inr (.inl 215)), (1, .inl x1)] [] w1 r) := by
  have h2 := hb_ecw ((0, 1, 0, 0, 0) :: (0, 2, 0, 0, 11) :: (6, 2, 280, 2, 6) :: []) (by decide +kernel) h
  exact h2
theorem eg283_151_6_0 {n : Nat} {w : px_W} {r : Option Value × px_W} {x1 : Int} (h : ec_E hb_X n 283 6 [(0, .inr (.inl 215)), (1, .inl x1)] [] w r) : True ∧ ∃ (v : Option Value) (w1 : px_W), ec_E hb_X n 282 0 [(0, .inr (.inl 215)), (1, .inl x1)] [] w (v, w1) ∧ ∀ zz : Int, v = ec_R zz → ec_W hb_A w1 → ec_E hb_X n 283 11 [(0, .inr (.inl 215)), (1, .inl x1)] [.inl zz] w1 r := by
  have h2 := hb_ecw ((0, 1, 0, 0, 0) :: (0, 0, 1, 0, 0) :: (6, 1, 282, 2, 11) :: []) (by decide +kernel) h
  exact h2
theorem eg283_151_11_0 {n : Nat} {w : px_W} {r : Option Value × px_W} {x1 s0 : Int} (h : ec_E hb_X n 283 11 [(0, .inr (.inl 215)), (1, .inl x1)] [.inl s0] w r) : True ∧ r = (ec_R ((s0 * 2) - (ec_fd w 151 49)), w) ∧ ec_W hb_A w := by
  have h2 := hb_ecw ((0, 2, 0, 0, 2) :: (1, 2, 0, 0, 0) :: (0, 1, 0, 0, 0) :: (5, 0, 151, 49, 0) :: (1, 1, 0, 0, 0) :: (6, 3, 0, 0, 0) :: []) (by decide +kernel) h
  exact h2
/-! X12_carries -/
theorem eg284_151_0_0 {n : Nat} {w : px_W} {r : Option Value × px_W} {x1 : Int} (h : ec_E hb_X n 284 0 [(0, .inr (.inl 215)), (1, .inl x1)] [] w r) : ec_tw (ec_fd w 151 48) = 2 → True ∧ ∃ (v : Option Value) (w1 : px_W), ec_E hb_X n 280 0 [(0, .inr (.inl 215)), (1, .inl 30)] [] w (v, w1) ∧ (v = none → ec_W hb_A w1 → ec_E hb_X n 284 46 [(0, .inr (.inl 215)), (1, .inl x1)] [] w1 r) := by
  have h2 := hb_ecw ((0, 1, 0, 0, 0) :: (5, 0, 151, 48, 0) :: (4, 3, 0, 0, 2) :: (0, 1, 0, 0, 0) :: (0, 2, 0, 0, 30) :: (6, 2, 280, 2, 46) :: []) (by decide +kernel) h
  exact h2
theorem eg284_151_0_1 {n : Nat} {w : px_W} {r : Option Value × px_W} {x1 : Int} (h : ec_E hb_X n 284 0 [(0, .inr (.inl 215)), (1, .inl x1)] [] w r) : ec_tw (ec_fd w 151 48) = 3 → True ∧ ∃ (v : Option Value) (w1 : px_W), ec_E hb_X n 280 0 [(0, .inr (.inl 215)), (1, .inl 30)] [] w (v, w1) ∧ (v = none → ec_W hb_A w1 → ec_E hb_X n 284 46 [(0, .inr (.inl 215)), (1, .inl x1)] [] w1 r) := by
  have h2 := hb_ecw ((0, 1, 0, 0, 0) :: (5, 0, 151, 48, 0) :: (4, 3, 0, 0, 3) :: (0, 1, 0, 0, 0) :: (0, 2, 0, 0, 30) :: (6, 2, 280, 2, 46) :: []) (by decide +kernel) h
  exact h2
theorem eg284_151_0_2 {n : Nat} {w : px_W} {r : Option Value × px_W} {x1 : Int} (h : ec_E hb_X n 284 0 [(0, .inr (.inl 215)), (1, .inl x1)] [] w r) : ec_tw (ec_fd w 151 48) = 4 → True ∧ ∃ (v : Option Value) (w1 : px_W), ec_E hb_X n 283 0 [(0, .inr (.inl 215)), (1, .inl x1)] [] w (v, w1) ∧ ∀ zz : Int, v = ec_R zz → ec_W hb_A w1 → ec_E hb_X n 284 96 [(0, .inr (.inl 215)), (1, .inl x1)] [.inl zz] w1 r := by
  have h2 := hb_ecw ((0, 1, 0, 0, 0) :: (5, 0, 151, 48, 0) :: (4, 3, 0, 0, 4) :: (0, 1, 0, 0, 0) :: (0, 0, 1, 0, 0) :: (6, 1, 283, 2, 96) :: []) (by decide +kernel) h
  exact h2
theorem eg284_151_0_3 {n : Nat} {w : px_W} {r : Option Value × px_W} {x1 : Int} (h : ec_E hb_X n 284 0 [(0, .inr (.inl 215)), (1, .inl x1)] [] w r) : ec_tw (ec_fd w 151 48) = 5 → True ∧ ∃ (v : Option Value) (w1 : px_W), ec_E hb_X n 280 0 [(0, .inr (.inl 215)), (1, .inl 60)] [] w (v, w1) ∧ (v = none → ec_W hb_A w1 → ec_E hb_X n 284 63 [(0, .inr (.inl 215)), (1, .inl x1)] [] w1 r) := by
  have h2 := hb_ecw ((0, 1, 0, 0, 0) :: (5, 0, 151, 48, 0) :: (4, 3, 0, 0, 5) :: (0, 1, 0, 0, 0) :: (0, 2, 0, 0, 60) :: (6, 2, 280, 2, 63) :: []) (by decide +kernel) h
  exact h2
theorem eg284_151_0_4 {n : Nat} {w : px_W} {r : Option Value × px_W} {x1 : Int} (h : ec_E hb_X n 284 0 [(0, .inr (.inl 215)), (1, .inl x1)] [] w r) : ec_tw (ec_fd w 151 48) = 6 → True ∧ ∃ (v : Option Value) (w1 : px_W), ec_E hb_X n 280 0 [(0, .inr (.inl 215)), (1, .inl 71)] [] w (v, w1) ∧ (v = none → ec_W hb_A w1 → ec_E hb_X n 284 77 [(0, .inr (.inl 215)), (1, .inl x1)] [] w1 r) := by
  have h2 := hb_ecw ((0, 1, 0, 0, 0) :: (5, 0, 151, 48, 0) :: (4, 3, 0, 0, 6) :: (0, 1, 0, 0, 0) :: (0, 2, 0, 0, 71) :: (6, 2, 280, 2, 77) :: []) (by decide +kernel) h
  exact h2
theorem eg284_151_0_5 {n : Nat} {w : px_W} {r : Option Value × px_W} {x1 : Int} (h : ec_E hb_X n 284 0 [(0, .inr (.inl 215)), (1, .inl x1)] [] w r) : (ec_tw (ec_fd w 151 48) < 2 ∨ 2 + 4 < ec_tw (ec_fd w 151 48)) → True ∧ ∃ (v : Option Value) (w1 : px_W), ec_E hb_X n 283 0 [(0, .inr (.inl 215)), (1, .inl x1)] [] w (v, w1) ∧ ∀ zz : Int, v = ec_R zz → ec_W hb_A w1 → ec_E hb_X n 284 96 [(0, .inr (.inl 215)), (1, .inl x1)] [.inl zz] w1 r := by
  have h2 := hb_ecw ((0, 1, 0, 0, 0) :: (5, 0, 151, 48, 0) :: (4, 4, 4, 0, 2) :: (0, 1, 0, 0, 0) :: (0, 0, 1, 0, 0) :: (6, 1, 283, 2, 96) :: []) (by decide +kernel) h
  exact h2
theorem eg284_151_46_0 {n : Nat} {w : px_W} {r : Option Value × px_W} {x1 : Int} (h : ec_E hb_X n 284 46 [(0, .inr (.inl 215)), (1, .inl x1)] [] w r) : True ∧ ∃ (v : Option Value) (w1 : px_W), ec_E hb_X n 283 0 [(0, .inr (.inl 215)), (1, .inl x1)] [] w (v, w1) ∧ ∀ zz : Int, v = ec_R zz → ec_W hb_A w1 → ec_E hb_X n 284 51 [(0, .inr (.inl 215)), (1, .inl x1)] [.inl zz] w1 r := by
  have h2 := hb_ecw ((0, 1, 0, 0, 0) :: (0, 0, 1, 0, 0) :: (6, 1, 283, 2, 51) :: []) (by decide +kernel) h
  exact h2
theorem eg284_151_96_0 {n : Nat} {w : px_W} {r : Option Value × px_W} {x1 s0 : Int} (h : ec_E hb_X n 284 96 [(0, .inr (.inl 215)), (1, .inl x1)] [.inl s0] w r) : True ∧ r = (ec_R s0, w) ∧ ec_W hb_A w := by
  have h2 := hb_ecw ((6, 3, 0, 0, 0) :: []) (by decide +kernel) h
  exact h2
theorem eg284_151_63_0 {n : Nat} {w : px_W} {r : Option Value × px_W} {x1 : Int} (h : ec_E hb_X n 284 63 [(0, .inr (.inl 215)), (1, .inl x1)] [] w r) : True ∧ ∃ (v : Option Value) (w1 : px_W), ec_E hb_X n 283 0 [(0, .inr (.inl 215)), (1, .inl x1)] [] w (v, w1) ∧ ∀ zz : Int, v = ec_R zz → ec_W hb_A w1 → ec_E hb_X n 284 69 [(0, .inr (.inl 215)), (1, .inl x1)] [.inl zz, .inl 0] w1 r := by
  have h2 := hb_ecw ((0, 2, 0, 0, 0) :: (0, 1, 0, 0, 0) :: (0, 0, 1, 0, 0) :: (6, 1, 283, 2, 69) :: []) (by decide +kernel) h
  exact h2
theorem eg284_151_77_0 {n : Nat} {w : px_W} {r : Option Value × px_W} {x1 : Int} (h : ec_E hb_X n 284 77 [(0, .inr (.inl 215)), (1, .inl x1)] [] w r) : True ∧ ∃ (v : Option Value) (w1 : px_W), ec_E hb_X n 283 0 [(0, .inr (.inl 215)), (1, .inl x1)] [] w (v, w1) ∧ ∀ zz : Int, v = ec_R zz → ec_W hb_A w1 → ec_E hb_X n 284 82 [(0, .inr (.inl 215)), (1, .inl x1)] [.inl zz] w1 r := by
  have h2 := hb_ecw ((0, 1, 0, 0, 0) :: (0, 0, 1, 0, 0) :: (6, 1, 283, 2, 82) :: []) (by decide +kernel) h
  exact h2
theorem eg284_151_51_0 {n : Nat} {w : px_W} {r : Option Value × px_W} {x1 s0 : Int} (h : ec_E hb_X n 284 51 [(0, .inr (.inl 215)), (1, .inl x1)] [.inl s0] w r) : True ∧ r = (ec_R (s0 + (ec_fd w 151 50)), w) ∧ ec_W hb_A w := by
  have h2 := hb_ecw ((0, 1, 0, 0, 0) :: (5, 0, 151, 50, 0) :: (1, 0, 0, 0, 0) :: (6, 3, 0, 0, 0) :: []) (by decide +kernel) h
  exact h2
theorem eg284_151_69_0 {n : Nat} {w : px_W} {r : Option Value × px_W} {x1 s0 s1 : Int} (h : ec_E hb_X n 284 69 [(0, .inr (.inl 215)), (1, .inl x1)] [.inl s1, .inl s0] w r) : True ∧ r = (ec_R (s0 - s1), w) ∧ ec_W hb_A w := by
  have h2 := hb_ecw ((1, 1, 0, 0, 0) :: (6, 3, 0, 0, 0) :: []) (by decide +kernel) h
  exact h2
theorem eg284_151_82_0 {n : Nat} {w : px_W} {r : Option Value × px_W} {x1 s0 : Int} (h : ec_E hb_X n 284 82 [(0, .inr (.inl 215)), (1, .inl x1)] [.inl s0] w r) : True ∧ ∃ (v : Option Value) (w1 : px_W), ec_E hb_X n 282 0 [(0, .inr (.inl 215)), (1, .inl 0)] [] w (v, w1) ∧ ∀ zz : Int, v = ec_R zz → ec_W hb_A w1 → ec_E hb_X n 284 89 [(0, .inr (.inl 215)), (1, .inl x1), (2, .inl s0)] [.inl zz, .inl s0] w1 r := by
  have h2 := hb_ecw ((0, 3, 2, 0, 0) :: (0, 0, 2, 0, 0) :: (0, 1, 0, 0, 0) :: (0, 2, 0, 0, 0) :: (6, 1, 282, 2, 89) :: []) (by decide +kernel) h
  exact h2
theorem eg284_151_89_0 {n : Nat} {w : px_W} {r : Option Value × px_W} {x1 x2 s0 s1 : Int} (h : ec_E hb_X n 284 89 [(0, .inr (.inl 215)), (1, .inl x1), (2, .inl x2)] [.inl s1, .inl s0] w r) : True ∧ r = (ec_R (s0 + s1), w) ∧ ec_W hb_A w := by
  have h2 := hb_ecw ((1, 0, 0, 0, 0) :: (6, 3, 0, 0, 0) :: []) (by decide +kernel) h
  exact h2
/-! X12_thingFits -/
theorem eg285_151_0_0 {n : Nat} {w : px_W} {r : Option Value × px_W} {x1 : Int} (h : ec_E hb_X n 285 0 [(0, .inr (.inl 215)), (1, .inl x1)] [] w r) : True ∧ ∃ (v : Option Value) (w1 : px_W), ec_E hb_X n 280 0 [(0, .inr (.inl 215)), (1, .inl 12)] [] w (v, w1) ∧ (v = none → ec_W hb_A w1 → ec_E hb_X n 285 6 [(0, .inr (.inl 215)), (1, .inl x1)] [] w1 r) := by
  have h2 := hb_ecw ((0, 1, 0, 0, 0) :: (0, 2, 0, 0, 12) :: (6, 2, 280, 2, 6) :: []) (by decide +kernel) h
  exact h2
theorem eg285_151_6_0 {n : Nat} {w : px_W} {r : Option Value × px_W} {x1 : Int} (h : ec_E hb_X n 285 6 [(0, .inr (.inl 215)), (1, .inl x1)] [] w r) : ec_tw (ec_fd w 151 50) ≠ ec_tw (ec_fd w 151 49) → True ∧ ec_E hb_X n 285 26 [(0, .inr (.inl 215)), (1, .inl x1)] [] (ec_pf w 151 51 0) r := by
  have h2 := hb_ecw ((0, 1, 0, 0, 0) :: (0, 1, 0, 0, 0) :: (5, 0, 151, 50, 0) :: (0, 1, 0, 0, 0) :: (5, 0, 151, 49, 0) :: (4, 2, 1, 1, 0) :: (0, 2, 0, 0, 0) :: (5, 4, 151, 51, 0) :: (6, 0, 26, 2, 0) :: []) (by decide +kernel) h
  exact h2
theorem eg285_151_6_1 {n : Nat} {w : px_W} {r : Option Value × px_W} {x1 : Int} (h : ec_E hb_X n 285 6 [(0, .inr (.inl 215)), (1, .inl x1)] [] w r) : ec_tw (ec_fd w 151 50) = ec_tw (ec_fd w 151 49) → True ∧ ec_E hb_X n 285 26 [(0, .inr (.inl 215)), (1, .inl x1)] [] (ec_pf w 151 51 1) r := by
  have h2 := hb_ecw ((0, 1, 0, 0, 0) :: (0, 1, 0, 0, 0) :: (5, 0, 151, 50, 0) :: (0, 1, 0, 0, 0) :: (5, 0, 151, 49, 0) :: (4, 2, 0, 0, 0) :: (0, 2, 0, 0, 1) :: (4, 0, 0, 0, 0) :: (5, 4, 151, 51, 0) :: (6, 0, 26, 2, 0) :: []) (by decide +kernel) h
  exact h2
theorem eg285_151_26_0 {n : Nat} {w : px_W} {r : Option Value × px_W} {x1 : Int} (h : ec_E hb_X n 285 26 [(0, .inr (.inl 215)), (1, .inl x1)] [] w r) : ec_tw (ec_fd w 151 51) = ec_tw 0 → (True ∧ ec_tw ((ec_fd w 151 50) - (ec_fd w 151 49)) ≠ 0) ∧ r = (ec_R (ec_dv x1 ((ec_fd w 151 50) - (ec_fd w 151 49))), w) ∧ ec_W hb_A w := by
  have h2 := hb_ecw ((0, 1, 0, 0, 0) :: (5, 0, 151, 51, 0) :: (4, 1, 0, 1, 0) :: (0, 0, 1, 0, 0) :: (0, 1, 0, 0, 0) :: (5, 0, 151, 50, 0) :: (0, 1, 0, 0, 0) :: (5, 0, 151, 49, 0) :: (1, 1, 0, 0, 0) :: (2, 0, 0, 0, 0) :: (6, 3, 0, 0, 0) :: []) (by decide +kernel) h
  exact h2
theorem eg285_151_26_1 {n : Nat} {w : px_W} {r : Option Value × px_W} {x1 : Int} (h : ec_E hb_X n 285 26 [(0, .inr (.inl 215)), (1, .inl x1)] [] w r) : ec_tw (ec_fd w 151 51) ≠ ec_tw 0 → True ∧ r = (ec_R 0, w) ∧ ec_W hb_A w := by
  have h2 := hb_ecw ((0, 1, 0, 0, 0) :: (5, 0, 151, 51, 0) :: (4, 1, 1, 0, 0) :: (0, 2, 0, 0, 0) :: (4, 0, 0, 0, 0) :: (6, 3, 0, 0, 0) :: []) (by decide +kernel) h
  exact h2
/-! X12_fits -/
theorem eg286_151_0_0 {n : Nat} {w : px_W} {r : Option Value × px_W} {x1 : Int} (h : ec_E hb_X n 286 0 [(0, .inr (.inl 215)), (1, .inl x1)] [] w r) : ec_tw (ec_fd w 151 48) ≠ ec_tw 1 → ec_tw (ec_fd w 151 48) ≠ ec_tw 6 → True ∧ ∃ (v : Option Value) (w1 : px_W), ec_E hb_X n 285 0 [(0, .inr (.inl 215)), (1, .inl x1)] [] w (v, w1) ∧ ∀ zz : Int, v = ec_R zz → ec_W hb_A w1 → ec_E hb_X n 286 67 [(0, .inr (.inl 215)), (1, .inl x1)] [.inl zz] w1 r := by
  have h2 := hb_ecw ((0, 1, 0, 0, 0) :: (5, 0, 151, 48, 0) :: (0, 2, 0, 0, 1) :: (4, 2, 1, 1, 0) :: (0, 1, 0, 0, 0) :: (5, 0, 151, 48, 0) :: (0, 2, 0, 0, 6) :: (4, 2, 1, 1, 0) :: (0, 1, 0, 0, 0) :: (0, 0, 1, 0, 0) :: (6, 1, 285, 2, 67) :: []) (by decide +kernel) h
  exact h2
theorem eg286_151_0_1 {n : Nat} {w : px_W} {r : Option Value × px_W} {x1 : Int} (h : ec_E hb_X n 286 0 [(0, .inr (.inl 215)), (1, .inl x1)] [] w r) : ec_tw (ec_fd w 151 48) ≠ ec_tw 1 → ec_tw (ec_fd w 151 48) = ec_tw 6 → True ∧ ∃ (v : Option Value) (w1 : px_W), ec_E hb_X n 280 0 [(0, .inr (.inl 215)), (1, .inl 70)] [] w (v, w1) ∧ (v = none → ec_W hb_A w1 → ec_E hb_X n 286 54 [(0, .inr (.inl 215)), (1, .inl x1)] [] w1 r) := by
  have h2 := hb_ecw ((0, 1, 0, 0, 0) :: (5, 0, 151, 48, 0) :: (0, 2, 0, 0, 1) :: (4, 2, 1, 1, 0) :: (0, 1, 0, 0, 0) :: (5, 0, 151, 48, 0) :: (0, 2, 0, 0, 6) :: (4, 2, 0, 0, 0) :: (0, 1, 0, 0, 0) :: (0, 2, 0, 0, 70) :: (6, 2, 280, 2, 54) :: []) (by decide +kernel) h
  exact h2
theorem eg286_151_0_2 {n : Nat} {w : px_W} {r : Option Value × px_W} {x1 : Int} (h : ec_E hb_X n 286 0 [(0, .inr (.inl 215)), (1, .inl x1)] [] w r) : ec_tw (ec_fd w 151 48) = ec_tw 1 → True ∧ ∃ (v : Option Value) (w1 : px_W), ec_E hb_X n 280 0 [(0, .inr (.inl 215)), (1, .inl 21)] [] w (v, w1) ∧ (v = none → ec_W hb_A w1 → ec_E hb_X n 286 14 [(0, .inr (.inl 215)), (1, .inl x1)] [] w1 r) := by
  have h2 := hb_ecw ((0, 1, 0, 0, 0) :: (5, 0, 151, 48, 0) :: (0, 2, 0, 0, 1) :: (4, 2, 0, 0, 0) :: (0, 1, 0, 0, 0) :: (0, 2, 0, 0, 21) :: (6, 2, 280, 2, 14) :: []) (by decide +kernel) h
  exact h2
theorem eg286_151_67_0 {n : Nat} {w : px_W} {r : Option Value × px_W} {x1 s0 : Int} (h : ec_E hb_X n 286 67 [(0, .inr (.inl 215)), (1, .inl x1)] [.inl s0] w r) : True ∧ r = (ec_R s0, w) ∧ ec_W hb_A w := by
  have h2 := hb_ecw ((6, 3, 0, 0, 0) :: []) (by decide +kernel) h
  exact h2
theorem eg286_151_54_0 {n : Nat} {w : px_W} {r : Option Value × px_W} {x1 : Int} (h : ec_E hb_X n 286 54 [(0, .inr (.inl 215)), (1, .inl x1)] [] w r) : True ∧ ∃ (v : Option Value) (w1 : px_W), ec_E hb_X n 285 0 [(0, .inr (.inl 215)), (1, .inl (x1 * 2))] [] w (v, w1) ∧ ∀ zz : Int, v = ec_R zz → ec_W hb_A w1 → ec_E hb_X n 286 61 [(0, .inr (.inl 215)), (1, .inl x1)] [.inl zz] w1 r := by
  have h2 := hb_ecw ((0, 1, 0, 0, 0) :: (0, 0, 1, 0, 0) :: (0, 2, 0, 0, 2) :: (1, 2, 0, 0, 0) :: (6, 1, 285, 2, 61) :: []) (by decide +kernel) h
  exact h2
theorem eg286_151_14_0 {n : Nat} {w : px_W} {r : Option Value × px_W} {x1 : Int} (h : ec_E hb_X n 286 14 [(0, .inr (.inl 215)), (1, .inl x1)] [] w r) : True ∧ ∃ (v : Option Value) (w1 : px_W), ec_E hb_X n 285 0 [(0, .inr (.inl 215)), (1, .inl x1)] [] w (v, w1) ∧ ∀ zz : Int, v = ec_R zz → ec_W hb_A w1 → ec_E hb_X n 286 19 [(0, .inr (.inl 215)), (1, .inl x1)] [.inl zz] w1 r := by
  have h2 := hb_ecw ((0, 1, 0, 0, 0) :: (0, 0, 1, 0, 0) :: (6, 1, 285, 2, 19) :: []) (by decide +kernel) h
  exact h2
theorem eg286_151_61_0 {n : Nat} {w : px_W} {r : Option Value × px_W} {x1 s0 : Int} (h : ec_E hb_X n 286 61 [(0, .inr (.inl 215)), (1, .inl x1)] [.inl s0] w r) : True ∧ r = (ec_R s0, w) ∧ ec_W hb_A w := by
  have h2 := hb_ecw ((6, 3, 0, 0, 0) :: []) (by decide +kernel) h
  exact h2
theorem eg286_151_19_0 {n : Nat} {w : px_W} {r : Option Value × px_W} {x1 s0 : Int} (h : ec_E hb_X n 286 19 [(0, .inr (.inl 215)), (1, .inl x1)] [.inl s0] w r) : ec_tw (ec_fd w 151 51) = ec_tw 0 → True ∧ ∃ (v : Option Value) (w1 : px_W), ec_E hb_X n 282 0 [(0, .inr (.inl 215)), (1, .inl 1)] [] w (v, w1) ∧ ∀ zz : Int, v = ec_R zz → ec_W hb_A w1 → ec_E hb_X n 286 37 [(0, .inr (.inl 215)), (1, .inl x1), (2, .inl s0)] [.inl zz, .inl s0] w1 r := by
  have h2 := hb_ecw ((0, 3, 2, 0, 0) :: (0, 1, 0, 0, 0) :: (5, 0, 151, 51, 0) :: (4, 1, 0, 1, 0) :: (0, 0, 2, 0, 0) :: (0, 1, 0, 0, 0) :: (0, 2, 0, 0, 1) :: (6, 1, 282, 2, 37) :: []) (by decide +kernel) h
  exact h2
theorem eg286_151_19_1 {n : Nat} {w : px_W} {r : Option Value × px_W} {x1 s0 : Int} (h : ec_E hb_X n 286 19 [(0, .inr (.inl 215)), (1, .inl x1)] [.inl s0] w r) : ec_tw (ec_fd w 151 51) ≠ ec_tw 0 → True ∧ r = (ec_R 0, w) ∧ ec_W hb_A w := by
  have h2 := hb_ecw ((0, 3, 2, 0, 0) :: (0, 1, 0, 0, 0) :: (5, 0, 151, 51, 0) :: (4, 1, 1, 0, 0) :: (0, 2, 0, 0, 0) :: (4, 0, 0, 0, 0) :: (6, 3, 0, 0, 0) :: []) (by decide +kernel) h
  exact h2
theorem eg286_151_37_0 {n : Nat} {w : px_W} {r : Option Value × px_W} {x1 x2 s0 s1 : Int} (h : ec_E hb_X n 286 37 [(0, .inr (.inl 215)), (1, .inl x1), (2, .inl x2)] [.inl s1, .inl s0] w r) : True ∧ r = (ec_R (s0 + s1), w) ∧ ec_W hb_A w := by
  have h2 := hb_ecw ((1, 0, 0, 0, 0) :: (6, 3, 0, 0, 0) :: []) (by decide +kernel) h
  exact h2
/-! X12_thingTells -/
theorem eg287_151_0_0 {n : Nat} {w : px_W} {r : Option Value × px_W} {x1 : Int} (h : ec_E hb_X n 287 0 [(0, .inr (.inl 215)), (1, .inl x1)] [] w r) : True ∧ ∃ (v : Option Value) (w1 : px_W), ec_E hb_X n 280 0 [(0, .inr (.inl 215)), (1, .inl 13)] [] w (v, w1) ∧ (v = none → ec_W hb_A w1 → ec_E hb_X n 287 6 [(0, .inr (.inl 215)), (1, .inl x1)] [] w1 r) := by
  have h2 := hb_ecw ((0, 1, 0, 0, 0) :: (0, 2, 0, 0, 13) :: (6, 2, 280, 2, 6) :: []) (by decide +kernel) h
  exact h2
theorem eg287_151_6_0 {n : Nat} {w : px_W} {r : Option Value × px_W} {x1 : Int} (h : ec_E hb_X n 287 6 [(0, .inr (.inl 215)), (1, .inl x1)] [] w r) : True ∧ ∃ (v : Option Value) (w1 : px_W), ec_E hb_X n 284 0 [(0, .inr (.inl 215)), (1, .inl x1)] [] w (v, w1) ∧ ∀ zz : Int, v = ec_R zz → ec_W hb_A w1 → ec_E hb_X n 287 11 [(0, .inr (.inl 215)), (1, .inl x1)] [.inl zz] w1 r := by
  have h2 := hb_ecw ((0, 1, 0, 0, 0) :: (0, 0, 1, 0, 0) :: (6, 1, 284, 2, 11) :: []) (by decide +kernel) h
  exact h2
theorem eg287_151_11_0 {n : Nat} {w : px_W} {r : Option Value × px_W} {x1 s0 : Int} (h : ec_E hb_X n 287 11 [(0, .inr (.inl 215)), (1, .inl x1)] [.inl s0] w r) : True ∧ r = (ec_R (ec_xor s0 (ec_fd w 151 50)), w) ∧ ec_W hb_A w := by
  have h2 := hb_ecw ((0, 1, 0, 0, 0) :: (5, 0, 151, 50, 0) :: (1, 5, 0, 0, 0) :: (6, 3, 0, 0, 0) :: []) (by decide +kernel) h
  exact h2
/-! X12_tells -/
theorem eg288_151_0_0 {n : Nat} {w : px_W} {r : Option Value × px_W} {x1 : Int} (h : ec_E hb_X n 288 0 [(0, .inr (.inl 215)), (1, .inl x1)] [] w r) : ec_tw (ec_fd w 151 48) ≠ ec_tw 3 → ec_tw (ec_fd w 151 48) = ec_tw 4 → True ∧ ∃ (v : Option Value) (w1 : px_W), ec_E hb_X n 280 0 [(0, .inr (.inl 215)), (1, .inl 50)] [] w (v, w1) ∧ (v = none → ec_W hb_A w1 → ec_E hb_X n 288 44 [(0, .inr (.inl 215)), (1, .inl x1)] [] w1 r) := by
  have h2 := hb_ecw ((0, 1, 0, 0, 0) :: (5, 0, 151, 48, 0) :: (0, 2, 0, 0, 3) :: (4, 2, 1, 1, 0) :: (0, 1, 0, 0, 0) :: (5, 0, 151, 48, 0) :: (0, 2, 0, 0, 4) :: (4, 2, 0, 1, 0) :: (0, 1, 0, 0, 0) :: (0, 2, 0, 0, 50) :: (6, 2, 280, 2, 44) :: []) (by decide +kernel) h
  exact h2
theorem eg288_151_0_1 {n : Nat} {w : px_W} {r : Option Value × px_W} {x1 : Int} (h : ec_E hb_X n 288 0 [(0, .inr (.inl 215)), (1, .inl x1)] [] w r) : ec_tw (ec_fd w 151 48) ≠ ec_tw 3 → ec_tw (ec_fd w 151 48) ≠ ec_tw 4 → ec_tw (ec_fd w 151 48) ≠ ec_tw 5 → True ∧ ∃ (v : Option Value) (w1 : px_W), ec_E hb_X n 287 0 [(0, .inr (.inl 215)), (1, .inl x1)] [] w (v, w1) ∧ ∀ zz : Int, v = ec_R zz → ec_W hb_A w1 → ec_E hb_X n 288 63 [(0, .inr (.inl 215)), (1, .inl x1)] [.inl zz] w1 r := by
  have h2 := hb_ecw ((0, 1, 0, 0, 0) :: (5, 0, 151, 48, 0) :: (0, 2, 0, 0, 3) :: (4, 2, 1, 1, 0) :: (0, 1, 0, 0, 0) :: (5, 0, 151, 48, 0) :: (0, 2, 0, 0, 4) :: (4, 2, 1, 0, 0) :: (0, 1, 0, 0, 0) :: (5, 0, 151, 48, 0) :: (0, 2, 0, 0, 5) :: (4, 2, 1, 1, 0) :: (0, 1, 0, 0, 0) :: (0, 0, 1, 0, 0) :: (6, 1, 287, 2, 63) :: []) (by decide +kernel) h
  exact h2
theorem eg288_151_0_2 {n : Nat} {w : px_W} {r : Option Value × px_W} {x1 : Int} (h : ec_E hb_X n 288 0 [(0, .inr (.inl 215)), (1, .inl x1)] [] w r) : ec_tw (ec_fd w 151 48) ≠ ec_tw 3 → ec_tw (ec_fd w 151 48) ≠ ec_tw 4 → ec_tw (ec_fd w 151 48) = ec_tw 5 → True ∧ ∃ (v : Option Value) (w1 : px_W), ec_E hb_X n 280 0 [(0, .inr (.inl 215)), (1, .inl 50)] [] w (v, w1) ∧ (v = none → ec_W hb_A w1 → ec_E hb_X n 288 44 [(0, .inr (.inl 215)), (1, .inl x1)] [] w1 r) := by
  have h2 := hb_ecw ((0, 1, 0, 0, 0) :: (5, 0, 151, 48, 0) :: (0, 2, 0, 0, 3) :: (4, 2, 1, 1, 0) :: (0, 1, 0, 0, 0) :: (5, 0, 151, 48, 0) :: (0, 2, 0, 0, 4) :: (4, 2, 1, 0, 0) :: (0, 1, 0, 0, 0) :: (5, 0, 151, 48, 0) :: (0, 2, 0, 0, 5) :: (4, 2, 0, 0, 0) :: (0, 1, 0, 0, 0) :: (0, 2, 0, 0, 50) :: (6, 2, 280, 2, 44) :: []) (by decide +kernel) h
  exact h2
theorem eg288_151_0_3 {n : Nat} {w : px_W} {r : Option Value × px_W} {x1 : Int} (h : ec_E hb_X n 288 0 [(0, .inr (.inl 215)), (1, .inl x1)] [] w r) : ec_tw (ec_fd w 151 48) = ec_tw 3 → True ∧ ∃ (v : Option Value) (w1 : px_W), ec_E hb_X n 280 0 [(0, .inr (.inl 215)), (1, .inl 41)] [] w (v, w1) ∧ (v = none → ec_W hb_A w1 → ec_E hb_X n 288 14 [(0, .inr (.inl 215)), (1, .inl x1)] [] w1 r) := by
  have h2 := hb_ecw ((0, 1, 0, 0, 0) :: (5, 0, 151, 48, 0) :: (0, 2, 0, 0, 3) :: (4, 2, 0, 0, 0) :: (0, 1, 0, 0, 0) :: (0, 2, 0, 0, 41) :: (6, 2, 280, 2, 14) :: []) (by decide +kernel) h
  exact h2
theorem eg288_151_44_0 {n : Nat} {w : px_W} {r : Option Value × px_W} {x1 : Int} (h : ec_E hb_X n 288 44 [(0, .inr (.inl 215)), (1, .inl x1)] [] w r) : True ∧ ∃ (v : Option Value) (w1 : px_W), ec_E hb_X n 287 0 [(0, .inr (.inl 215)), (1, .inl x1)] [] w (v, w1) ∧ ∀ zz : Int, v = ec_R zz → ec_W hb_A w1 → ec_E hb_X n 288 49 [(0, .inr (.inl 215)), (1, .inl x1)] [.inl zz] w1 r := by
  have h2 := hb_ecw ((0, 1, 0, 0, 0) :: (0, 0, 1, 0, 0) :: (6, 1, 287, 2, 49) :: []) (by decide +kernel) h
  exact h2
theorem eg288_151_63_0 {n : Nat} {w : px_W} {r : Option Value × px_W} {x1 s0 : Int} (h : ec_E hb_X n 288 63 [(0, .inr (.inl 215)), (1, .inl x1)] [.inl s0] w r) : True ∧ r = (ec_R s0, w) ∧ ec_W hb_A w := by
  have h2 := hb_ecw ((6, 3, 0, 0, 0) :: []) (by decide +kernel) h
  exact h2
theorem eg288_151_14_0 {n : Nat} {w : px_W} {r : Option Value × px_W} {x1 : Int} (h : ec_E hb_X n 288 14 [(0, .inr (.inl 215)), (1, .inl x1)] [] w r) : True ∧ ∃ (v : Option Value) (w1 : px_W), ec_E hb_X n 287 0 [(0, .inr (.inl 215)), (1, .inl x1)] [] w (v, w1) ∧ ∀ zz : Int, v = ec_R zz → ec_W hb_A w1 → ec_E hb_X n 288 19 [(0, .inr (.inl 215)), (1, .inl x1)] [.inl zz] w1 r := by
  have h2 := hb_ecw ((0, 1, 0, 0, 0) :: (0, 0, 1, 0, 0) :: (6, 1, 287, 2, 19) :: []) (by decide +kernel) h
  exact h2
theorem eg288_151_49_0 {n : Nat} {w : px_W} {r : Option Value × px_W} {x1 s0 : Int} (h : ec_E hb_X n 288 49 [(0, .inr (.inl 215)), (1, .inl x1)] [.inl s0] w r) : True ∧ ∃ (v : Option Value) (w1 : px_W), ec_E hb_X n 282 0 [(0, .inr (.inl 215)), (1, .inl x1)] [] w (v, w1) ∧ ∀ zz : Int, v = ec_R zz → ec_W hb_A w1 → ec_E hb_X n 288 56 [(0, .inr (.inl 215)), (1, .inl x1), (2, .inl s0)] [.inl zz, .inl s0] w1 r := by
  have h2 := hb_ecw ((0, 3, 2, 0, 0) :: (0, 0, 2, 0, 0) :: (0, 1, 0, 0, 0) :: (0, 0, 1, 0, 0) :: (6, 1, 282, 2, 56) :: []) (by decide +kernel) h
  exact h2
theorem eg288_151_19_0 {n : Nat} {w : px_W} {r : Option Value × px_W} {x1 s0 : Int} (h : ec_E hb_X n 288 19 [(0, .inr (.inl 215)), (1, .inl x1)] [.inl s0] w r) : True ∧ r = (ec_R (s0 - 1), w) ∧ ec_W hb_A w := by
  have h2 := hb_ecw ((0, 2, 0, 0, 1) :: (1, 1, 0, 0, 0) :: (6, 3, 0, 0, 0) :: []) (by decide +kernel) h
  exact h2
theorem eg288_151_56_0 {n : Nat} {w : px_W} {r : Option Value × px_W} {x1 x2 s0 s1 : Int} (h : ec_E hb_X n 288 56 [(0, .inr (.inl 215)), (1, .inl x1), (2, .inl x2)] [.inl s1, .inl s0] w r) : True ∧ r = (ec_R (ec_xor s0 s1), w) ∧ ec_W hb_A w := by
  have h2 := hb_ecw ((1, 5, 0, 0, 0) :: (6, 3, 0, 0, 0) :: []) (by decide +kernel) h
  exact h2
/-! X12_isFour -/
theorem eg271_0_0 {n : Nat} {w : px_W} {r : Option Value × px_W} {x0 : Int} (h : ec_E hb_X n 271 0 [(0, .inl x0)] [] w r) : True ∧ ∃ (v : Option Value) (w1 : px_W), ec_E hb_X n 182 0 [(0, .inl x0), (1, .inl 0), (2, .inl 3)] [] w (v, w1) ∧ ∀ zz : Int, v = ec_R zz → ec_W hb_A w1 → ec_E hb_X n 271 6 [(0, .inl x0)] [.inl zz] w1 r := by
  have h2 := hb_ecw ((0, 0, 0, 0, 0) :: (0, 2, 0, 0, 0) :: (0, 2, 0, 0, 3) :: (6, 1, 182, 3, 6) :: []) (by decide +kernel) h
  exact h2
theorem eg271_6_0 {n : Nat} {w : px_W} {r : Option Value × px_W} {x0 s0 : Int} (h : ec_E hb_X n 271 6 [(0, .inl x0)] [.inl s0] w r) : True ∧ r = (ec_R s0, w) ∧ ec_W hb_A w := by
  have h2 := hb_ecw ((6, 3, 0, 0, 0) :: []) (by decide +kernel) h
  exact h2
/-! X12_isBoat -/
theorem eg213_151_0_0 {n : Nat} {w : px_W} {r : Option Value × px_W} {x1 : Int} (h : ec_E hb_X n 213 0 [(0, .inr (.inl 215)), (1, .inl x1)] [] w r) : (True ∧ 0 ≤ ec_tw 5 ∧ ec_tw 5 < 1580) ∧ ∃ (v : Option Value) (w1 : px_W), ec_E hb_X n 182 0 [(0, .inl x1), (1, .inl 0), (2, .inl ((ec_rd w 152 (ec_tw 5)) - 1))] [] w (v, w1) ∧ ∀ zz : Int, v = ec_R zz → ec_W hb_A w1 → ec_E hb_X n 213 13 [(0, .inr (.inl 215)), (1, .inl x1)] [.inl zz] w1 r := by
  have h2 := hb_ecw ((0, 0, 1, 0, 0) :: (0, 2, 0, 0, 0) :: (0, 1, 0, 0, 0) :: (5, 1, 151, 216, 0) :: (0, 2, 0, 0, 5) :: (5, 2, 152, 0, 1580) :: (0, 2, 0, 0, 1) :: (1, 1, 0, 0, 0) :: (6, 1, 182, 3, 13) :: []) (by decide +kernel) h
  exact h2
theorem eg213_151_13_0 {n : Nat} {w : px_W} {r : Option Value × px_W} {x1 s0 : Int} (h : ec_E hb_X n 213 13 [(0, .inr (.inl 215)), (1, .inl x1)] [.inl s0] w r) : True ∧ r = (ec_R s0, w) ∧ ec_W hb_A w := by
  have h2 := hb_ecw ((6, 3, 0, 0, 0) :: []) (by decide +kernel) h
  exact h2
/-! X12_isLight -/
theorem eg237_151_0_0 {n : Nat} {w : px_W} {r : Option Value × px_W} {x1 : Int} (h : ec_E hb_X n 237 0 [(0, .inr (.inl 215)), (1, .inl x1)] [] w r) : (True ∧ 0 ≤ ec_tw 8 ∧ ec_tw 8 < 1580) ∧ ∃ (v : Option Value) (w1 : px_W), ec_E hb_X n 182 0 [(0, .inl x1), (1, .inl 0), (2, .inl ((ec_rd w 152 (ec_tw 8)) - 1))] [] w (v, w1) ∧ ∀ zz : Int, v = ec_R zz → ec_W hb_A w1 → ec_E hb_X n 237 14 [(0, .inr (.inl 215)), (1, .inl x1)] [.inl zz] w1 r := by
  have h2 := hb_ecw ((0, 0, 1, 0, 0) :: (0, 2, 0, 0, 0) :: (0, 1, 0, 0, 0) :: (5, 1, 151, 216, 0) :: (0, 2, 0, 0, 8) :: (5, 2, 152, 0, 1580) :: (0, 2, 0, 0, 1) :: (1, 1, 0, 0, 0) :: (6, 1, 182, 3, 14) :: []) (by decide +kernel) h
  exact h2
theorem eg237_151_14_0 {n : Nat} {w : px_W} {r : Option Value × px_W} {x1 s0 : Int} (h : ec_E hb_X n 237 14 [(0, .inr (.inl 215)), (1, .inl x1)] [.inl s0] w r) : True ∧ r = (ec_R s0, w) ∧ ec_W hb_A w := by
  have h2 := hb_ecw ((6, 3, 0, 0, 0) :: []) (by decide +kernel) h
  exact h2
/-! X12_kindOn -/
theorem eg278_151_0_0 {n : Nat} {w : px_W} {r : Option Value × px_W} {x1 : Int} (h : ec_E hb_X n 278 0 [(0, .inr (.inl 215)), (1, .inl x1)] [] w r) : ec_tw (ec_rd w 176 (ec_tw x1)) = 1 → ((True ∧ 0 ≤ ec_tw x1 ∧ ec_tw x1 < 4) ∧ 0 ≤ ec_tw x1 ∧ ec_tw x1 < 4) ∧ r = (ec_R 1, w) ∧ ec_W hb_A w := by
  have h2 := hb_ecw ((0, 1, 0, 0, 0) :: (5, 1, 151, 241, 0) :: (0, 0, 1, 0, 0) :: (5, 2, 177, 0, 4) :: (0, 3, 2, 0, 0) :: (0, 1, 0, 0, 0) :: (5, 1, 151, 240, 0) :: (0, 0, 1, 0, 0) :: (5, 2, 176, 0, 4) :: (4, 3, 0, 0, 1) :: (0, 2, 0, 0, 1) :: (6, 3, 0, 0, 0) :: []) (by decide +kernel) h
  exact h2
theorem eg278_151_0_1 {n : Nat} {w : px_W} {r : Option Value × px_W} {x1 : Int} (h : ec_E hb_X n 278 0 [(0, .inr (.inl 215)), (1, .inl x1)] [] w r) : ec_tw (ec_rd w 176 (ec_tw x1)) = 2 → ((True ∧ 0 ≤ ec_tw x1 ∧ ec_tw x1 < 4) ∧ 0 ≤ ec_tw x1 ∧ ec_tw x1 < 4) ∧ ∃ (v : Option Value) (w1 : px_W), ec_E hb_X n 213 0 [(0, .inr (.inl 215)), (1, .inl (ec_rd w 177 (ec_tw x1)))] [] w (v, w1) ∧ ∀ zz : Int, v = ec_R zz → ec_W hb_A w1 → ec_E hb_X n 278 59 [(0, .inr (.inl 215)), (1, .inl x1), (2, .inl (ec_rd w 177 (ec_tw x1)))] [.inl zz] w1 r := by
  have h2 := hb_ecw ((0, 1, 0, 0, 0) :: (5, 1, 151, 241, 0) :: (0, 0, 1, 0, 0) :: (5, 2, 177, 0, 4) :: (0, 3, 2, 0, 0) :: (0, 1, 0, 0, 0) :: (5, 1, 151, 240, 0) :: (0, 0, 1, 0, 0) :: (5, 2, 176, 0, 4) :: (4, 3, 0, 0, 2) :: (0, 1, 0, 0, 0) :: (0, 0, 2, 0, 0) :: (6, 1, 213, 2, 59) :: []) (by decide +kernel) h
  exact h2
theorem eg278_151_0_2 {n : Nat} {w : px_W} {r : Option Value × px_W} {x1 : Int} (h : ec_E hb_X n 278 0 [(0, .inr (.inl 215)), (1, .inl x1)] [] w r) : ec_tw (ec_rd w 176 (ec_tw x1)) = 3 → ec_tw (ec_rd w 152 (ec_tw 7)) ≤ ec_tw (ec_rd w 177 (ec_tw x1)) → (((True ∧ 0 ≤ ec_tw x1 ∧ ec_tw x1 < 4) ∧ 0 ≤ ec_tw x1 ∧ ec_tw x1 < 4) ∧ 0 ≤ ec_tw 7 ∧ ec_tw 7 < 1580) ∧ r = (ec_R (-1), w) ∧ ec_W hb_A w := by
  have h2 := hb_ecw ((0, 1, 0, 0, 0) :: (5, 1, 151, 241, 0) :: (0, 0, 1, 0, 0) :: (5, 2, 177, 0, 4) :: (0, 3, 2, 0, 0) :: (0, 1, 0, 0, 0) :: (5, 1, 151, 240, 0) :: (0, 0, 1, 0, 0) :: (5, 2, 176, 0, 4) :: (4, 3, 0, 0, 3) :: (0, 0, 2, 0, 0) :: (0, 1, 0, 0, 0) :: (5, 1, 151, 216, 0) :: (0, 2, 0, 0, 7) :: (5, 2, 152, 0, 1580) :: (4, 2, 3, 1, 0) :: (0, 2, 0, 0, (-1)) :: (6, 3, 0, 0, 0) :: []) (by decide +kernel) h
  exact h2
theorem eg278_151_0_3 {n : Nat} {w : px_W} {r : Option Value × px_W} {x1 : Int} (h : ec_E hb_X n 278 0 [(0, .inr (.inl 215)), (1, .inl x1)] [] w r) : ec_tw (ec_rd w 176 (ec_tw x1)) = 3 → ec_tw (ec_rd w 177 (ec_tw x1)) < ec_tw (ec_rd w 152 (ec_tw 7)) → (((True ∧ 0 ≤ ec_tw x1 ∧ ec_tw x1 < 4) ∧ 0 ≤ ec_tw x1 ∧ ec_tw x1 < 4) ∧ 0 ≤ ec_tw 7 ∧ ec_tw 7 < 1580) ∧ r = (ec_R 4, w) ∧ ec_W hb_A w := by
  have h2 := hb_ecw ((0, 1, 0, 0, 0) :: (5, 1, 151, 241, 0) :: (0, 0, 1, 0, 0) :: (5, 2, 177, 0, 4) :: (0, 3, 2, 0, 0) :: (0, 1, 0, 0, 0) :: (5, 1, 151, 240, 0) :: (0, 0, 1, 0, 0) :: (5, 2, 176, 0, 4) :: (4, 3, 0, 0, 3) :: (0, 0, 2, 0, 0) :: (0, 1, 0, 0, 0) :: (5, 1, 151, 216, 0) :: (0, 2, 0, 0, 7) :: (5, 2, 152, 0, 1580) :: (4, 2, 2, 0, 0) :: (0, 2, 0, 0, 4) :: (4, 0, 0, 0, 0) :: (6, 3, 0, 0, 0) :: []) (by decide +kernel) h
  exact h2
theorem eg278_151_0_4 {n : Nat} {w : px_W} {r : Option Value × px_W} {x1 : Int} (h : ec_E hb_X n 278 0 [(0, .inr (.inl 215)), (1, .inl x1)] [] w r) : ec_tw (ec_rd w 176 (ec_tw x1)) = 4 → ((True ∧ 0 ≤ ec_tw x1 ∧ ec_tw x1 < 4) ∧ 0 ≤ ec_tw x1 ∧ ec_tw x1 < 4) ∧ ∃ (v : Option Value) (w1 : px_W), ec_E hb_X n 237 0 [(0, .inr (.inl 215)), (1, .inl (ec_rd w 177 (ec_tw x1)))] [] w (v, w1) ∧ ∀ zz : Int, v = ec_R zz → ec_W hb_A w1 → ec_E hb_X n 278 112 [(0, .inr (.inl 215)), (1, .inl x1), (2, .inl (ec_rd w 177 (ec_tw x1)))] [.inl zz] w1 r := by
  have h2 := hb_ecw ((0, 1, 0, 0, 0) :: (5, 1, 151, 241, 0) :: (0, 0, 1, 0, 0) :: (5, 2, 177, 0, 4) :: (0, 3, 2, 0, 0) :: (0, 1, 0, 0, 0) :: (5, 1, 151, 240, 0) :: (0, 0, 1, 0, 0) :: (5, 2, 176, 0, 4) :: (4, 3, 0, 0, 4) :: (0, 1, 0, 0, 0) :: (0, 0, 2, 0, 0) :: (6, 1, 237, 2, 112) :: []) (by decide +kernel) h
  exact h2
theorem eg278_151_0_5 {n : Nat} {w : px_W} {r : Option Value × px_W} {x1 : Int} (h : ec_E hb_X n 278 0 [(0, .inr (.inl 215)), (1, .inl x1)] [] w r) : ec_tw (ec_rd w 176 (ec_tw x1)) = 5 → ec_tw (ec_rd w 152 (ec_tw 9)) ≤ ec_tw (ec_rd w 177 (ec_tw x1)) → (((True ∧ 0 ≤ ec_tw x1 ∧ ec_tw x1 < 4) ∧ 0 ≤ ec_tw x1 ∧ ec_tw x1 < 4) ∧ 0 ≤ ec_tw 9 ∧ ec_tw 9 < 1580) ∧ r = (ec_R (-1), w) ∧ ec_W hb_A w := by
  have h2 := hb_ecw ((0, 1, 0, 0, 0) :: (5, 1, 151, 241, 0) :: (0, 0, 1, 0, 0) :: (5, 2, 177, 0, 4) :: (0, 3, 2, 0, 0) :: (0, 1, 0, 0, 0) :: (5, 1, 151, 240, 0) :: (0, 0, 1, 0, 0) :: (5, 2, 176, 0, 4) :: (4, 3, 0, 0, 5) :: (0, 0, 2, 0, 0) :: (0, 1, 0, 0, 0) :: (5, 1, 151, 216, 0) :: (0, 2, 0, 0, 9) :: (5, 2, 152, 0, 1580) :: (4, 2, 3, 1, 0) :: (0, 2, 0, 0, (-1)) :: (6, 3, 0, 0, 0) :: []) (by decide +kernel) h
  exact h2
theorem eg278_151_0_6 {n : Nat} {w : px_W} {r : Option Value × px_W} {x1 : Int} (h : ec_E hb_X n 278 0 [(0, .inr (.inl 215)), (1, .inl x1)] [] w r) : ec_tw (ec_rd w 176 (ec_tw x1)) = 5 → ec_tw (ec_rd w 177 (ec_tw x1)) < ec_tw (ec_rd w 152 (ec_tw 9)) → (((True ∧ 0 ≤ ec_tw x1 ∧ ec_tw x1 < 4) ∧ 0 ≤ ec_tw x1 ∧ ec_tw x1 < 4) ∧ 0 ≤ ec_tw 9 ∧ ec_tw 9 < 1580) ∧ r = (ec_R 6, w) ∧ ec_W hb_A w := by
  have h2 := hb_ecw ((0, 1, 0, 0, 0) :: (5, 1, 151, 241, 0) :: (0, 0, 1, 0, 0) :: (5, 2, 177, 0, 4) :: (0, 3, 2, 0, 0) :: (0, 1, 0, 0, 0) :: (5, 1, 151, 240, 0) :: (0, 0, 1, 0, 0) :: (5, 2, 176, 0, 4) :: (4, 3, 0, 0, 5) :: (0, 0, 2, 0, 0) :: (0, 1, 0, 0, 0) :: (5, 1, 151, 216, 0) :: (0, 2, 0, 0, 9) :: (5, 2, 152, 0, 1580) :: (4, 2, 2, 0, 0) :: (0, 2, 0, 0, 6) :: (4, 0, 0, 0, 0) :: (6, 3, 0, 0, 0) :: []) (by decide +kernel) h
  exact h2
theorem eg278_151_0_7 {n : Nat} {w : px_W} {r : Option Value × px_W} {x1 : Int} (h : ec_E hb_X n 278 0 [(0, .inr (.inl 215)), (1, .inl x1)] [] w r) : ec_tw (ec_rd w 176 (ec_tw x1)) = 6 → ((True ∧ 0 ≤ ec_tw x1 ∧ ec_tw x1 < 4) ∧ 0 ≤ ec_tw x1 ∧ ec_tw x1 < 4) ∧ r = (ec_R (-2), w) ∧ ec_W hb_A w := by
  have h2 := hb_ecw ((0, 1, 0, 0, 0) :: (5, 1, 151, 241, 0) :: (0, 0, 1, 0, 0) :: (5, 2, 177, 0, 4) :: (0, 3, 2, 0, 0) :: (0, 1, 0, 0, 0) :: (5, 1, 151, 240, 0) :: (0, 0, 1, 0, 0) :: (5, 2, 176, 0, 4) :: (4, 3, 0, 0, 6) :: (0, 2, 0, 0, (-2)) :: (6, 3, 0, 0, 0) :: []) (by decide +kernel) h
  exact h2
theorem eg278_151_0_8 {n : Nat} {w : px_W} {r : Option Value × px_W} {x1 : Int} (h : ec_E hb_X n 278 0 [(0, .inr (.inl 215)), (1, .inl x1)] [] w r) : (ec_tw (ec_rd w 176 (ec_tw x1)) < 1 ∨ 1 + 5 < ec_tw (ec_rd w 176 (ec_tw x1))) → ((True ∧ 0 ≤ ec_tw x1 ∧ ec_tw x1 < 4) ∧ 0 ≤ ec_tw x1 ∧ ec_tw x1 < 4) ∧ r = (ec_R (-1), w) ∧ ec_W hb_A w := by
  have h2 := hb_ecw ((0, 1, 0, 0, 0) :: (5, 1, 151, 241, 0) :: (0, 0, 1, 0, 0) :: (5, 2, 177, 0, 4) :: (0, 3, 2, 0, 0) :: (0, 1, 0, 0, 0) :: (5, 1, 151, 240, 0) :: (0, 0, 1, 0, 0) :: (5, 2, 176, 0, 4) :: (4, 4, 5, 0, 1) :: (0, 2, 0, 0, (-1)) :: (6, 3, 0, 0, 0) :: []) (by decide +kernel) h
  exact h2
theorem eg278_151_59_0 {n : Nat} {w : px_W} {r : Option Value × px_W} {x1 x2 s0 : Int} (h : ec_E hb_X n 278 59 [(0, .inr (.inl 215)), (1, .inl x1), (2, .inl x2)] [.inl s0] w r) : ec_tw s0 ≠ ec_tw 0 → ec_tw (ec_rd w 152 (ec_tw ((216 + (4 * x2)) + 3))) ≠ ec_tw 1 → (True ∧ 0 ≤ ec_tw ((216 + (4 * x2)) + 3) ∧ ec_tw ((216 + (4 * x2)) + 3) < 1580) ∧ r = (ec_R 2, w) ∧ ec_W hb_A w := by
  have h2 := hb_ecw ((4, 1, 1, 1, 0) :: (0, 1, 0, 0, 0) :: (5, 1, 151, 216, 0) :: (0, 2, 0, 0, 216) :: (0, 2, 0, 0, 4) :: (0, 0, 2, 0, 0) :: (1, 2, 0, 0, 0) :: (1, 0, 0, 0, 0) :: (0, 2, 0, 0, 3) :: (1, 0, 0, 0, 0) :: (5, 2, 152, 0, 1580) :: (0, 2, 0, 0, 1) :: (4, 2, 1, 1, 0) :: (0, 2, 0, 0, 2) :: (6, 3, 0, 0, 0) :: []) (by decide +kernel) h
  exact h2
theorem eg278_151_59_1 {n : Nat} {w : px_W} {r : Option Value × px_W} {x1 x2 s0 : Int} (h : ec_E hb_X n 278 59 [(0, .inr (.inl 215)), (1, .inl x1), (2, .inl x2)] [.inl s0] w r) : ec_tw s0 ≠ ec_tw 0 → ec_tw (ec_rd w 152 (ec_tw ((216 + (4 * x2)) + 3))) = ec_tw 1 → (True ∧ 0 ≤ ec_tw ((216 + (4 * x2)) + 3) ∧ ec_tw ((216 + (4 * x2)) + 3) < 1580) ∧ r = (ec_R 3, w) ∧ ec_W hb_A w := by
  have h2 := hb_ecw ((4, 1, 1, 1, 0) :: (0, 1, 0, 0, 0) :: (5, 1, 151, 216, 0) :: (0, 2, 0, 0, 216) :: (0, 2, 0, 0, 4) :: (0, 0, 2, 0, 0) :: (1, 2, 0, 0, 0) :: (1, 0, 0, 0, 0) :: (0, 2, 0, 0, 3) :: (1, 0, 0, 0, 0) :: (5, 2, 152, 0, 1580) :: (0, 2, 0, 0, 1) :: (4, 2, 0, 0, 0) :: (0, 2, 0, 0, 3) :: (4, 0, 0, 0, 0) :: (6, 3, 0, 0, 0) :: []) (by decide +kernel) h
  exact h2
theorem eg278_151_59_2 {n : Nat} {w : px_W} {r : Option Value × px_W} {x1 x2 s0 : Int} (h : ec_E hb_X n 278 59 [(0, .inr (.inl 215)), (1, .inl x1), (2, .inl x2)] [.inl s0] w r) : ec_tw s0 = ec_tw 0 → True ∧ r = (ec_R (-1), w) ∧ ec_W hb_A w := by
  have h2 := hb_ecw ((4, 1, 0, 0, 0) :: (0, 2, 0, 0, (-1)) :: (4, 0, 0, 0, 0) :: (6, 3, 0, 0, 0) :: []) (by decide +kernel) h
  exact h2
theorem eg278_151_112_0 {n : Nat} {w : px_W} {r : Option Value × px_W} {x1 x2 s0 : Int} (h : ec_E hb_X n 278 112 [(0, .inr (.inl 215)), (1, .inl x1), (2, .inl x2)] [.inl s0] w r) : ec_tw s0 = ec_tw 0 → True ∧ r = (ec_R (-1), w) ∧ ec_W hb_A w := by
  have h2 := hb_ecw ((4, 1, 0, 1, 0) :: (0, 2, 0, 0, (-1)) :: (6, 3, 0, 0, 0) :: []) (by decide +kernel) h
  exact h2
theorem eg278_151_112_1 {n : Nat} {w : px_W} {r : Option Value × px_W} {x1 x2 s0 : Int} (h : ec_E hb_X n 278 112 [(0, .inr (.inl 215)), (1, .inl x1), (2, .inl x2)] [.inl s0] w r) : ec_tw s0 ≠ ec_tw 0 → True ∧ r = (ec_R 5, w) ∧ ec_W hb_A w := by
  have h2 := hb_ecw ((4, 1, 1, 0, 0) :: (0, 2, 0, 0, 5) :: (4, 0, 0, 0, 0) :: (6, 3, 0, 0, 0) :: []) (by decide +kernel) h
  exact h2
/-! X12_act -/
theorem eg289_151_0_0 {n : Nat} {w : px_W} {r : Option Value × px_W} {x1 x2 x3 : Int} (h : ec_E hb_X n 289 0 [(0, .inr (.inl 215)), (1, .inl x1), (2, .inl x2), (3, .inl x3)] [] w r) : True ∧ ∃ (v : Option Value) (w1 : px_W), ec_E hb_X n 271 0 [(0, .inl x1)] [] (ec_pf w 151 47 0) (v, w1) ∧ ∀ zz : Int, v = ec_R zz → ec_W hb_A w1 → ec_E hb_X n 289 9 [(0, .inr (.inl 215)), (1, .inl x1), (2, .inl x2), (3, .inl x3)] [.inl zz] w1 r := by
  have h2 := hb_ecw ((0, 1, 0, 0, 0) :: (0, 2, 0, 0, 0) :: (5, 4, 151, 47, 0) :: (0, 0, 1, 0, 0) :: (6, 1, 271, 1, 9) :: []) (by decide +kernel) h
  exact h2
theorem eg289_151_9_0 {n : Nat} {w : px_W} {r : Option Value × px_W} {x1 x2 x3 s0 : Int} (h : ec_E hb_X n 289 9 [(0, .inr (.inl 215)), (1, .inl x1), (2, .inl x2), (3, .inl x3)] [.inl s0] w r) : ec_tw s0 = ec_tw 0 → True ∧ r = (ec_R 0, w) ∧ ec_W hb_A w := by
  have h2 := hb_ecw ((4, 1, 0, 1, 0) :: (0, 2, 0, 0, 0) :: (6, 3, 0, 0, 0) :: []) (by decide +kernel) h
  exact h2
theorem eg289_151_9_1 {n : Nat} {w : px_W} {r : Option Value × px_W} {x1 x2 x3 s0 : Int} (h : ec_E hb_X n 289 9 [(0, .inr (.inl 215)), (1, .inl x1), (2, .inl x2), (3, .inl x3)] [.inl s0] w r) : ec_tw s0 ≠ ec_tw 0 → True ∧ ∃ (v : Option Value) (w1 : px_W), ec_E hb_X n 182 0 [(0, .inl x2), (1, .inl 0), (2, .inl 3)] [] w (v, w1) ∧ ∀ zz : Int, v = ec_R zz → ec_W hb_A w1 → ec_E hb_X n 289 18 [(0, .inr (.inl 215)), (1, .inl x1), (2, .inl x2), (3, .inl x3)] [.inl zz] w1 r := by
  have h2 := hb_ecw ((4, 1, 1, 0, 0) :: (0, 0, 2, 0, 0) :: (0, 2, 0, 0, 0) :: (0, 2, 0, 0, 3) :: (6, 1, 182, 3, 18) :: []) (by decide +kernel) h
  exact h2
theorem eg289_151_18_0 {n : Nat} {w : px_W} {r : Option Value × px_W} {x1 x2 x3 s0 : Int} (h : ec_E hb_X n 289 18 [(0, .inr (.inl 215)), (1, .inl x1), (2, .inl x2), (3, .inl x3)] [.inl s0] w r) : ec_tw s0 = ec_tw 0 → True ∧ r = (ec_R 0, w) ∧ ec_W hb_A w := by
  have h2 := hb_ecw ((4, 1, 0, 1, 0) :: (0, 2, 0, 0, 0) :: (6, 3, 0, 0, 0) :: []) (by decide +kernel) h
  exact h2
theorem eg289_151_18_1 {n : Nat} {w : px_W} {r : Option Value × px_W} {x1 x2 x3 s0 : Int} (h : ec_E hb_X n 289 18 [(0, .inr (.inl 215)), (1, .inl x1), (2, .inl x2), (3, .inl x3)] [.inl s0] w r) : ec_tw s0 ≠ ec_tw 0 → True ∧ ∃ (v : Option Value) (w1 : px_W), ec_E hb_X n 278 0 [(0, .inr (.inl 215)), (1, .inl x1)] [] w (v, w1) ∧ ∀ zz : Int, v = ec_R zz → ec_W hb_A w1 → ec_E hb_X n 289 26 [(0, .inr (.inl 215)), (1, .inl x1), (2, .inl x2), (3, .inl x3)] [.inl zz] w1 r := by
  have h2 := hb_ecw ((4, 1, 1, 0, 0) :: (0, 1, 0, 0, 0) :: (0, 0, 1, 0, 0) :: (6, 1, 278, 2, 26) :: []) (by decide +kernel) h
  exact h2
theorem eg289_151_26_0 {n : Nat} {w : px_W} {r : Option Value × px_W} {x1 x2 x3 s0 : Int} (h : ec_E hb_X n 289 26 [(0, .inr (.inl 215)), (1, .inl x1), (2, .inl x2), (3, .inl x3)] [.inl s0] w r) : ec_tw 0 ≤ ec_tw s0 → True ∧ ec_E hb_X n 289 31 [(0, .inr (.inl 215)), (1, .inl x1), (2, .inl x2), (3, .inl x3)] [] w r := by
  have h2 := hb_ecw ((4, 1, 3, 1, 0) :: (6, 0, 31, 4, 0) :: []) (by decide +kernel) h
  exact h2
theorem eg289_151_26_1 {n : Nat} {w : px_W} {r : Option Value × px_W} {x1 x2 x3 s0 : Int} (h : ec_E hb_X n 289 26 [(0, .inr (.inl 215)), (1, .inl x1), (2, .inl x2), (3, .inl x3)] [.inl s0] w r) : ec_tw s0 < ec_tw 0 → True ∧ r = (ec_R 0, w) ∧ ec_W hb_A w := by
  have h2 := hb_ecw ((4, 1, 2, 0, 0) :: (0, 2, 0, 0, 0) :: (6, 3, 0, 0, 0) :: []) (by decide +kernel) h
  exact h2
theorem eg289_151_31_0 {n : Nat} {w : px_W} {r : Option Value × px_W} {x1 x2 x3 : Int} (h : ec_E hb_X n 289 31 [(0, .inr (.inl 215)), (1, .inl x1), (2, .inl x2), (3, .inl x3)] [] w r) : True ∧ ∃ (v : Option Value) (w1 : px_W), ec_E hb_X n 278 0 [(0, .inr (.inl 215)), (1, .inl x1)] [] w (v, w1) ∧ ∀ zz : Int, v = ec_R zz → ec_W hb_A w1 → ec_E hb_X n 289 37 [(0, .inr (.inl 215)), (1, .inl x1), (2, .inl x2), (3, .inl x3)] [.inl zz, .inr (.inl 215)] w1 r := by
  have h2 := hb_ecw ((0, 1, 0, 0, 0) :: (0, 1, 0, 0, 0) :: (0, 0, 1, 0, 0) :: (6, 1, 278, 2, 37) :: []) (by decide +kernel) h
  exact h2
theorem eg289_151_37_0 {n : Nat} {w : px_W} {r : Option Value × px_W} {x1 x2 x3 s1 : Int} (h : ec_E hb_X n 289 37 [(0, .inr (.inl 215)), (1, .inl x1), (2, .inl x2), (3, .inl x3)] [.inl s1, .inr (.inl 215)] w r) : (True ∧ 0 ≤ ec_tw x1 ∧ ec_tw x1 < 4) ∧ ec_E hb_X n 289 50 [(0, .inr (.inl 215)), (1, .inl x1), (2, .inl x2), (3, .inl x3)] [] (ec_pf (ec_pf w 151 48 s1) 151 49 (ec_rd (ec_pf w 151 48 s1) 177 (ec_tw x1))) r := by
  have h2 := hb_ecw ((5, 4, 151, 48, 0) :: (0, 1, 0, 0, 0) :: (0, 1, 0, 0, 0) :: (5, 1, 151, 241, 0) :: (0, 0, 1, 0, 0) :: (5, 2, 177, 0, 4) :: (5, 4, 151, 49, 0) :: (6, 0, 50, 4, 0) :: []) (by decide +kernel) h
  exact h2
theorem eg289_151_50_0 {n : Nat} {w : px_W} {r : Option Value × px_W} {x1 x2 x3 : Int} (h : ec_E hb_X n 289 50 [(0, .inr (.inl 215)), (1, .inl x1), (2, .inl x2), (3, .inl x3)] [] w r) : ec_tw (ec_fd w 151 48) ≠ ec_tw 1 → ec_tw 4 ≤ ec_tw (ec_fd w 151 48) → ec_tw (ec_fd w 151 48) ≠ ec_tw 4 → ec_tw (ec_fd w 151 48) ≠ ec_tw 5 → (True ∧ 0 ≤ ec_tw ((318 + (3 * (ec_fd w 151 49))) + 1) ∧ ec_tw ((318 + (3 * (ec_fd w 151 49))) + 1) < 1580) ∧ ec_E hb_X n 289 167 [(0, .inr (.inl 215)), (1, .inl x1), (2, .inl x2), (3, .inl x3)] [.inl (ec_rd w 152 (ec_tw ((318 + (3 * (ec_fd w 151 49))) + 1))), .inr (.inl 215)] w r := by
  have h2 := hb_ecw ((0, 1, 0, 0, 0) :: (0, 1, 0, 0, 0) :: (5, 0, 151, 48, 0) :: (0, 2, 0, 0, 1) :: (4, 2, 1, 1, 0) :: (0, 1, 0, 0, 0) :: (5, 0, 151, 48, 0) :: (0, 2, 0, 0, 4) :: (4, 2, 3, 1, 0) :: (0, 1, 0, 0, 0) :: (5, 0, 151, 48, 0) :: (0, 2, 0, 0, 4) :: (4, 2, 1, 1, 0) :: (0, 1, 0, 0, 0) :: (5, 0, 151, 48, 0) :: (0, 2, 0, 0, 5) :: (4, 2, 1, 1, 0) :: (0, 1, 0, 0, 0) :: (5, 1, 151, 216, 0) :: (0, 2, 0, 0, 318) :: (0, 2, 0, 0, 3) :: (0, 1, 0, 0, 0) :: (5, 0, 151, 49, 0) :: (1, 2, 0, 0, 0) :: (1, 0, 0, 0, 0) :: (0, 2, 0, 0, 1) :: (1, 0, 0, 0, 0) :: (5, 2, 152, 0, 1580) :: (6, 0, 167, 4, 0) :: []) (by decide +kernel) h
  exact h2
theorem eg289_151_50_1 {n : Nat} {w : px_W} {r : Option Value × px_W} {x1 x2 x3 : Int} (h : ec_E hb_X n 289 50 [(0, .inr (.inl 215)), (1, .inl x1), (2, .inl x2), (3, .inl x3)] [] w r) : ec_tw (ec_fd w 151 48) ≠ ec_tw 1 → ec_tw 4 ≤ ec_tw (ec_fd w 151 48) → ec_tw (ec_fd w 151 48) ≠ ec_tw 4 → ec_tw (ec_fd w 151 48) = ec_tw 5 → (True ∧ 0 ≤ ec_tw (294 + (3 * (ec_fd w 151 49))) ∧ ec_tw (294 + (3 * (ec_fd w 151 49))) < 1580) ∧ ec_E hb_X n 289 167 [(0, .inr (.inl 215)), (1, .inl x1), (2, .inl x2), (3, .inl x3)] [.inl (ec_rd w 152 (ec_tw (294 + (3 * (ec_fd w 151 49))))), .inr (.inl 215)] w r := by
  have h2 := hb_ecw ((0, 1, 0, 0, 0) :: (0, 1, 0, 0, 0) :: (5, 0, 151, 48, 0) :: (0, 2, 0, 0, 1) :: (4, 2, 1, 1, 0) :: (0, 1, 0, 0, 0) :: (5, 0, 151, 48, 0) :: (0, 2, 0, 0, 4) :: (4, 2, 3, 1, 0) :: (0, 1, 0, 0, 0) :: (5, 0, 151, 48, 0) :: (0, 2, 0, 0, 4) :: (4, 2, 1, 1, 0) :: (0, 1, 0, 0, 0) :: (5, 0, 151, 48, 0) :: (0, 2, 0, 0, 5) :: (4, 2, 0, 0, 0) :: (0, 1, 0, 0, 0) :: (5, 1, 151, 216, 0) :: (0, 2, 0, 0, 294) :: (0, 2, 0, 0, 3) :: (0, 1, 0, 0, 0) :: (5, 0, 151, 49, 0) :: (1, 2, 0, 0, 0) :: (1, 0, 0, 0, 0) :: (5, 2, 152, 0, 1580) :: (4, 0, 0, 0, 0) :: (6, 0, 167, 4, 0) :: []) (by decide +kernel) h
  exact h2
theorem eg289_151_50_2 {n : Nat} {w : px_W} {r : Option Value × px_W} {x1 x2 x3 : Int} (h : ec_E hb_X n 289 50 [(0, .inr (.inl 215)), (1, .inl x1), (2, .inl x2), (3, .inl x3)] [] w r) : ec_tw (ec_fd w 151 48) ≠ ec_tw 1 → ec_tw 4 ≤ ec_tw (ec_fd w 151 48) → ec_tw (ec_fd w 151 48) = ec_tw 4 → (True ∧ 0 ≤ ec_tw (284 + (ec_fd w 151 49)) ∧ ec_tw (284 + (ec_fd w 151 49)) < 1580) ∧ ec_E hb_X n 289 167 [(0, .inr (.inl 215)), (1, .inl x1), (2, .inl x2), (3, .inl x3)] [.inl (ec_rd w 152 (ec_tw (284 + (ec_fd w 151 49)))), .inr (.inl 215)] w r := by
  have h2 := hb_ecw ((0, 1, 0, 0, 0) :: (0, 1, 0, 0, 0) :: (5, 0, 151, 48, 0) :: (0, 2, 0, 0, 1) :: (4, 2, 1, 1, 0) :: (0, 1, 0, 0, 0) :: (5, 0, 151, 48, 0) :: (0, 2, 0, 0, 4) :: (4, 2, 3, 1, 0) :: (0, 1, 0, 0, 0) :: (5, 0, 151, 48, 0) :: (0, 2, 0, 0, 4) :: (4, 2, 0, 0, 0) :: (0, 1, 0, 0, 0) :: (5, 1, 151, 216, 0) :: (0, 2, 0, 0, 284) :: (0, 1, 0, 0, 0) :: (5, 0, 151, 49, 0) :: (1, 0, 0, 0, 0) :: (5, 2, 152, 0, 1580) :: (4, 0, 0, 0, 0) :: (6, 0, 167, 4, 0) :: []) (by decide +kernel) h
  exact h2
theorem eg289_151_50_3 {n : Nat} {w : px_W} {r : Option Value × px_W} {x1 x2 x3 : Int} (h : ec_E hb_X n 289 50 [(0, .inr (.inl 215)), (1, .inl x1), (2, .inl x2), (3, .inl x3)] [] w r) : ec_tw (ec_fd w 151 48) ≠ ec_tw 1 → ec_tw (ec_fd w 151 48) < ec_tw 4 → (True ∧ 0 ≤ ec_tw (216 + (4 * (ec_fd w 151 49))) ∧ ec_tw (216 + (4 * (ec_fd w 151 49))) < 1580) ∧ ec_E hb_X n 289 167 [(0, .inr (.inl 215)), (1, .inl x1), (2, .inl x2), (3, .inl x3)] [.inl (ec_rd w 152 (ec_tw (216 + (4 * (ec_fd w 151 49))))), .inr (.inl 215)] w r := by
  have h2 := hb_ecw ((0, 1, 0, 0, 0) :: (0, 1, 0, 0, 0) :: (5, 0, 151, 48, 0) :: (0, 2, 0, 0, 1) :: (4, 2, 1, 1, 0) :: (0, 1, 0, 0, 0) :: (5, 0, 151, 48, 0) :: (0, 2, 0, 0, 4) :: (4, 2, 2, 0, 0) :: (0, 1, 0, 0, 0) :: (5, 1, 151, 216, 0) :: (0, 2, 0, 0, 216) :: (0, 2, 0, 0, 4) :: (0, 1, 0, 0, 0) :: (5, 0, 151, 49, 0) :: (1, 2, 0, 0, 0) :: (1, 0, 0, 0, 0) :: (5, 2, 152, 0, 1580) :: (4, 0, 0, 0, 0) :: (6, 0, 167, 4, 0) :: []) (by decide +kernel) h
  exact h2
theorem eg289_151_50_4 {n : Nat} {w : px_W} {r : Option Value × px_W} {x1 x2 x3 : Int} (h : ec_E hb_X n 289 50 [(0, .inr (.inl 215)), (1, .inl x1), (2, .inl x2), (3, .inl x3)] [] w r) : ec_tw (ec_fd w 151 48) = ec_tw 1 → (True ∧ 0 ≤ ec_tw (16 + (ec_fd w 151 49)) ∧ ec_tw (16 + (ec_fd w 151 49)) < 1580) ∧ ec_E hb_X n 289 167 [(0, .inr (.inl 215)), (1, .inl x1), (2, .inl x2), (3, .inl x3)] [.inl (ec_rd w 152 (ec_tw (16 + (ec_fd w 151 49)))), .inr (.inl 215)] w r := by
  have h2 := hb_ecw ((0, 1, 0, 0, 0) :: (0, 1, 0, 0, 0) :: (5, 0, 151, 48, 0) :: (0, 2, 0, 0, 1) :: (4, 2, 0, 0, 0) :: (0, 1, 0, 0, 0) :: (5, 1, 151, 216, 0) :: (0, 2, 0, 0, 16) :: (0, 1, 0, 0, 0) :: (5, 0, 151, 49, 0) :: (1, 0, 0, 0, 0) :: (5, 2, 152, 0, 1580) :: (4, 0, 0, 0, 0) :: (6, 0, 167, 4, 0) :: []) (by decide +kernel) h
  exact h2
theorem eg289_151_167_0 {n : Nat} {w : px_W} {r : Option Value × px_W} {x1 x2 x3 s1 : Int} (h : ec_E hb_X n 289 167 [(0, .inr (.inl 215)), (1, .inl x1), (2, .inl x2), (3, .inl x3)] [.inl s1, .inr (.inl 215)] w r) : True ∧ ec_E hb_X n 289 175 [(0, .inr (.inl 215)), (1, .inl x1), (2, .inl x2), (3, .inl x3)] [] (ec_pf (ec_pf w 151 50 s1) 151 51 0) r := by
  have h2 := hb_ecw ((5, 4, 151, 50, 0) :: (0, 1, 0, 0, 0) :: (0, 2, 0, 0, 0) :: (5, 4, 151, 51, 0) :: (6, 0, 175, 4, 0) :: []) (by decide +kernel) h
  exact h2
theorem eg289_151_175_0 {n : Nat} {w : px_W} {r : Option Value × px_W} {x1 x2 x3 : Int} (h : ec_E hb_X n 289 175 [(0, .inr (.inl 215)), (1, .inl x1), (2, .inl x2), (3, .inl x3)] [] w r) : ec_tw x2 ≠ ec_tw 0 → ec_tw x2 ≠ ec_tw 1 → ec_tw x2 ≠ ec_tw 2 → True ∧ ∃ (v : Option Value) (w1 : px_W), ec_E hb_X n 288 0 [(0, .inr (.inl 215)), (1, .inl x3)] [] w (v, w1) ∧ ∀ zz : Int, v = ec_R zz → ec_W hb_A w1 → ec_E hb_X n 289 218 [(0, .inr (.inl 215)), (1, .inl x1), (2, .inl x2), (3, .inl x3)] [.inl zz] w1 r := by
  have h2 := hb_ecw ((0, 0, 2, 0, 0) :: (4, 1, 1, 1, 0) :: (0, 0, 2, 0, 0) :: (0, 2, 0, 0, 1) :: (4, 2, 1, 1, 0) :: (0, 0, 2, 0, 0) :: (0, 2, 0, 0, 2) :: (4, 2, 1, 1, 0) :: (0, 1, 0, 0, 0) :: (0, 0, 3, 0, 0) :: (6, 1, 288, 2, 218) :: []) (by decide +kernel) h
  exact h2
theorem eg289_151_175_1 {n : Nat} {w : px_W} {r : Option Value × px_W} {x1 x2 x3 : Int} (h : ec_E hb_X n 289 175 [(0, .inr (.inl 215)), (1, .inl x1), (2, .inl x2), (3, .inl x3)] [] w r) : ec_tw x2 ≠ ec_tw 0 → ec_tw x2 ≠ ec_tw 1 → ec_tw x2 = ec_tw 2 → True ∧ ∃ (v : Option Value) (w1 : px_W), ec_E hb_X n 286 0 [(0, .inr (.inl 215)), (1, .inl x3)] [] w (v, w1) ∧ ∀ zz : Int, v = ec_R zz → ec_W hb_A w1 → ec_E hb_X n 289 210 [(0, .inr (.inl 215)), (1, .inl x1), (2, .inl x2), (3, .inl x3)] [.inl zz] w1 r := by
  have h2 := hb_ecw ((0, 0, 2, 0, 0) :: (4, 1, 1, 1, 0) :: (0, 0, 2, 0, 0) :: (0, 2, 0, 0, 1) :: (4, 2, 1, 1, 0) :: (0, 0, 2, 0, 0) :: (0, 2, 0, 0, 2) :: (4, 2, 0, 0, 0) :: (0, 1, 0, 0, 0) :: (0, 0, 3, 0, 0) :: (6, 1, 286, 2, 210) :: []) (by decide +kernel) h
  exact h2
theorem eg289_151_175_2 {n : Nat} {w : px_W} {r : Option Value × px_W} {x1 x2 x3 : Int} (h : ec_E hb_X n 289 175 [(0, .inr (.inl 215)), (1, .inl x1), (2, .inl x2), (3, .inl x3)] [] w r) : ec_tw x2 ≠ ec_tw 0 → ec_tw x2 = ec_tw 1 → True ∧ ∃ (v : Option Value) (w1 : px_W), ec_E hb_X n 284 0 [(0, .inr (.inl 215)), (1, .inl x3)] [] w (v, w1) ∧ ∀ zz : Int, v = ec_R zz → ec_W hb_A w1 → ec_E hb_X n 289 197 [(0, .inr (.inl 215)), (1, .inl x1), (2, .inl x2), (3, .inl x3)] [.inl zz] w1 r := by
  have h2 := hb_ecw ((0, 0, 2, 0, 0) :: (4, 1, 1, 1, 0) :: (0, 0, 2, 0, 0) :: (0, 2, 0, 0, 1) :: (4, 2, 0, 0, 0) :: (0, 1, 0, 0, 0) :: (0, 0, 3, 0, 0) :: (6, 1, 284, 2, 197) :: []) (by decide +kernel) h
  exact h2
theorem eg289_151_175_3 {n : Nat} {w : px_W} {r : Option Value × px_W} {x1 x2 x3 : Int} (h : ec_E hb_X n 289 175 [(0, .inr (.inl 215)), (1, .inl x1), (2, .inl x2), (3, .inl x3)] [] w r) : ec_tw x2 = ec_tw 0 → True ∧ ∃ (v : Option Value) (w1 : px_W), ec_E hb_X n 282 0 [(0, .inr (.inl 215)), (1, .inl x3)] [] w (v, w1) ∧ ∀ zz : Int, v = ec_R zz → ec_W hb_A w1 → ec_E hb_X n 289 184 [(0, .inr (.inl 215)), (1, .inl x1), (2, .inl x2), (3, .inl x3)] [.inl zz] w1 r := by
  have h2 := hb_ecw ((0, 0, 2, 0, 0) :: (4, 1, 0, 0, 0) :: (0, 1, 0, 0, 0) :: (0, 0, 3, 0, 0) :: (6, 1, 282, 2, 184) :: []) (by decide +kernel) h
  exact h2
theorem eg289_151_218_0 {n : Nat} {w : px_W} {r : Option Value × px_W} {x1 x2 x3 s0 : Int} (h : ec_E hb_X n 289 218 [(0, .inr (.inl 215)), (1, .inl x1), (2, .inl x2), (3, .inl x3)] [.inl s0] w r) : ec_tw (ec_fd w 151 51) = ec_tw 0 → True ∧ r = (ec_R s0, w) ∧ ec_W hb_A w := by
  have h2 := hb_ecw ((0, 3, 4, 0, 0) :: (0, 1, 0, 0, 0) :: (5, 0, 151, 51, 0) :: (4, 1, 0, 1, 0) :: (0, 0, 4, 0, 0) :: (6, 3, 0, 0, 0) :: []) (by decide +kernel) h
  exact h2
theorem eg289_151_218_1 {n : Nat} {w : px_W} {r : Option Value × px_W} {x1 x2 x3 s0 : Int} (h : ec_E hb_X n 289 218 [(0, .inr (.inl 215)), (1, .inl x1), (2, .inl x2), (3, .inl x3)] [.inl s0] w r) : ec_tw (ec_fd w 151 51) ≠ ec_tw 0 → True ∧ r = (ec_R (-15), w) ∧ ec_W hb_A w := by
  have h2 := hb_ecw ((0, 3, 4, 0, 0) :: (0, 1, 0, 0, 0) :: (5, 0, 151, 51, 0) :: (4, 1, 1, 0, 0) :: (0, 2, 0, 0, (-15)) :: (4, 0, 0, 0, 0) :: (6, 3, 0, 0, 0) :: []) (by decide +kernel) h
  exact h2
theorem eg289_151_210_0 {n : Nat} {w : px_W} {r : Option Value × px_W} {x1 x2 x3 s0 : Int} (h : ec_E hb_X n 289 210 [(0, .inr (.inl 215)), (1, .inl x1), (2, .inl x2), (3, .inl x3)] [.inl s0] w r) : True ∧ ec_E hb_X n 289 218 [(0, .inr (.inl 215)), (1, .inl x1), (2, .inl x2), (3, .inl x3)] [.inl s0] w r := by
  have h2 := hb_ecw ((4, 0, 0, 0, 0) :: (6, 0, 218, 4, 0) :: []) (by decide +kernel) h
  exact h2
theorem eg289_151_197_0 {n : Nat} {w : px_W} {r : Option Value × px_W} {x1 x2 x3 s0 : Int} (h : ec_E hb_X n 289 197 [(0, .inr (.inl 215)), (1, .inl x1), (2, .inl x2), (3, .inl x3)] [.inl s0] w r) : True ∧ ec_E hb_X n 289 218 [(0, .inr (.inl 215)), (1, .inl x1), (2, .inl x2), (3, .inl x3)] [.inl s0] w r := by
  have h2 := hb_ecw ((4, 0, 0, 0, 0) :: (6, 0, 218, 4, 0) :: []) (by decide +kernel) h
  exact h2
theorem eg289_151_184_0 {n : Nat} {w : px_W} {r : Option Value × px_W} {x1 x2 x3 s0 : Int} (h : ec_E hb_X n 289 184 [(0, .inr (.inl 215)), (1, .inl x1), (2, .inl x2), (3, .inl x3)] [.inl s0] w r) : True ∧ ec_E hb_X n 289 218 [(0, .inr (.inl 215)), (1, .inl x1), (2, .inl x2), (3, .inl x3)] [.inl s0] w r := by
  have h2 := hb_ecw ((4, 0, 0, 0, 0) :: (6, 0, 218, 4, 0) :: []) (by decide +kernel) h
  exact h2
/-! X12_trace -/
theorem eg290_151_0_0 {n : Nat} {w : px_W} {r : Option Value × px_W} {x1 : Int} (h : ec_E hb_X n 290 0 [(0, .inr (.inl 215)), (1, .inl x1)] [] w r) : True ∧ ∃ (v : Option Value) (w1 : px_W), ec_E hb_X n 182 0 [(0, .inl x1), (1, .inl 0), (2, .inl ((ec_fd w 151 47) - 1))] [] w (v, w1) ∧ ∀ zz : Int, v = ec_R zz → ec_W hb_A w1 → ec_E hb_X n 290 11 [(0, .inr (.inl 215)), (1, .inl x1)] [.inl zz] w1 r := by
  have h2 := hb_ecw ((0, 0, 1, 0, 0) :: (0, 2, 0, 0, 0) :: (0, 1, 0, 0, 0) :: (5, 0, 151, 47, 0) :: (0, 2, 0, 0, 1) :: (1, 1, 0, 0, 0) :: (6, 1, 182, 3, 11) :: []) (by decide +kernel) h
  exact h2
theorem eg290_151_11_0 {n : Nat} {w : px_W} {r : Option Value × px_W} {x1 s0 : Int} (h : ec_E hb_X n 290 11 [(0, .inr (.inl 215)), (1, .inl x1)] [.inl s0] w r) : ec_tw s0 = ec_tw 0 → True ∧ r = (ec_R (-3), w) ∧ ec_W hb_A w := by
  have h2 := hb_ecw ((4, 1, 0, 1, 0) :: (0, 2, 0, 0, (-3)) :: (6, 3, 0, 0, 0) :: []) (by decide +kernel) h
  exact h2
theorem eg290_151_11_1 {n : Nat} {w : px_W} {r : Option Value × px_W} {x1 s0 : Int} (h : ec_E hb_X n 290 11 [(0, .inr (.inl 215)), (1, .inl x1)] [.inl s0] w r) : ec_tw s0 ≠ ec_tw 0 → (True ∧ 0 ≤ ec_tw x1 ∧ ec_tw x1 < 30) ∧ r = (ec_R (ec_rd w 178 (ec_tw x1)), w) ∧ ec_W hb_A w := by
  have h2 := hb_ecw ((4, 1, 1, 0, 0) :: (0, 1, 0, 0, 0) :: (5, 1, 151, 242, 0) :: (0, 0, 1, 0, 0) :: (5, 2, 178, 0, 30) :: (4, 0, 0, 0, 0) :: (6, 3, 0, 0, 0) :: []) (by decide +kernel) h
  exact h2

end

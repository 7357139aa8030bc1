noncomputable section
/-! X1_isPlace -/
theorem eg13_0_0 {n : Nat} {w : px_W} {r : Option Value × px_W} {x0 : Int} (h : ec_E hb_X n 13 0 [(0, .inl x0)] [] w r) : ec_tw x0 < ec_tw 0 → True ∧ r = (ec_R 0, w) ∧ ec_W hb_A w := by
  have h2 := hb_ecw ((0, 0, 0, 0, 0) :: (4, 1, 2, 1, 0) :: (0, 2, 0, 0, 0) :: (6, 3, 0, 0, 0) :: []) (by decide +kernel) h
  exact h2
theorem eg13_0_1 {n : Nat} {w : px_W} {r : Option Value × px_W} {x0 : Int} (h : ec_E hb_X n 13 0 [(0, .inl x0)] [] w r) : ec_tw 0 ≤ ec_tw x0 → ec_tw 8 ≤ ec_tw x0 → True ∧ r = (ec_R 0, w) ∧ ec_W hb_A w := by
  have h2 := hb_ecw ((0, 0, 0, 0, 0) :: (4, 1, 3, 0, 0) :: (0, 0, 0, 0, 0) :: (0, 2, 0, 0, 8) :: (4, 2, 3, 1, 0) :: (0, 2, 0, 0, 0) :: (6, 3, 0, 0, 0) :: []) (by decide +kernel) h
  exact h2
theorem eg13_0_2 {n : Nat} {w : px_W} {r : Option Value × px_W} {x0 : Int} (h : ec_E hb_X n 13 0 [(0, .inl x0)] [] w r) : ec_tw 0 ≤ ec_tw x0 → ec_tw x0 < ec_tw 8 → True ∧ r = (ec_R 1, w) ∧ ec_W hb_A w := by
  have h2 := hb_ecw ((0, 0, 0, 0, 0) :: (4, 1, 3, 0, 0) :: (0, 0, 0, 0, 0) :: (0, 2, 0, 0, 8) :: (4, 2, 2, 0, 0) :: (0, 2, 0, 0, 1) :: (4, 0, 0, 0, 0) :: (6, 3, 0, 0, 0) :: []) (by decide +kernel) h
  exact h2
/-! X12_isPlace -/
theorem eg205_0_0 {n : Nat} {w : px_W} {r : Option Value × px_W} {x0 : Int} (h : ec_E hb_X n 205 0 [(0, .inl x0)] [] w r) : True ∧ ∃ (v : Option Value) (w1 : px_W), ec_E hb_X n 182 0 [(0, .inl x0), (1, .inl 0), (2, .inl 7)] [] w (v, w1) ∧ ∀ zz : Int, v = ec_R zz → ec_W hb_A w1 → ec_E hb_X n 205 7 [(0, .inl x0)] [.inl zz] w1 r := by
  have h2 := hb_ecw ((0, 0, 0, 0, 0) :: (0, 2, 0, 0, 0) :: (0, 2, 0, 0, 7) :: (6, 1, 182, 3, 7) :: []) (by decide +kernel) h
  exact h2
theorem eg205_7_0 {n : Nat} {w : px_W} {r : Option Value × px_W} {x0 s0 : Int} (h : ec_E hb_X n 205 7 [(0, .inl x0)] [.inl s0] w r) : True ∧ r = (ec_R s0, w) ∧ ec_W hb_A w := by
  have h2 := hb_ecw ((6, 3, 0, 0, 0) :: []) (by decide +kernel) h
  exact h2

end

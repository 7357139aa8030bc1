noncomputable section
/-! X11_within -/
theorem eg173_0_0 {n : Nat} {w : px_W} {r : Option Value × px_W} {x0 x1 x2 : Int} (h : ec_E hb_X n 173 0 [(0, .inl x0), (1, .inl x1), (2, .inl x2)] [] w r) : ec_tw x0 < ec_tw x1 → True ∧ r = (ec_R 0, w) ∧ ec_W hb_A w := by
  have h2 := hb_ecw ((0, 0, 0, 0, 0) :: (0, 0, 1, 0, 0) :: (4, 2, 2, 1, 0) :: (0, 2, 0, 0, 0) :: (6, 3, 0, 0, 0) :: []) (by decide +kernel) h
  exact h2
theorem eg173_0_1 {n : Nat} {w : px_W} {r : Option Value × px_W} {x0 x1 x2 : Int} (h : ec_E hb_X n 173 0 [(0, .inl x0), (1, .inl x1), (2, .inl x2)] [] w r) : ec_tw x1 ≤ ec_tw x0 → ec_tw x2 < ec_tw x0 → True ∧ r = (ec_R 0, w) ∧ ec_W hb_A w := by
  have h2 := hb_ecw ((0, 0, 0, 0, 0) :: (0, 0, 1, 0, 0) :: (4, 2, 3, 0, 0) :: (0, 0, 0, 0, 0) :: (0, 0, 2, 0, 0) :: (4, 2, 4, 1, 0) :: (0, 2, 0, 0, 0) :: (6, 3, 0, 0, 0) :: []) (by decide +kernel) h
  exact h2
theorem eg173_0_2 {n : Nat} {w : px_W} {r : Option Value × px_W} {x0 x1 x2 : Int} (h : ec_E hb_X n 173 0 [(0, .inl x0), (1, .inl x1), (2, .inl x2)] [] w r) : ec_tw x1 ≤ ec_tw x0 → ec_tw x0 ≤ ec_tw x2 → True ∧ r = (ec_R 1, w) ∧ ec_W hb_A w := by
  have h2 := hb_ecw ((0, 0, 0, 0, 0) :: (0, 0, 1, 0, 0) :: (4, 2, 3, 0, 0) :: (0, 0, 0, 0, 0) :: (0, 0, 2, 0, 0) :: (4, 2, 5, 0, 0) :: (0, 2, 0, 0, 1) :: (4, 0, 0, 0, 0) :: (6, 3, 0, 0, 0) :: []) (by decide +kernel) h
  exact h2
/-! X12_in -/
theorem eg182_0_0 {n : Nat} {w : px_W} {r : Option Value × px_W} {x0 x1 x2 : Int} (h : ec_E hb_X n 182 0 [(0, .inl x0), (1, .inl x1), (2, .inl x2)] [] w r) : ec_tw x0 < ec_tw x1 → True ∧ r = (ec_R 0, w) ∧ ec_W hb_A w := by
  have h2 := hb_ecw ((0, 0, 0, 0, 0) :: (0, 0, 1, 0, 0) :: (4, 2, 2, 1, 0) :: (0, 2, 0, 0, 0) :: (6, 3, 0, 0, 0) :: []) (by decide +kernel) h
  exact h2
theorem eg182_0_1 {n : Nat} {w : px_W} {r : Option Value × px_W} {x0 x1 x2 : Int} (h : ec_E hb_X n 182 0 [(0, .inl x0), (1, .inl x1), (2, .inl x2)] [] w r) : ec_tw x1 ≤ ec_tw x0 → ec_tw x2 < ec_tw x0 → True ∧ r = (ec_R 0, w) ∧ ec_W hb_A w := by
  have h2 := hb_ecw ((0, 0, 0, 0, 0) :: (0, 0, 1, 0, 0) :: (4, 2, 3, 0, 0) :: (0, 0, 0, 0, 0) :: (0, 0, 2, 0, 0) :: (4, 2, 4, 1, 0) :: (0, 2, 0, 0, 0) :: (6, 3, 0, 0, 0) :: []) (by decide +kernel) h
  exact h2
theorem eg182_0_2 {n : Nat} {w : px_W} {r : Option Value × px_W} {x0 x1 x2 : Int} (h : ec_E hb_X n 182 0 [(0, .inl x0), (1, .inl x1), (2, .inl x2)] [] w r) : ec_tw x1 ≤ ec_tw x0 → ec_tw x0 ≤ ec_tw x2 → True ∧ r = (ec_R 1, w) ∧ ec_W hb_A w := by
  have h2 := hb_ecw ((0, 0, 0, 0, 0) :: (0, 0, 1, 0, 0) :: (4, 2, 3, 0, 0) :: (0, 0, 0, 0, 0) :: (0, 0, 2, 0, 0) :: (4, 2, 5, 0, 0) :: (0, 2, 0, 0, 1) :: (4, 0, 0, 0, 0) :: (6, 3, 0, 0, 0) :: []) (by decide +kernel) h
  exact h2

end

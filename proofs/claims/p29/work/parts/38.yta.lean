noncomputable section
/-! X11_isMinute -/
theorem eg174_0_0 {n : Nat} {w : px_W} {r : Option Value × px_W} {x0 : Int} (h : ec_E hb_X n 174 0 [(0, .inl x0)] [] w r) : ec_tw x0 < ec_tw 0 → True ∧ r = (ec_R 0, w) ∧ ec_W hb_A w := by
  have h2 := hb_ecw ((0, 0, 0, 0, 0) :: (4, 1, 2, 1, 0) :: (0, 2, 0, 0, 0) :: (6, 3, 0, 0, 0) :: []) (by decide +kernel) h
  exact h2
theorem eg174_0_1 {n : Nat} {w : px_W} {r : Option Value × px_W} {x0 : Int} (h : ec_E hb_X n 174 0 [(0, .inl x0)] [] w r) : ec_tw 0 ≤ ec_tw x0 → ec_tw 999 < ec_tw x0 → True ∧ r = (ec_R 0, w) ∧ ec_W hb_A w := by
  have h2 := hb_ecw ((0, 0, 0, 0, 0) :: (4, 1, 3, 0, 0) :: (0, 0, 0, 0, 0) :: (0, 2, 0, 0, 999) :: (4, 2, 4, 1, 0) :: (0, 2, 0, 0, 0) :: (6, 3, 0, 0, 0) :: []) (by decide +kernel) h
  exact h2
theorem eg174_0_2 {n : Nat} {w : px_W} {r : Option Value × px_W} {x0 : Int} (h : ec_E hb_X n 174 0 [(0, .inl x0)] [] w r) : ec_tw 0 ≤ ec_tw x0 → ec_tw x0 ≤ ec_tw 999 → True ∧ r = (ec_R 1, w) ∧ ec_W hb_A w := by
  have h2 := hb_ecw ((0, 0, 0, 0, 0) :: (4, 1, 3, 0, 0) :: (0, 0, 0, 0, 0) :: (0, 2, 0, 0, 999) :: (4, 2, 5, 0, 0) :: (0, 2, 0, 0, 1) :: (4, 0, 0, 0, 0) :: (6, 3, 0, 0, 0) :: []) (by decide +kernel) h
  exact h2
/-! X12_isMinute -/
theorem eg183_0_0 {n : Nat} {w : px_W} {r : Option Value × px_W} {x0 : Int} (h : ec_E hb_X n 183 0 [(0, .inl x0)] [] w r) : True ∧ ∃ (v : Option Value) (w1 : px_W), ec_E hb_X n 182 0 [(0, .inl x0), (1, .inl 0), (2, .inl 999)] [] w (v, w1) ∧ ∀ zz : Int, v = ec_R zz → ec_W hb_A w1 → ec_E hb_X n 183 8 [(0, .inl x0)] [.inl zz] w1 r := by
  have h2 := hb_ecw ((0, 0, 0, 0, 0) :: (0, 2, 0, 0, 0) :: (0, 2, 0, 0, 999) :: (6, 1, 182, 3, 8) :: []) (by decide +kernel) h
  exact h2
theorem eg183_8_0 {n : Nat} {w : px_W} {r : Option Value × px_W} {x0 s0 : Int} (h : ec_E hb_X n 183 8 [(0, .inl x0)] [.inl s0] w r) : True ∧ r = (ec_R s0, w) ∧ ec_W hb_A w := by
  have h2 := hb_ecw ((6, 3, 0, 0, 0) :: []) (by decide +kernel) h
  exact h2

end

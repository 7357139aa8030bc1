noncomputable section
/-! X11_row -/
theorem eg137_0_0_0 {n : Nat} {w : px_W} {r : Option Value × px_W} {x1 x2 : Int} (h : ec_E hb_X n 137 0 [(0, .inr (.inl 64)), (1, .inl x1), (2, .inl x2)] [] w r) : True ∧ ∃ (v : Option Value) (w1 : px_W), ec_E hb_X n 173 0 [(0, .inl x1), (1, .inl 0), (2, .inl ((ec_fd w 126 0) - 1))] [] w (v, w1) ∧ ∀ zz : Int, v = ec_R zz → ec_W hb_A w1 → ec_E hb_X n 137 14 [(0, .inr (.inl 64)), (1, .inl x1), (2, .inl x2)] [.inl zz] w1 r := by
  have h2 := hb_ecw ((0, 0, 1, 0, 0) :: (0, 2, 0, 0, 0) :: (0, 1, 0, 0, 0) :: (5, 1, 0, 190, 0) :: (5, 0, 126, 0, 0) :: (0, 2, 0, 0, 1) :: (1, 1, 0, 0, 0) :: (6, 1, 173, 3, 14) :: []) (by decide +kernel) h
  exact h2
theorem eg137_0_14_0 {n : Nat} {w : px_W} {r : Option Value × px_W} {x1 x2 s0 : Int} (h : ec_E hb_X n 137 14 [(0, .inr (.inl 64)), (1, .inl x1), (2, .inl x2)] [.inl s0] w r) : ec_tw s0 = ec_tw 0 → True ∧ r = (ec_R (-9), w) ∧ ec_W hb_A w := by
  have h2 := hb_ecw ((4, 1, 0, 1, 0) :: (0, 2, 0, 0, (-9)) :: (6, 3, 0, 0, 0) :: []) (by decide +kernel) h
  exact h2
theorem eg137_0_14_1 {n : Nat} {w : px_W} {r : Option Value × px_W} {x1 x2 s0 : Int} (h : ec_E hb_X n 137 14 [(0, .inr (.inl 64)), (1, .inl x1), (2, .inl x2)] [.inl s0] w r) : ec_tw s0 ≠ ec_tw 0 → True ∧ ∃ (v : Option Value) (w1 : px_W), ec_E hb_X n 173 0 [(0, .inl x2), (1, .inl 0), (2, .inl 2)] [] w (v, w1) ∧ ∀ zz : Int, v = ec_R zz → ec_W hb_A w1 → ec_E hb_X n 137 23 [(0, .inr (.inl 64)), (1, .inl x1), (2, .inl x2)] [.inl zz] w1 r := by
  have h2 := hb_ecw ((4, 1, 1, 0, 0) :: (0, 0, 2, 0, 0) :: (0, 2, 0, 0, 0) :: (0, 2, 0, 0, 2) :: (6, 1, 173, 3, 23) :: []) (by decide +kernel) h
  exact h2
theorem eg137_0_23_0 {n : Nat} {w : px_W} {r : Option Value × px_W} {x1 x2 s0 : Int} (h : ec_E hb_X n 137 23 [(0, .inr (.inl 64)), (1, .inl x1), (2, .inl x2)] [.inl s0] w r) : ec_tw s0 ≠ ec_tw 0 → (True ∧ 0 ≤ ec_tw ((x1 * 3) + x2) ∧ ec_tw ((x1 * 3) + x2) < 240) ∧ r = (ec_R (ec_rd w 127 (ec_tw ((x1 * 3) + x2))), w) ∧ ec_W hb_A w := by
  have h2 := hb_ecw ((4, 1, 1, 1, 0) :: (0, 1, 0, 0, 0) :: (5, 1, 0, 190, 0) :: (5, 1, 126, 191, 0) :: (0, 0, 1, 0, 0) :: (0, 2, 0, 0, 3) :: (1, 2, 0, 0, 0) :: (0, 0, 2, 0, 0) :: (1, 0, 0, 0, 0) :: (5, 2, 127, 0, 240) :: (6, 3, 0, 0, 0) :: []) (by decide +kernel) h
  exact h2
theorem eg137_0_23_1 {n : Nat} {w : px_W} {r : Option Value × px_W} {x1 x2 s0 : Int} (h : ec_E hb_X n 137 23 [(0, .inr (.inl 64)), (1, .inl x1), (2, .inl x2)] [.inl s0] w r) : ec_tw s0 = ec_tw 0 → True ∧ r = (ec_R (-9), w) ∧ ec_W hb_A w := by
  have h2 := hb_ecw ((4, 1, 0, 0, 0) :: (0, 2, 0, 0, (-9)) :: (6, 3, 0, 0, 0) :: []) (by decide +kernel) h
  exact h2
/-! X11_alterRow -/
theorem eg138_0_0_0 {n : Nat} {w : px_W} {r : Option Value × px_W} {x1 x2 x3 : Int} (h : ec_E hb_X n 138 0 [(0, .inr (.inl 64)), (1, .inl x1), (2, .inl x2), (3, .inl x3)] [] w r) : True ∧ ∃ (v : Option Value) (w1 : px_W), ec_E hb_X n 173 0 [(0, .inl x1), (1, .inl 0), (2, .inl ((ec_fd w 126 0) - 1))] [] w (v, w1) ∧ ∀ zz : Int, v = ec_R zz → ec_W hb_A w1 → ec_E hb_X n 138 14 [(0, .inr (.inl 64)), (1, .inl x1), (2, .inl x2), (3, .inl x3)] [.inl zz] w1 r := by
  have h2 := hb_ecw ((0, 0, 1, 0, 0) :: (0, 2, 0, 0, 0) :: (0, 1, 0, 0, 0) :: (5, 1, 0, 190, 0) :: (5, 0, 126, 0, 0) :: (0, 2, 0, 0, 1) :: (1, 1, 0, 0, 0) :: (6, 1, 173, 3, 14) :: []) (by decide +kernel) h
  exact h2
theorem eg138_0_14_0 {n : Nat} {w : px_W} {r : Option Value × px_W} {x1 x2 x3 s0 : Int} (h : ec_E hb_X n 138 14 [(0, .inr (.inl 64)), (1, .inl x1), (2, .inl x2), (3, .inl x3)] [.inl s0] w r) : ec_tw s0 = ec_tw 0 → True ∧ r = (ec_R (-9), w) ∧ ec_W hb_A w := by
  have h2 := hb_ecw ((4, 1, 0, 1, 0) :: (0, 2, 0, 0, (-9)) :: (6, 3, 0, 0, 0) :: []) (by decide +kernel) h
  exact h2
theorem eg138_0_14_1 {n : Nat} {w : px_W} {r : Option Value × px_W} {x1 x2 x3 s0 : Int} (h : ec_E hb_X n 138 14 [(0, .inr (.inl 64)), (1, .inl x1), (2, .inl x2), (3, .inl x3)] [.inl s0] w r) : ec_tw s0 ≠ ec_tw 0 → True ∧ ∃ (v : Option Value) (w1 : px_W), ec_E hb_X n 173 0 [(0, .inl x2), (1, .inl 0), (2, .inl 2)] [] w (v, w1) ∧ ∀ zz : Int, v = ec_R zz → ec_W hb_A w1 → ec_E hb_X n 138 23 [(0, .inr (.inl 64)), (1, .inl x1), (2, .inl x2), (3, .inl x3)] [.inl zz] w1 r := by
  have h2 := hb_ecw ((4, 1, 1, 0, 0) :: (0, 0, 2, 0, 0) :: (0, 2, 0, 0, 0) :: (0, 2, 0, 0, 2) :: (6, 1, 173, 3, 23) :: []) (by decide +kernel) h
  exact h2
theorem eg138_0_23_0 {n : Nat} {w : px_W} {r : Option Value × px_W} {x1 x2 x3 s0 : Int} (h : ec_E hb_X n 138 23 [(0, .inr (.inl 64)), (1, .inl x1), (2, .inl x2), (3, .inl x3)] [.inl s0] w r) : ec_tw s0 ≠ ec_tw 0 → ((True ∧ 0 ≤ ec_tw ((x1 * 3) + x2) ∧ ec_tw ((x1 * 3) + x2) < 240) ∧ 0 ≤ ec_tw ((x1 * 3) + x2) ∧ ec_tw ((x1 * 3) + x2) < 240) ∧ r = (ec_R (ec_rd w 127 (ec_tw ((x1 * 3) + x2))), ec_wr w 127 (ec_tw ((x1 * 3) + x2)) x3) ∧ ec_W hb_A (ec_wr w 127 (ec_tw ((x1 * 3) + x2)) x3) := by
  have h2 := hb_ecw ((4, 1, 1, 1, 0) :: (0, 1, 0, 0, 0) :: (5, 1, 0, 190, 0) :: (5, 1, 126, 191, 0) :: (0, 0, 1, 0, 0) :: (0, 2, 0, 0, 3) :: (1, 2, 0, 0, 0) :: (0, 0, 2, 0, 0) :: (1, 0, 0, 0, 0) :: (5, 2, 127, 0, 240) :: (0, 3, 4, 0, 0) :: (0, 1, 0, 0, 0) :: (5, 1, 0, 190, 0) :: (5, 1, 126, 191, 0) :: (0, 0, 1, 0, 0) :: (0, 2, 0, 0, 3) :: (1, 2, 0, 0, 0) :: (0, 0, 2, 0, 0) :: (1, 0, 0, 0, 0) :: (0, 0, 3, 0, 0) :: (5, 3, 127, 0, 240) :: (0, 0, 4, 0, 0) :: (6, 3, 0, 0, 0) :: []) (by decide +kernel) h
  exact h2
theorem eg138_0_23_1 {n : Nat} {w : px_W} {r : Option Value × px_W} {x1 x2 x3 s0 : Int} (h : ec_E hb_X n 138 23 [(0, .inr (.inl 64)), (1, .inl x1), (2, .inl x2), (3, .inl x3)] [.inl s0] w r) : ec_tw s0 = ec_tw 0 → True ∧ r = (ec_R (-9), w) ∧ ec_W hb_A w := by
  have h2 := hb_ecw ((4, 1, 0, 0, 0) :: (0, 2, 0, 0, (-9)) :: (6, 3, 0, 0, 0) :: []) (by decide +kernel) h
  exact h2
/-! X12_isRow -/
theorem eg221_151_0_0 {n : Nat} {w : px_W} {r : Option Value × px_W} {x1 x2 : Int} (h : ec_E hb_X n 221 0 [(0, .inr (.inl 215)), (1, .inl x1), (2, .inl x2)] [] w r) : True ∧ ∃ (v : Option Value) (w1 : px_W), ec_E hb_X n 182 0 [(0, .inl x1), (1, .inl 0), (2, .inl ((ec_fd w 151 19) - 1))] [] w (v, w1) ∧ ∀ zz : Int, v = ec_R zz → ec_W hb_A w1 → ec_E hb_X n 221 11 [(0, .inr (.inl 215)), (1, .inl x1), (2, .inl x2)] [.inl zz] w1 r := by
  have h2 := hb_ecw ((0, 0, 1, 0, 0) :: (0, 2, 0, 0, 0) :: (0, 1, 0, 0, 0) :: (5, 0, 151, 19, 0) :: (0, 2, 0, 0, 1) :: (1, 1, 0, 0, 0) :: (6, 1, 182, 3, 11) :: []) (by decide +kernel) h
  exact h2
theorem eg221_151_11_0 {n : Nat} {w : px_W} {r : Option Value × px_W} {x1 x2 s0 : Int} (h : ec_E hb_X n 221 11 [(0, .inr (.inl 215)), (1, .inl x1), (2, .inl x2)] [.inl s0] w r) : ec_tw s0 = ec_tw 0 → True ∧ ec_E hb_X n 221 28 [(0, .inr (.inl 215)), (1, .inl x1), (2, .inl x2)] [.inl 0] w r := by
  have h2 := hb_ecw ((4, 1, 0, 1, 0) :: (0, 2, 0, 0, 0) :: (6, 0, 28, 3, 0) :: []) (by decide +kernel) h
  exact h2
theorem eg221_151_11_1 {n : Nat} {w : px_W} {r : Option Value × px_W} {x1 x2 s0 : Int} (h : ec_E hb_X n 221 11 [(0, .inr (.inl 215)), (1, .inl x1), (2, .inl x2)] [.inl s0] w r) : ec_tw s0 ≠ ec_tw 0 → True ∧ ∃ (v : Option Value) (w1 : px_W), ec_E hb_X n 182 0 [(0, .inl x2), (1, .inl 0), (2, .inl 2)] [] w (v, w1) ∧ ∀ zz : Int, v = ec_R zz → ec_W hb_A w1 → ec_E hb_X n 221 20 [(0, .inr (.inl 215)), (1, .inl x1), (2, .inl x2)] [.inl zz] w1 r := by
  have h2 := hb_ecw ((4, 1, 1, 0, 0) :: (0, 0, 2, 0, 0) :: (0, 2, 0, 0, 0) :: (0, 2, 0, 0, 2) :: (6, 1, 182, 3, 20) :: []) (by decide +kernel) h
  exact h2
theorem eg221_151_28_0 {n : Nat} {w : px_W} {r : Option Value × px_W} {x1 x2 s0 : Int} (h : ec_E hb_X n 221 28 [(0, .inr (.inl 215)), (1, .inl x1), (2, .inl x2)] [.inl s0] w r) : True ∧ r = (ec_R s0, w) ∧ ec_W hb_A w := by
  have h2 := hb_ecw ((6, 3, 0, 0, 0) :: []) (by decide +kernel) h
  exact h2
theorem eg221_151_20_0 {n : Nat} {w : px_W} {r : Option Value × px_W} {x1 x2 s0 : Int} (h : ec_E hb_X n 221 20 [(0, .inr (.inl 215)), (1, .inl x1), (2, .inl x2)] [.inl s0] w r) : ec_tw s0 = ec_tw 0 → True ∧ ec_E hb_X n 221 28 [(0, .inr (.inl 215)), (1, .inl x1), (2, .inl x2)] [.inl 0] w r := by
  have h2 := hb_ecw ((4, 1, 0, 1, 0) :: (0, 2, 0, 0, 0) :: (6, 0, 28, 3, 0) :: []) (by decide +kernel) h
  exact h2
theorem eg221_151_20_1 {n : Nat} {w : px_W} {r : Option Value × px_W} {x1 x2 s0 : Int} (h : ec_E hb_X n 221 20 [(0, .inr (.inl 215)), (1, .inl x1), (2, .inl x2)] [.inl s0] w r) : ec_tw s0 ≠ ec_tw 0 → True ∧ ec_E hb_X n 221 28 [(0, .inr (.inl 215)), (1, .inl x1), (2, .inl x2)] [.inl 1] w r := by
  have h2 := hb_ecw ((4, 1, 1, 0, 0) :: (0, 2, 0, 0, 1) :: (4, 0, 0, 0, 0) :: (6, 0, 28, 3, 0) :: []) (by decide +kernel) h
  exact h2
/-! X12_row -/
theorem eg222_151_0_0 {n : Nat} {w : px_W} {r : Option Value × px_W} {x1 x2 : Int} (h : ec_E hb_X n 222 0 [(0, .inr (.inl 215)), (1, .inl x1), (2, .inl x2)] [] w r) : True ∧ ∃ (v : Option Value) (w1 : px_W), ec_E hb_X n 221 0 [(0, .inr (.inl 215)), (1, .inl x1), (2, .inl x2)] [] w (v, w1) ∧ ∀ zz : Int, v = ec_R zz → ec_W hb_A w1 → ec_E hb_X n 222 6 [(0, .inr (.inl 215)), (1, .inl x1), (2, .inl x2)] [.inl zz] w1 r := by
  have h2 := hb_ecw ((0, 1, 0, 0, 0) :: (0, 0, 1, 0, 0) :: (0, 0, 2, 0, 0) :: (6, 1, 221, 3, 6) :: []) (by decide +kernel) h
  exact h2
theorem eg222_151_6_0 {n : Nat} {w : px_W} {r : Option Value × px_W} {x1 x2 s0 : Int} (h : ec_E hb_X n 222 6 [(0, .inr (.inl 215)), (1, .inl x1), (2, .inl x2)] [.inl s0] w r) : ec_tw s0 = ec_tw 0 → True ∧ ec_E hb_X n 222 24 [(0, .inr (.inl 215)), (1, .inl x1), (2, .inl x2)] [.inl (-9)] w r := by
  have h2 := hb_ecw ((4, 1, 0, 1, 0) :: (0, 2, 0, 0, (-9)) :: (6, 0, 24, 3, 0) :: []) (by decide +kernel) h
  exact h2
theorem eg222_151_6_1 {n : Nat} {w : px_W} {r : Option Value × px_W} {x1 x2 s0 : Int} (h : ec_E hb_X n 222 6 [(0, .inr (.inl 215)), (1, .inl x1), (2, .inl x2)] [.inl s0] w r) : ec_tw s0 ≠ ec_tw 0 → (True ∧ 0 ≤ ec_tw ((3 * x1) + x2) ∧ ec_tw ((3 * x1) + x2) < 240) ∧ ec_E hb_X n 222 24 [(0, .inr (.inl 215)), (1, .inl x1), (2, .inl x2)] [.inl (ec_rd w 164 (ec_tw ((3 * x1) + x2)))] w r := by
  have h2 := hb_ecw ((4, 1, 1, 0, 0) :: (0, 1, 0, 0, 0) :: (5, 1, 151, 228, 0) :: (0, 2, 0, 0, 3) :: (0, 0, 1, 0, 0) :: (1, 2, 0, 0, 0) :: (0, 0, 2, 0, 0) :: (1, 0, 0, 0, 0) :: (5, 2, 164, 0, 240) :: (4, 0, 0, 0, 0) :: (6, 0, 24, 3, 0) :: []) (by decide +kernel) h
  exact h2
theorem eg222_151_24_0 {n : Nat} {w : px_W} {r : Option Value × px_W} {x1 x2 s0 : Int} (h : ec_E hb_X n 222 24 [(0, .inr (.inl 215)), (1, .inl x1), (2, .inl x2)] [.inl s0] w r) : True ∧ r = (ec_R s0, w) ∧ ec_W hb_A w := by
  have h2 := hb_ecw ((6, 3, 0, 0, 0) :: []) (by decide +kernel) h
  exact h2
/-! X12_alterRow -/
theorem eg223_151_0_0 {n : Nat} {w : px_W} {r : Option Value × px_W} {x1 x2 x3 : Int} (h : ec_E hb_X n 223 0 [(0, .inr (.inl 215)), (1, .inl x1), (2, .inl x2), (3, .inl x3)] [] w r) : True ∧ ∃ (v : Option Value) (w1 : px_W), ec_E hb_X n 221 0 [(0, .inr (.inl 215)), (1, .inl x1), (2, .inl x2)] [] w (v, w1) ∧ ∀ zz : Int, v = ec_R zz → ec_W hb_A w1 → ec_E hb_X n 223 6 [(0, .inr (.inl 215)), (1, .inl x1), (2, .inl x2), (3, .inl x3)] [.inl zz] w1 r := by
  have h2 := hb_ecw ((0, 1, 0, 0, 0) :: (0, 0, 1, 0, 0) :: (0, 0, 2, 0, 0) :: (6, 1, 221, 3, 6) :: []) (by decide +kernel) h
  exact h2
theorem eg223_151_6_0 {n : Nat} {w : px_W} {r : Option Value × px_W} {x1 x2 x3 s0 : Int} (h : ec_E hb_X n 223 6 [(0, .inr (.inl 215)), (1, .inl x1), (2, .inl x2), (3, .inl x3)] [.inl s0] w r) : ec_tw s0 ≠ ec_tw 0 → ((True ∧ 0 ≤ ec_tw ((3 * x1) + x2) ∧ ec_tw ((3 * x1) + x2) < 240) ∧ 0 ≤ ec_tw ((3 * x1) + x2) ∧ ec_tw ((3 * x1) + x2) < 240) ∧ r = (ec_R (ec_rd w 164 (ec_tw ((3 * x1) + x2))), ec_wr w 164 (ec_tw ((3 * x1) + x2)) x3) ∧ ec_W hb_A (ec_wr w 164 (ec_tw ((3 * x1) + x2)) x3) := by
  have h2 := hb_ecw ((4, 1, 1, 1, 0) :: (0, 1, 0, 0, 0) :: (5, 1, 151, 228, 0) :: (0, 2, 0, 0, 3) :: (0, 0, 1, 0, 0) :: (1, 2, 0, 0, 0) :: (0, 0, 2, 0, 0) :: (1, 0, 0, 0, 0) :: (5, 2, 164, 0, 240) :: (0, 3, 4, 0, 0) :: (0, 1, 0, 0, 0) :: (5, 1, 151, 228, 0) :: (0, 2, 0, 0, 3) :: (0, 0, 1, 0, 0) :: (1, 2, 0, 0, 0) :: (0, 0, 2, 0, 0) :: (1, 0, 0, 0, 0) :: (0, 0, 3, 0, 0) :: (5, 3, 164, 0, 240) :: (0, 0, 4, 0, 0) :: (6, 3, 0, 0, 0) :: []) (by decide +kernel) h
  exact h2
theorem eg223_151_6_1 {n : Nat} {w : px_W} {r : Option Value × px_W} {x1 x2 x3 s0 : Int} (h : ec_E hb_X n 223 6 [(0, .inr (.inl 215)), (1, .inl x1), (2, .inl x2), (3, .inl x3)] [.inl s0] w r) : ec_tw s0 = ec_tw 0 → True ∧ r = (ec_R (-9), w) ∧ ec_W hb_A w := by
  have h2 := hb_ecw ((4, 1, 0, 0, 0) :: (0, 2, 0, 0, (-9)) :: (6, 3, 0, 0, 0) :: []) (by decide +kernel) h
  exact h2

end

noncomputable section
/-! X11_feed -/
theorem eg154_0_0_0 {n : Nat} {w : px_W} {r : Option Value × px_W} {x3 : Int} {x1 : Int64} (h : ec_E hb_X n 154 0 [(0, .inr (.inl 64)), (1, .inr (.inr x1)), (3, .inl x3)] [] w r) : True ∧ ∃ (v : Option Value) (w1 : px_W), ec_E hb_X n 173 0 [(0, .inl x3), (1, .inl 1), (2, .inl 8)] [] w (v, w1) ∧ ∀ zz : Int, v = ec_R zz → ec_W hb_A w1 → ec_E hb_X n 154 7 [(0, .inr (.inl 64)), (1, .inr (.inr x1)), (3, .inl x3)] [.inl zz] w1 r := by
  have h2 := hb_ecw ((0, 0, 3, 0, 0) :: (0, 2, 0, 0, 1) :: (0, 2, 0, 0, 8) :: (6, 1, 173, 3, 7) :: []) (by decide +kernel) h
  exact h2
theorem eg154_0_7_0 {n : Nat} {w : px_W} {r : Option Value × px_W} {x3 s0 : Int} {x1 : Int64} (h : ec_E hb_X n 154 7 [(0, .inr (.inl 64)), (1, .inr (.inr x1)), (3, .inl x3)] [.inl s0] w r) : ec_tw s0 ≠ ec_tw 0 → ec_tw ((ec_fd w 137 0) + x3) ≤ ec_tw 200 → True ∧ ∃ (v : Option Value) (w1 : px_W), ec_E hb_X n 52 0 [(0, .inr (.inl 201)), (1, .inr (.inr x1)), (3, .inl x3)] [] w (v, w1) ∧ ∀ zz : Int, v = ec_R zz → ec_W hb_A w1 → ec_E hb_X n 154 41 [(0, .inr (.inl 64)), (1, .inr (.inr x1)), (3, .inl x3)] [.inl zz] w1 r := by
  have h2 := hb_ecw ((4, 1, 1, 1, 0) :: (0, 1, 0, 0, 0) :: (5, 1, 0, 201, 0) :: (5, 0, 137, 0, 0) :: (0, 0, 3, 0, 0) :: (1, 0, 0, 0, 0) :: (0, 2, 0, 0, 200) :: (4, 2, 5, 1, 0) :: (0, 1, 0, 0, 0) :: (5, 1, 0, 201, 0) :: (0, 6, 1, 0, 0) :: (0, 0, 3, 0, 0) :: (6, 1, 52, 3, 41) :: []) (by decide +kernel) h
  exact h2
theorem eg154_0_7_1 {n : Nat} {w : px_W} {r : Option Value × px_W} {x3 s0 : Int} {x1 : Int64} (h : ec_E hb_X n 154 7 [(0, .inr (.inl 64)), (1, .inr (.inr x1)), (3, .inl x3)] [.inl s0] w r) : ec_tw s0 ≠ ec_tw 0 → ec_tw 200 < ec_tw ((ec_fd w 137 0) + x3) → True ∧ r = (ec_R (-2), w) ∧ ec_W hb_A w := by
  have h2 := hb_ecw ((4, 1, 1, 1, 0) :: (0, 1, 0, 0, 0) :: (5, 1, 0, 201, 0) :: (5, 0, 137, 0, 0) :: (0, 0, 3, 0, 0) :: (1, 0, 0, 0, 0) :: (0, 2, 0, 0, 200) :: (4, 2, 4, 0, 0) :: (0, 2, 0, 0, (-2)) :: (4, 0, 0, 0, 0) :: (6, 3, 0, 0, 0) :: []) (by decide +kernel) h
  exact h2
theorem eg154_0_7_2 {n : Nat} {w : px_W} {r : Option Value × px_W} {x3 s0 : Int} {x1 : Int64} (h : ec_E hb_X n 154 7 [(0, .inr (.inl 64)), (1, .inr (.inr x1)), (3, .inl x3)] [.inl s0] w r) : ec_tw s0 = ec_tw 0 → True ∧ r = (ec_R (-1), w) ∧ ec_W hb_A w := by
  have h2 := hb_ecw ((4, 1, 0, 0, 0) :: (0, 2, 0, 0, (-1)) :: (6, 3, 0, 0, 0) :: []) (by decide +kernel) h
  exact h2
theorem eg154_0_41_0 {n : Nat} {w : px_W} {r : Option Value × px_W} {x3 s0 : Int} {x1 : Int64} (h : ec_E hb_X n 154 41 [(0, .inr (.inl 64)), (1, .inr (.inr x1)), (3, .inl x3)] [.inl s0] w r) : True ∧ r = (ec_R s0, w) ∧ ec_W hb_A w := by
  have h2 := hb_ecw ((6, 3, 0, 0, 0) :: []) (by decide +kernel) h
  exact h2
/-! X5_take -/
theorem eg52_137_0_0 {n : Nat} {w : px_W} {r : Option Value × px_W} {x3 : Int} {x1 : Int64} (h : ec_E hb_X n 52 0 [(0, .inr (.inl 201)), (1, .inr (.inr x1)), (3, .inl x3)] [] w r) : True ∧ ec_E hb_X n 52 3 [(0, .inr (.inl 201)), (1, .inr (.inr x1)), (3, .inl x3), (4, .inl 0)] [] w r := by
  have h2 := hb_ecw ((0, 2, 0, 0, 0) :: (0, 3, 4, 0, 0) :: (6, 0, 3, 5, 0) :: []) (by decide +kernel) h
  exact h2
theorem eg52_137_3_0 {n : Nat} {w : px_W} {r : Option Value × px_W} {x3 x4 : Int} {x1 : Int64} (h : ec_E hb_X n 52 3 [(0, .inr (.inl 201)), (1, .inr (.inr x1)), (3, .inl x3), (4, .inl x4)] [] w r) : ec_tw x3 ≤ ec_tw x4 → True ∧ r = (ec_R (ec_fd w 137 0), w) ∧ ec_W hb_A w := by
  have h2 := hb_ecw ((0, 0, 4, 0, 0) :: (0, 0, 3, 0, 0) :: (4, 2, 3, 1, 0) :: (0, 1, 0, 0, 0) :: (5, 0, 137, 0, 0) :: (6, 3, 0, 0, 0) :: []) (by decide +kernel) h
  exact h2
theorem eg52_137_3_1 {n : Nat} {w : px_W} {r : Option Value × px_W} {x3 x4 : Int} {x1 : Int64} (h : ec_E hb_X n 52 3 [(0, .inr (.inl 201)), (1, .inr (.inr x1)), (3, .inl x3), (4, .inl x4)] [] w r) : ec_tw x4 < ec_tw x3 → ec_tw 200 ≤ ec_tw (ec_fd w 137 0) → True ∧ r = (ec_R (ec_fd w 137 0), w) ∧ ec_W hb_A w := by
  have h2 := hb_ecw ((0, 0, 4, 0, 0) :: (0, 0, 3, 0, 0) :: (4, 2, 2, 0, 0) :: (0, 1, 0, 0, 0) :: (5, 0, 137, 0, 0) :: (0, 2, 0, 0, 200) :: (4, 2, 3, 1, 0) :: (0, 1, 0, 0, 0) :: (5, 0, 137, 0, 0) :: (6, 3, 0, 0, 0) :: []) (by decide +kernel) h
  exact h2
theorem eg52_137_3_2 {n : Nat} {w : px_W} {r : Option Value × px_W} {x3 x4 : Int} {x1 : Int64} (h : ec_E hb_X n 52 3 [(0, .inr (.inl 201)), (1, .inr (.inr x1)), (3, .inl x3), (4, .inl x4)] [] w r) : ec_tw x4 < ec_tw x3 → ec_tw (ec_fd w 137 0) < ec_tw 200 → (True ∧ 0 ≤ ec_tw (ec_fd w 137 0) ∧ ec_tw (ec_fd w 137 0) < 200) ∧ ec_E hb_X n 52 3 [(0, .inr (.inl 201)), (1, .inr (.inr x1)), (3, .inl x3), (4, .inl (x4 + 1))] [] (ec_pf (ec_wr w 138 (ec_tw (ec_fd w 137 0)) (((x1 >>> ((Int32.ofInt (8 * x4)).toInt64 &&& 63)) &&& (Int64.ofInt 255)).toInt32.toInt)) 137 0 ((ec_fd (ec_wr w 138 (ec_tw (ec_fd w 137 0)) (((x1 >>> ((Int32.ofInt (8 * x4)).toInt64 &&& 63)) &&& (Int64.ofInt 255)).toInt32.toInt)) 137 0) + 1)) r := by
  have h2 := hb_ecw ((0, 0, 4, 0, 0) :: (0, 0, 3, 0, 0) :: (4, 2, 2, 0, 0) :: (0, 1, 0, 0, 0) :: (5, 0, 137, 0, 0) :: (0, 2, 0, 0, 200) :: (4, 2, 2, 0, 0) :: (0, 1, 0, 0, 0) :: (5, 1, 137, 202, 0) :: (0, 1, 0, 0, 0) :: (5, 0, 137, 0, 0) :: (0, 6, 1, 0, 0) :: (0, 2, 0, 0, 8) :: (0, 0, 4, 0, 0) :: (1, 2, 0, 0, 0) :: (3, 13, 0, 0, 0) :: (0, 7, 0, 0, 255) :: (3, 10, 0, 0, 0) :: (3, 9, 0, 0, 0) :: (5, 3, 138, 0, 200) :: (0, 1, 0, 0, 0) :: (3, 0, 0, 0, 0) :: (5, 0, 137, 0, 0) :: (0, 2, 0, 0, 1) :: (1, 0, 0, 0, 0) :: (5, 4, 137, 0, 0) :: (0, 5, 4, 0, 1) :: (4, 0, 0, 0, 0) :: (6, 0, 3, 5, 0) :: []) (by decide +kernel) h
  exact h2
/-! X12_feed -/
theorem eg247_151_0_0 {n : Nat} {w : px_W} {r : Option Value × px_W} {x3 : Int} {x1 : Int64} (h : ec_E hb_X n 247 0 [(0, .inr (.inl 215)), (1, .inr (.inr x1)), (3, .inl x3)] [] w r) : True ∧ ∃ (v : Option Value) (w1 : px_W), ec_E hb_X n 182 0 [(0, .inl x3), (1, .inl 1), (2, .inl 8)] [] w (v, w1) ∧ ∀ zz : Int, v = ec_R zz → ec_W hb_A w1 → ec_E hb_X n 247 7 [(0, .inr (.inl 215)), (1, .inr (.inr x1)), (3, .inl x3)] [.inl zz] w1 r := by
  have h2 := hb_ecw ((0, 0, 3, 0, 0) :: (0, 2, 0, 0, 1) :: (0, 2, 0, 0, 8) :: (6, 1, 182, 3, 7) :: []) (by decide +kernel) h
  exact h2
theorem eg247_151_7_0 {n : Nat} {w : px_W} {r : Option Value × px_W} {x3 s0 : Int} {x1 : Int64} (h : ec_E hb_X n 247 7 [(0, .inr (.inl 215)), (1, .inr (.inr x1)), (3, .inl x3)] [.inl s0] w r) : ec_tw s0 ≠ ec_tw 0 → ec_tw ((ec_fd w 151 4) + x3) ≤ ec_tw 200 → True ∧ ec_E hb_X n 247 30 [(0, .inr (.inl 215)), (1, .inr (.inr x1)), (3, .inl x3), (4, .inl 0)] [] w r := by
  have h2 := hb_ecw ((4, 1, 1, 1, 0) :: (0, 1, 0, 0, 0) :: (5, 0, 151, 4, 0) :: (0, 0, 3, 0, 0) :: (1, 0, 0, 0, 0) :: (0, 2, 0, 0, 200) :: (4, 2, 5, 1, 0) :: (0, 2, 0, 0, 0) :: (0, 3, 4, 0, 0) :: (6, 0, 30, 5, 0) :: []) (by decide +kernel) h
  exact h2
theorem eg247_151_7_1 {n : Nat} {w : px_W} {r : Option Value × px_W} {x3 s0 : Int} {x1 : Int64} (h : ec_E hb_X n 247 7 [(0, .inr (.inl 215)), (1, .inr (.inr x1)), (3, .inl x3)] [.inl s0] w r) : ec_tw s0 ≠ ec_tw 0 → ec_tw 200 < ec_tw ((ec_fd w 151 4) + x3) → True ∧ r = (ec_R (-2), w) ∧ ec_W hb_A w := by
  have h2 := hb_ecw ((4, 1, 1, 1, 0) :: (0, 1, 0, 0, 0) :: (5, 0, 151, 4, 0) :: (0, 0, 3, 0, 0) :: (1, 0, 0, 0, 0) :: (0, 2, 0, 0, 200) :: (4, 2, 4, 0, 0) :: (0, 2, 0, 0, (-2)) :: (6, 3, 0, 0, 0) :: []) (by decide +kernel) h
  exact h2
theorem eg247_151_7_2 {n : Nat} {w : px_W} {r : Option Value × px_W} {x3 s0 : Int} {x1 : Int64} (h : ec_E hb_X n 247 7 [(0, .inr (.inl 215)), (1, .inr (.inr x1)), (3, .inl x3)] [.inl s0] w r) : ec_tw s0 = ec_tw 0 → True ∧ r = (ec_R (-1), w) ∧ ec_W hb_A w := by
  have h2 := hb_ecw ((4, 1, 0, 0, 0) :: (0, 2, 0, 0, (-1)) :: (6, 3, 0, 0, 0) :: []) (by decide +kernel) h
  exact h2
theorem eg247_151_30_0 {n : Nat} {w : px_W} {r : Option Value × px_W} {x3 x4 : Int} {x1 : Int64} (h : ec_E hb_X n 247 30 [(0, .inr (.inl 215)), (1, .inr (.inr x1)), (3, .inl x3), (4, .inl x4)] [] w r) : ec_tw x3 ≤ ec_tw x4 → True ∧ r = (ec_R (ec_fd w 151 4), w) ∧ ec_W hb_A w := by
  have h2 := hb_ecw ((0, 0, 4, 0, 0) :: (0, 0, 3, 0, 0) :: (4, 2, 3, 1, 0) :: (0, 1, 0, 0, 0) :: (5, 0, 151, 4, 0) :: (6, 3, 0, 0, 0) :: []) (by decide +kernel) h
  exact h2
theorem eg247_151_30_1 {n : Nat} {w : px_W} {r : Option Value × px_W} {x3 x4 : Int} {x1 : Int64} (h : ec_E hb_X n 247 30 [(0, .inr (.inl 215)), (1, .inr (.inr x1)), (3, .inl x3), (4, .inl x4)] [] w r) : ec_tw x4 < ec_tw x3 → (True ∧ 0 ≤ ec_tw (ec_fd w 151 4) ∧ ec_tw (ec_fd w 151 4) < 200) ∧ ec_E hb_X n 247 30 [(0, .inr (.inl 215)), (1, .inr (.inr x1)), (3, .inl x3), (4, .inl (x4 + 1))] [] (ec_pf (ec_wr w 154 (ec_tw (ec_fd w 151 4)) (((x1 >>> ((Int32.ofInt (8 * x4)).toInt64 &&& 63)) &&& (Int64.ofInt 255)).toInt32.toInt)) 151 4 ((ec_fd (ec_wr w 154 (ec_tw (ec_fd w 151 4)) (((x1 >>> ((Int32.ofInt (8 * x4)).toInt64 &&& 63)) &&& (Int64.ofInt 255)).toInt32.toInt)) 151 4) + 1)) r := by
  have h2 := hb_ecw ((0, 0, 4, 0, 0) :: (0, 0, 3, 0, 0) :: (4, 2, 2, 0, 0) :: (0, 1, 0, 0, 0) :: (5, 1, 151, 218, 0) :: (0, 1, 0, 0, 0) :: (5, 0, 151, 4, 0) :: (0, 6, 1, 0, 0) :: (0, 2, 0, 0, 8) :: (0, 0, 4, 0, 0) :: (1, 2, 0, 0, 0) :: (3, 13, 0, 0, 0) :: (0, 7, 0, 0, 255) :: (3, 10, 0, 0, 0) :: (3, 9, 0, 0, 0) :: (5, 3, 154, 0, 200) :: (0, 1, 0, 0, 0) :: (3, 0, 0, 0, 0) :: (5, 0, 151, 4, 0) :: (0, 2, 0, 0, 1) :: (1, 0, 0, 0, 0) :: (5, 4, 151, 4, 0) :: (0, 5, 4, 0, 1) :: (4, 0, 0, 0, 0) :: (6, 0, 30, 5, 0) :: []) (by decide +kernel) h
  exact h2
/-! X11_read -/
theorem eg155_0_0_0 {n : Nat} {w : px_W} {r : Option Value × px_W} (h : ec_E hb_X n 155 0 [(0, .inr (.inl 64))] [] w r) : True ∧ ∃ (v : Option Value) (w1 : px_W), ec_E hb_X n 53 0 [(0, .inr (.inl 201)), (1, .inr (.inl 108))] [] w (v, w1) ∧ ∀ zz : Int, v = ec_R zz → ec_W hb_A w1 → ec_E hb_X n 155 11 [(0, .inr (.inl 64))] [.inl zz] w1 r := by
  have h2 := hb_ecw ((0, 1, 0, 0, 0) :: (5, 1, 0, 201, 0) :: (0, 1, 0, 0, 0) :: (5, 1, 0, 108, 0) :: (6, 1, 53, 2, 11) :: []) (by decide +kernel) h
  exact h2
theorem eg155_0_11_0 {n : Nat} {w : px_W} {r : Option Value × px_W} {s0 : Int} (h : ec_E hb_X n 155 11 [(0, .inr (.inl 64))] [.inl s0] w r) : ec_tw s0 = ec_tw (-1) → ec_tw (ec_fd w 44 0) < ec_tw 6 → True ∧ ∃ (v : Option Value) (w1 : px_W), ec_E hb_X n 78 0 [(0, .inr (.inl 108)), (1, .inl (ec_fd w 1 0))] [] w (v, w1) ∧ ∀ zz : Int, v = ec_R zz → ec_W hb_A w1 → ec_E hb_X n 155 53 [(0, .inr (.inl 64)), (1, .inl s0)] [.inl zz] w1 r := by
  have h2 := hb_ecw ((0, 3, 1, 0, 0) :: (0, 0, 1, 0, 0) :: (0, 2, 0, 0, (-1)) :: (4, 2, 0, 1, 0) :: (0, 1, 0, 0, 0) :: (5, 1, 0, 108, 0) :: (5, 0, 44, 0, 0) :: (0, 2, 0, 0, 6) :: (4, 2, 2, 1, 0) :: (0, 1, 0, 0, 0) :: (5, 1, 0, 108, 0) :: (0, 1, 0, 0, 0) :: (5, 1, 0, 65, 0) :: (5, 0, 1, 0, 0) :: (6, 1, 78, 2, 53) :: []) (by decide +kernel) h
  exact h2
theorem eg155_0_11_1 {n : Nat} {w : px_W} {r : Option Value × px_W} {s0 : Int} (h : ec_E hb_X n 155 11 [(0, .inr (.inl 64))] [.inl s0] w r) : ec_tw s0 = ec_tw (-1) → ec_tw 6 ≤ ec_tw (ec_fd w 44 0) → True ∧ r = (ec_R (-2), w) ∧ ec_W hb_A w := by
  have h2 := hb_ecw ((0, 3, 1, 0, 0) :: (0, 0, 1, 0, 0) :: (0, 2, 0, 0, (-1)) :: (4, 2, 0, 1, 0) :: (0, 1, 0, 0, 0) :: (5, 1, 0, 108, 0) :: (5, 0, 44, 0, 0) :: (0, 2, 0, 0, 6) :: (4, 2, 3, 0, 0) :: (0, 2, 0, 0, (-2)) :: (4, 0, 0, 0, 0) :: (6, 3, 0, 0, 0) :: []) (by decide +kernel) h
  exact h2
theorem eg155_0_11_2 {n : Nat} {w : px_W} {r : Option Value × px_W} {s0 : Int} (h : ec_E hb_X n 155 11 [(0, .inr (.inl 64))] [.inl s0] w r) : ec_tw s0 ≠ ec_tw (-1) → True ∧ r = (ec_R ((-100) - s0), w) ∧ ec_W hb_A w := by
  have h2 := hb_ecw ((0, 3, 1, 0, 0) :: (0, 0, 1, 0, 0) :: (0, 2, 0, 0, (-1)) :: (4, 2, 1, 0, 0) :: (0, 2, 0, 0, (-100)) :: (0, 0, 1, 0, 0) :: (1, 1, 0, 0, 0) :: (6, 3, 0, 0, 0) :: []) (by decide +kernel) h
  exact h2
theorem eg155_0_53_0 {n : Nat} {w : px_W} {r : Option Value × px_W} {x1 s0 : Int} (h : ec_E hb_X n 155 53 [(0, .inr (.inl 64)), (1, .inl x1)] [.inl s0] w r) : True ∧ r = (ec_R s0, w) ∧ ec_W hb_A w := by
  have h2 := hb_ecw ((6, 3, 0, 0, 0) :: []) (by decide +kernel) h
  exact h2

end

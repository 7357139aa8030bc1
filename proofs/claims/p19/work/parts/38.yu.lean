noncomputable section
/-! X8_mostSeated -/
theorem eg100_126_0_0 {n : Nat} {w : px_W} {r : Option Value × px_W} (h : ec_E hb_X n 100 0 [(0, .inr (.inl 190))] [] w r) : (True ∧ 0 ≤ ec_tw ((ec_shl 1 (ec_fd w 126 6)) - 1) ∧ ec_tw ((ec_shl 1 (ec_fd w 126 6)) - 1) < 256) ∧ ec_E hb_X n 100 16 [(0, .inr (.inl 190)), (1, .inl (ec_rd w 134 (ec_tw ((ec_shl 1 (ec_fd w 126 6)) - 1)))), (2, .inl 0)] [] w r := by
  have h2 := hb_ecw ((0, 1, 0, 0, 0) :: (5, 1, 126, 198, 0) :: (0, 2, 0, 0, 1) :: (0, 1, 0, 0, 0) :: (5, 0, 126, 6, 0) :: (1, 6, 0, 0, 0) :: (0, 2, 0, 0, 1) :: (1, 1, 0, 0, 0) :: (5, 2, 134, 0, 256) :: (0, 3, 1, 0, 0) :: (0, 2, 0, 0, 0) :: (0, 3, 2, 0, 0) :: (6, 0, 16, 3, 0) :: []) (by decide +kernel) h
  exact h2
theorem eg100_126_16_0 {n : Nat} {w : px_W} {r : Option Value × px_W} {x1 x2 : Int} (h : ec_E hb_X n 100 16 [(0, .inr (.inl 190)), (1, .inl x1), (2, .inl x2)] [] w r) : ec_tw (ec_shl 1 (ec_fd w 126 6)) ≤ ec_tw x2 → True ∧ r = (ec_R x1, w) ∧ ec_W hb_A w := by
  have h2 := hb_ecw ((0, 0, 2, 0, 0) :: (0, 2, 0, 0, 1) :: (0, 1, 0, 0, 0) :: (5, 0, 126, 6, 0) :: (1, 6, 0, 0, 0) :: (4, 2, 3, 1, 0) :: (0, 0, 1, 0, 0) :: (6, 3, 0, 0, 0) :: []) (by decide +kernel) h
  exact h2
theorem eg100_126_16_1 {n : Nat} {w : px_W} {r : Option Value × px_W} {x1 x2 : Int} (h : ec_E hb_X n 100 16 [(0, .inr (.inl 190)), (1, .inl x1), (2, .inl x2)] [] w r) : ec_tw x2 < ec_tw (ec_shl 1 (ec_fd w 126 6)) → (True ∧ 0 ≤ ec_tw x2 ∧ ec_tw x2 < 256) ∧ ec_E hb_X n 100 36 [(0, .inr (.inl 190)), (1, .inl x1), (2, .inl x2), (3, .inl (ec_rd w 134 (ec_tw x2))), (4, .inl 0)] [] w r := by
  have h2 := hb_ecw ((0, 0, 2, 0, 0) :: (0, 2, 0, 0, 1) :: (0, 1, 0, 0, 0) :: (5, 0, 126, 6, 0) :: (1, 6, 0, 0, 0) :: (4, 2, 2, 0, 0) :: (0, 1, 0, 0, 0) :: (5, 1, 126, 198, 0) :: (0, 0, 2, 0, 0) :: (5, 2, 134, 0, 256) :: (0, 3, 3, 0, 0) :: (0, 2, 0, 0, 0) :: (0, 3, 4, 0, 0) :: (6, 0, 36, 5, 0) :: []) (by decide +kernel) h
  exact h2
theorem eg100_126_36_0 {n : Nat} {w : px_W} {r : Option Value × px_W} {x1 x2 x3 x4 : Int} (h : ec_E hb_X n 100 36 [(0, .inr (.inl 190)), (1, .inl x1), (2, .inl x2), (3, .inl x3), (4, .inl x4)] [] w r) : ec_tw (ec_fd w 126 5) ≤ ec_tw x4 → (True ∧ 0 ≤ ec_tw x2 ∧ ec_tw x2 < 256) ∧ ec_E hb_X n 100 16 [(0, .inr (.inl 190)), (1, .inl (ec_mn x1 x3)), (2, .inl (x2 + 1))] [] (ec_wr w 135 (ec_tw x2) x3) r := by
  have h2 := hb_ecw ((0, 0, 4, 0, 0) :: (0, 1, 0, 0, 0) :: (5, 0, 126, 5, 0) :: (4, 2, 3, 1, 0) :: (0, 1, 0, 0, 0) :: (5, 1, 126, 199, 0) :: (0, 0, 2, 0, 0) :: (0, 0, 3, 0, 0) :: (5, 3, 135, 0, 256) :: (0, 0, 1, 0, 0) :: (0, 0, 3, 0, 0) :: (3, 6, 0, 0, 0) :: (0, 3, 1, 0, 0) :: (0, 5, 2, 0, 1) :: (4, 0, 0, 0, 0) :: (6, 0, 16, 3, 0) :: []) (by decide +kernel) h
  exact h2
theorem eg100_126_36_1 {n : Nat} {w : px_W} {r : Option Value × px_W} {x1 x2 x3 x4 : Int} (h : ec_E hb_X n 100 36 [(0, .inr (.inl 190)), (1, .inl x1), (2, .inl x2), (3, .inl x3), (4, .inl x4)] [] w r) : ec_tw x4 < ec_tw (ec_fd w 126 5) → ec_tw (ec_and (ec_rd w 128 (ec_tw x4)) (ec_xor x2 (-1))) = ec_tw 0 → (True ∧ 0 ≤ ec_tw x4 ∧ ec_tw x4 < 10) ∧ ec_E hb_X n 100 36 [(0, .inr (.inl 190)), (1, .inl x1), (2, .inl x2), (3, .inl x3), (4, .inl (x4 + 1))] [] w r := by
  have h2 := hb_ecw ((0, 0, 4, 0, 0) :: (0, 1, 0, 0, 0) :: (5, 0, 126, 5, 0) :: (4, 2, 2, 0, 0) :: (0, 1, 0, 0, 0) :: (5, 1, 126, 192, 0) :: (0, 0, 4, 0, 0) :: (5, 2, 128, 0, 10) :: (0, 0, 2, 0, 0) :: (0, 2, 0, 0, (-1)) :: (1, 5, 0, 0, 0) :: (1, 3, 0, 0, 0) :: (4, 1, 0, 1, 0) :: (0, 5, 4, 0, 1) :: (4, 0, 0, 0, 0) :: (6, 0, 36, 5, 0) :: []) (by decide +kernel) h
  exact h2
theorem eg100_126_36_2 {n : Nat} {w : px_W} {r : Option Value × px_W} {x1 x2 x3 x4 : Int} (h : ec_E hb_X n 100 36 [(0, .inr (.inl 190)), (1, .inl x1), (2, .inl x2), (3, .inl x3), (4, .inl x4)] [] w r) : ec_tw x4 < ec_tw (ec_fd w 126 5) → ec_tw (ec_and (ec_rd w 128 (ec_tw x4)) (ec_xor x2 (-1))) ≠ ec_tw 0 → ((True ∧ 0 ≤ ec_tw x4 ∧ ec_tw x4 < 10) ∧ 0 ≤ ec_tw x4 ∧ ec_tw x4 < 10) ∧ ec_E hb_X n 100 36 [(0, .inr (.inl 190)), (1, .inl x1), (2, .inl x2), (3, .inl (x3 + (ec_rd w 130 (ec_tw x4)))), (4, .inl (x4 + 1))] [] w r := by
  have h2 := hb_ecw ((0, 0, 4, 0, 0) :: (0, 1, 0, 0, 0) :: (5, 0, 126, 5, 0) :: (4, 2, 2, 0, 0) :: (0, 1, 0, 0, 0) :: (5, 1, 126, 192, 0) :: (0, 0, 4, 0, 0) :: (5, 2, 128, 0, 10) :: (0, 0, 2, 0, 0) :: (0, 2, 0, 0, (-1)) :: (1, 5, 0, 0, 0) :: (1, 3, 0, 0, 0) :: (4, 1, 1, 0, 0) :: (0, 0, 3, 0, 0) :: (0, 1, 0, 0, 0) :: (5, 1, 126, 194, 0) :: (0, 0, 4, 0, 0) :: (5, 2, 130, 0, 10) :: (1, 0, 0, 0, 0) :: (0, 3, 3, 0, 0) :: (0, 5, 4, 0, 1) :: (4, 0, 0, 0, 0) :: (6, 0, 36, 5, 0) :: []) (by decide +kernel) h
  exact h2
/-! X11_most -/
theorem eg135_0_0_0 {n : Nat} {w : px_W} {r : Option Value × px_W} (h : ec_E hb_X n 135 0 [(0, .inr (.inl 64))] [] w r) : True ∧ ∃ (v : Option Value) (w1 : px_W), ec_E hb_X n 98 0 [(0, .inr (.inl 190)), (1, .inr (.inl 79))] [] w (v, w1) ∧ (v = none → ec_W hb_A w1 → ec_E hb_X n 135 11 [(0, .inr (.inl 64))] [] w1 r) := by
  have h2 := hb_ecw ((0, 1, 0, 0, 0) :: (5, 1, 0, 190, 0) :: (0, 1, 0, 0, 0) :: (5, 1, 0, 79, 0) :: (6, 2, 98, 2, 11) :: []) (by decide +kernel) h
  exact h2
theorem eg135_0_11_0 {n : Nat} {w : px_W} {r : Option Value × px_W} (h : ec_E hb_X n 135 11 [(0, .inr (.inl 64))] [] w r) : True ∧ ∃ (v : Option Value) (w1 : px_W), ec_E hb_X n 100 0 [(0, .inr (.inl 190))] [] w (v, w1) ∧ ∀ zz : Int, v = ec_R zz → ec_W hb_A w1 → ec_E hb_X n 135 18 [(0, .inr (.inl 64))] [.inl zz] w1 r := by
  have h2 := hb_ecw ((0, 1, 0, 0, 0) :: (5, 1, 0, 190, 0) :: (6, 1, 100, 1, 18) :: []) (by decide +kernel) h
  exact h2
theorem eg135_0_18_0 {n : Nat} {w : px_W} {r : Option Value × px_W} {s0 : Int} (h : ec_E hb_X n 135 18 [(0, .inr (.inl 64))] [.inl s0] w r) : True ∧ r = (ec_R s0, w) ∧ ec_W hb_A w := by
  have h2 := hb_ecw ((6, 3, 0, 0, 0) :: []) (by decide +kernel) h
  exact h2
/-! X12_mostOf -/
theorem eg217_151_0_0 {n : Nat} {w : px_W} {r : Option Value × px_W} (h : ec_E hb_X n 217 0 [(0, .inr (.inl 215))] [] w r) : True ∧ ec_E hb_X n 217 5 [(0, .inr (.inl 215)), (1, .inl 1000000), (2, .inl 0)] [] w r := by
  have h2 := hb_ecw ((0, 2, 0, 0, 1000000) :: (0, 3, 1, 0, 0) :: (0, 2, 0, 0, 0) :: (0, 3, 2, 0, 0) :: (6, 0, 5, 3, 0) :: []) (by decide +kernel) h
  exact h2
theorem eg217_151_5_0 {n : Nat} {w : px_W} {r : Option Value × px_W} {x1 x2 : Int} (h : ec_E hb_X n 217 5 [(0, .inr (.inl 215)), (1, .inl x1), (2, .inl x2)] [] w r) : ec_tw (ec_shl 1 (ec_rd w 152 (ec_tw 4))) ≤ ec_tw x2 → (True ∧ 0 ≤ ec_tw 4 ∧ ec_tw 4 < 1580) ∧ r = (ec_R x1, w) ∧ ec_W hb_A w := by
  have h2 := hb_ecw ((0, 0, 2, 0, 0) :: (0, 2, 0, 0, 1) :: (0, 1, 0, 0, 0) :: (5, 1, 151, 216, 0) :: (0, 2, 0, 0, 4) :: (5, 2, 152, 0, 1580) :: (1, 6, 0, 0, 0) :: (4, 2, 3, 1, 0) :: (0, 0, 1, 0, 0) :: (6, 3, 0, 0, 0) :: []) (by decide +kernel) h
  exact h2
theorem eg217_151_5_1 {n : Nat} {w : px_W} {r : Option Value × px_W} {x1 x2 : Int} (h : ec_E hb_X n 217 5 [(0, .inr (.inl 215)), (1, .inl x1), (2, .inl x2)] [] w r) : ec_tw x2 < ec_tw (ec_shl 1 (ec_rd w 152 (ec_tw 4))) → (True ∧ 0 ≤ ec_tw 4 ∧ ec_tw 4 < 1580) ∧ ec_E hb_X n 217 25 [(0, .inr (.inl 215)), (1, .inl x1), (2, .inl x2), (3, .inl 0), (4, .inl 0), (5, .inl 0)] [] w r := by
  have h2 := hb_ecw ((0, 0, 2, 0, 0) :: (0, 2, 0, 0, 1) :: (0, 1, 0, 0, 0) :: (5, 1, 151, 216, 0) :: (0, 2, 0, 0, 4) :: (5, 2, 152, 0, 1580) :: (1, 6, 0, 0, 0) :: (4, 2, 2, 0, 0) :: (0, 2, 0, 0, 0) :: (0, 3, 3, 0, 0) :: (0, 2, 0, 0, 0) :: (0, 3, 4, 0, 0) :: (0, 2, 0, 0, 0) :: (0, 3, 5, 0, 0) :: (6, 0, 25, 6, 0) :: []) (by decide +kernel) h
  exact h2
theorem eg217_151_25_0 {n : Nat} {w : px_W} {r : Option Value × px_W} {x1 x2 x3 x4 x5 : Int} (h : ec_E hb_X n 217 25 [(0, .inr (.inl 215)), (1, .inl x1), (2, .inl x2), (3, .inl x3), (4, .inl x4), (5, .inl x5)] [] w r) : ec_tw (ec_rd w 152 (ec_tw 4)) ≤ ec_tw x5 → (True ∧ 0 ≤ ec_tw 4 ∧ ec_tw 4 < 1580) ∧ ec_E hb_X n 217 102 [(0, .inr (.inl 215)), (1, .inl x1), (2, .inl x2), (3, .inl x3), (4, .inl x4), (5, .inl 0)] [] w r := by
  have h2 := hb_ecw ((0, 0, 5, 0, 0) :: (0, 1, 0, 0, 0) :: (5, 1, 151, 216, 0) :: (0, 2, 0, 0, 4) :: (5, 2, 152, 0, 1580) :: (4, 2, 3, 1, 0) :: (0, 2, 0, 0, 0) :: (0, 3, 5, 0, 0) :: (6, 0, 102, 6, 0) :: []) (by decide +kernel) h
  exact h2
theorem eg217_151_25_1 {n : Nat} {w : px_W} {r : Option Value × px_W} {x1 x2 x3 x4 x5 : Int} (h : ec_E hb_X n 217 25 [(0, .inr (.inl 215)), (1, .inl x1), (2, .inl x2), (3, .inl x3), (4, .inl x4), (5, .inl x5)] [] w r) : ec_tw x5 < ec_tw (ec_rd w 152 (ec_tw 4)) → ec_tw (ec_and (ec_shr x2 x5) 1) ≠ ec_tw 1 → (True ∧ 0 ≤ ec_tw 4 ∧ ec_tw 4 < 1580) ∧ ec_E hb_X n 217 51 [(0, .inr (.inl 215)), (1, .inl x1), (2, .inl x2), (3, .inl x3), (4, .inl x4), (5, .inl x5)] [.inl 0] w r := by
  have h2 := hb_ecw ((0, 0, 5, 0, 0) :: (0, 1, 0, 0, 0) :: (5, 1, 151, 216, 0) :: (0, 2, 0, 0, 4) :: (5, 2, 152, 0, 1580) :: (4, 2, 2, 0, 0) :: (0, 0, 2, 0, 0) :: (0, 0, 5, 0, 0) :: (1, 7, 0, 0, 0) :: (0, 2, 0, 0, 1) :: (1, 3, 0, 0, 0) :: (0, 2, 0, 0, 1) :: (4, 2, 1, 1, 0) :: (0, 2, 0, 0, 0) :: (6, 0, 51, 6, 0) :: []) (by decide +kernel) h
  exact h2
theorem eg217_151_25_2 {n : Nat} {w : px_W} {r : Option Value × px_W} {x1 x2 x3 x4 x5 : Int} (h : ec_E hb_X n 217 25 [(0, .inr (.inl 215)), (1, .inl x1), (2, .inl x2), (3, .inl x3), (4, .inl x4), (5, .inl x5)] [] w r) : ec_tw x5 < ec_tw (ec_rd w 152 (ec_tw 4)) → ec_tw (ec_and (ec_shr x2 x5) 1) = ec_tw 1 → (True ∧ 0 ≤ ec_tw 4 ∧ ec_tw 4 < 1580) ∧ ec_E hb_X n 217 51 [(0, .inr (.inl 215)), (1, .inl x1), (2, .inl x2), (3, .inl x3), (4, .inl x4), (5, .inl x5)] [.inl 1] w r := by
  have h2 := hb_ecw ((0, 0, 5, 0, 0) :: (0, 1, 0, 0, 0) :: (5, 1, 151, 216, 0) :: (0, 2, 0, 0, 4) :: (5, 2, 152, 0, 1580) :: (4, 2, 2, 0, 0) :: (0, 0, 2, 0, 0) :: (0, 0, 5, 0, 0) :: (1, 7, 0, 0, 0) :: (0, 2, 0, 0, 1) :: (1, 3, 0, 0, 0) :: (0, 2, 0, 0, 1) :: (4, 2, 0, 0, 0) :: (0, 2, 0, 0, 1) :: (4, 0, 0, 0, 0) :: (6, 0, 51, 6, 0) :: []) (by decide +kernel) h
  exact h2
theorem eg217_151_102_0 {n : Nat} {w : px_W} {r : Option Value × px_W} {x1 x2 x3 x4 x5 : Int} (h : ec_E hb_X n 217 102 [(0, .inr (.inl 215)), (1, .inl x1), (2, .inl x2), (3, .inl x3), (4, .inl x4), (5, .inl x5)] [] w r) : ec_tw (ec_rd w 152 (ec_tw 5)) ≤ ec_tw x5 → ec_tw x1 ≤ ec_tw x3 → (True ∧ 0 ≤ ec_tw 5 ∧ ec_tw 5 < 1580) ∧ ec_E hb_X n 217 154 [(0, .inr (.inl 215)), (1, .inl x1), (2, .inl x2)] [.inl x1] w r := by
  have h2 := hb_ecw ((0, 0, 5, 0, 0) :: (0, 1, 0, 0, 0) :: (5, 1, 151, 216, 0) :: (0, 2, 0, 0, 5) :: (5, 2, 152, 0, 1580) :: (4, 2, 3, 1, 0) :: (0, 0, 3, 0, 0) :: (0, 0, 1, 0, 0) :: (4, 2, 3, 1, 0) :: (0, 0, 1, 0, 0) :: (6, 0, 154, 3, 0) :: []) (by decide +kernel) h
  exact h2
theorem eg217_151_102_1 {n : Nat} {w : px_W} {r : Option Value × px_W} {x1 x2 x3 x4 x5 : Int} (h : ec_E hb_X n 217 102 [(0, .inr (.inl 215)), (1, .inl x1), (2, .inl x2), (3, .inl x3), (4, .inl x4), (5, .inl x5)] [] w r) : ec_tw (ec_rd w 152 (ec_tw 5)) ≤ ec_tw x5 → ec_tw x3 < ec_tw x1 → (True ∧ 0 ≤ ec_tw 5 ∧ ec_tw 5 < 1580) ∧ ec_E hb_X n 217 154 [(0, .inr (.inl 215)), (1, .inl x1), (2, .inl x2)] [.inl x3] w r := by
  have h2 := hb_ecw ((0, 0, 5, 0, 0) :: (0, 1, 0, 0, 0) :: (5, 1, 151, 216, 0) :: (0, 2, 0, 0, 5) :: (5, 2, 152, 0, 1580) :: (4, 2, 3, 1, 0) :: (0, 0, 3, 0, 0) :: (0, 0, 1, 0, 0) :: (4, 2, 2, 0, 0) :: (0, 0, 3, 0, 0) :: (4, 0, 0, 0, 0) :: (6, 0, 154, 3, 0) :: []) (by decide +kernel) h
  exact h2
theorem eg217_151_102_2 {n : Nat} {w : px_W} {r : Option Value × px_W} {x1 x2 x3 x4 x5 : Int} (h : ec_E hb_X n 217 102 [(0, .inr (.inl 215)), (1, .inl x1), (2, .inl x2), (3, .inl x3), (4, .inl x4), (5, .inl x5)] [] w r) : ec_tw x5 < ec_tw (ec_rd w 152 (ec_tw 5)) → ec_tw (ec_and (ec_shr x4 x5) 1) ≠ ec_tw 1 → (True ∧ 0 ≤ ec_tw 5 ∧ ec_tw 5 < 1580) ∧ ec_E hb_X n 217 136 [(0, .inr (.inl 215)), (1, .inl x1), (2, .inl x2), (3, .inl x3), (4, .inl x4), (5, .inl x5)] [.inl 0, .inl x3] w r := by
  have h2 := hb_ecw ((0, 0, 5, 0, 0) :: (0, 1, 0, 0, 0) :: (5, 1, 151, 216, 0) :: (0, 2, 0, 0, 5) :: (5, 2, 152, 0, 1580) :: (4, 2, 2, 0, 0) :: (0, 0, 3, 0, 0) :: (0, 0, 4, 0, 0) :: (0, 0, 5, 0, 0) :: (1, 7, 0, 0, 0) :: (0, 2, 0, 0, 1) :: (1, 3, 0, 0, 0) :: (0, 2, 0, 0, 1) :: (4, 2, 1, 1, 0) :: (0, 2, 0, 0, 0) :: (6, 0, 136, 6, 0) :: []) (by decide +kernel) h
  exact h2
theorem eg217_151_102_3 {n : Nat} {w : px_W} {r : Option Value × px_W} {x1 x2 x3 x4 x5 : Int} (h : ec_E hb_X n 217 102 [(0, .inr (.inl 215)), (1, .inl x1), (2, .inl x2), (3, .inl x3), (4, .inl x4), (5, .inl x5)] [] w r) : ec_tw x5 < ec_tw (ec_rd w 152 (ec_tw 5)) → ec_tw (ec_and (ec_shr x4 x5) 1) = ec_tw 1 → ((True ∧ 0 ≤ ec_tw 5 ∧ ec_tw 5 < 1580) ∧ 0 ≤ ec_tw x5 ∧ ec_tw x5 < 8) ∧ ec_E hb_X n 217 136 [(0, .inr (.inl 215)), (1, .inl x1), (2, .inl x2), (3, .inl x3), (4, .inl x4), (5, .inl x5)] [.inl (ec_rd w 163 (ec_tw x5)), .inl x3] w r := by
  have h2 := hb_ecw ((0, 0, 5, 0, 0) :: (0, 1, 0, 0, 0) :: (5, 1, 151, 216, 0) :: (0, 2, 0, 0, 5) :: (5, 2, 152, 0, 1580) :: (4, 2, 2, 0, 0) :: (0, 0, 3, 0, 0) :: (0, 0, 4, 0, 0) :: (0, 0, 5, 0, 0) :: (1, 7, 0, 0, 0) :: (0, 2, 0, 0, 1) :: (1, 3, 0, 0, 0) :: (0, 2, 0, 0, 1) :: (4, 2, 0, 0, 0) :: (0, 1, 0, 0, 0) :: (5, 1, 151, 227, 0) :: (0, 0, 5, 0, 0) :: (5, 2, 163, 0, 8) :: (4, 0, 0, 0, 0) :: (6, 0, 136, 6, 0) :: []) (by decide +kernel) h
  exact h2
theorem eg217_151_51_0 {n : Nat} {w : px_W} {r : Option Value × px_W} {x1 x2 x3 x4 x5 s0 : Int} (h : ec_E hb_X n 217 51 [(0, .inr (.inl 215)), (1, .inl x1), (2, .inl x2), (3, .inl x3), (4, .inl x4), (5, .inl x5)] [.inl s0] w r) : ec_tw s0 = ec_tw 0 → (True ∧ 0 ≤ ec_tw x5 ∧ ec_tw x5 < 10) ∧ ec_E hb_X n 217 70 [(0, .inr (.inl 215)), (1, .inl x1), (2, .inl x2), (3, .inl x3), (4, .inl x4), (5, .inl x5), (6, .inl s0)] [.inl (ec_rd w 162 (ec_tw x5)), .inl x3] w r := by
  have h2 := hb_ecw ((0, 3, 6, 0, 0) :: (0, 0, 3, 0, 0) :: (0, 0, 6, 0, 0) :: (4, 1, 0, 1, 0) :: (0, 1, 0, 0, 0) :: (5, 1, 151, 226, 0) :: (0, 0, 5, 0, 0) :: (5, 2, 162, 0, 10) :: (6, 0, 70, 7, 0) :: []) (by decide +kernel) h
  exact h2
theorem eg217_151_51_1 {n : Nat} {w : px_W} {r : Option Value × px_W} {x1 x2 x3 x4 x5 s0 : Int} (h : ec_E hb_X n 217 51 [(0, .inr (.inl 215)), (1, .inl x1), (2, .inl x2), (3, .inl x3), (4, .inl x4), (5, .inl x5)] [.inl s0] w r) : ec_tw s0 ≠ ec_tw 0 → True ∧ ec_E hb_X n 217 70 [(0, .inr (.inl 215)), (1, .inl x1), (2, .inl x2), (3, .inl x3), (4, .inl x4), (5, .inl x5), (6, .inl s0)] [.inl 0, .inl x3] w r := by
  have h2 := hb_ecw ((0, 3, 6, 0, 0) :: (0, 0, 3, 0, 0) :: (0, 0, 6, 0, 0) :: (4, 1, 1, 0, 0) :: (0, 2, 0, 0, 0) :: (4, 0, 0, 0, 0) :: (6, 0, 70, 7, 0) :: []) (by decide +kernel) h
  exact h2
theorem eg217_151_154_0 {n : Nat} {w : px_W} {r : Option Value × px_W} {x1 x2 s0 : Int} (h : ec_E hb_X n 217 154 [(0, .inr (.inl 215)), (1, .inl x1), (2, .inl x2)] [.inl s0] w r) : True ∧ ec_E hb_X n 217 5 [(0, .inr (.inl 215)), (1, .inl s0), (2, .inl (x2 + 1))] [] w r := by
  have h2 := hb_ecw ((0, 3, 1, 0, 0) :: (0, 5, 2, 0, 1) :: (4, 0, 0, 0, 0) :: (6, 0, 5, 3, 0) :: []) (by decide +kernel) h
  exact h2
theorem eg217_151_136_0 {n : Nat} {w : px_W} {r : Option Value × px_W} {x1 x2 x3 x4 x5 s0 s1 : Int} (h : ec_E hb_X n 217 136 [(0, .inr (.inl 215)), (1, .inl x1), (2, .inl x2), (3, .inl x3), (4, .inl x4), (5, .inl x5)] [.inl s1, .inl s0] w r) : True ∧ ec_E hb_X n 217 102 [(0, .inr (.inl 215)), (1, .inl x1), (2, .inl x2), (3, .inl (s0 + s1)), (4, .inl x4), (5, .inl (x5 + 1))] [] w r := by
  have h2 := hb_ecw ((1, 0, 0, 0, 0) :: (0, 3, 3, 0, 0) :: (0, 5, 5, 0, 1) :: (4, 0, 0, 0, 0) :: (6, 0, 102, 6, 0) :: []) (by decide +kernel) h
  exact h2
theorem eg217_151_70_0 {n : Nat} {w : px_W} {r : Option Value × px_W} {x1 x2 x3 x4 x5 x6 s0 s1 : Int} (h : ec_E hb_X n 217 70 [(0, .inr (.inl 215)), (1, .inl x1), (2, .inl x2), (3, .inl x3), (4, .inl x4), (5, .inl x5), (6, .inl x6)] [.inl s1, .inl s0] w r) : ec_tw x6 = ec_tw 0 → True ∧ ec_E hb_X n 217 90 [(0, .inr (.inl 215)), (1, .inl x1), (2, .inl x2), (3, .inl (s0 + s1)), (4, .inl x4), (5, .inl x5), (6, .inl x6)] [.inl 0, .inl x4] w r := by
  have h2 := hb_ecw ((1, 0, 0, 0, 0) :: (0, 3, 3, 0, 0) :: (0, 0, 4, 0, 0) :: (0, 0, 6, 0, 0) :: (4, 1, 0, 1, 0) :: (0, 2, 0, 0, 0) :: (6, 0, 90, 7, 0) :: []) (by decide +kernel) h
  exact h2
theorem eg217_151_70_1 {n : Nat} {w : px_W} {r : Option Value × px_W} {x1 x2 x3 x4 x5 x6 s0 s1 : Int} (h : ec_E hb_X n 217 70 [(0, .inr (.inl 215)), (1, .inl x1), (2, .inl x2), (3, .inl x3), (4, .inl x4), (5, .inl x5), (6, .inl x6)] [.inl s1, .inl s0] w r) : ec_tw x6 ≠ ec_tw 0 → (True ∧ 0 ≤ ec_tw x5 ∧ ec_tw x5 < 10) ∧ ec_E hb_X n 217 90 [(0, .inr (.inl 215)), (1, .inl x1), (2, .inl x2), (3, .inl (s0 + s1)), (4, .inl x4), (5, .inl x5), (6, .inl x6)] [.inl (ec_rd w 161 (ec_tw x5)), .inl x4] w r := by
  have h2 := hb_ecw ((1, 0, 0, 0, 0) :: (0, 3, 3, 0, 0) :: (0, 0, 4, 0, 0) :: (0, 0, 6, 0, 0) :: (4, 1, 1, 0, 0) :: (0, 1, 0, 0, 0) :: (5, 1, 151, 225, 0) :: (0, 0, 5, 0, 0) :: (5, 2, 161, 0, 10) :: (4, 0, 0, 0, 0) :: (6, 0, 90, 7, 0) :: []) (by decide +kernel) h
  exact h2
theorem eg217_151_90_0 {n : Nat} {w : px_W} {r : Option Value × px_W} {x1 x2 x3 x4 x5 x6 s0 s1 : Int} (h : ec_E hb_X n 217 90 [(0, .inr (.inl 215)), (1, .inl x1), (2, .inl x2), (3, .inl x3), (4, .inl x4), (5, .inl x5), (6, .inl x6)] [.inl s1, .inl s0] w r) : True ∧ ec_E hb_X n 217 25 [(0, .inr (.inl 215)), (1, .inl x1), (2, .inl x2), (3, .inl x3), (4, .inl (ec_or s0 s1)), (5, .inl (x5 + 1))] [] w r := by
  have h2 := hb_ecw ((1, 4, 0, 0, 0) :: (0, 3, 4, 0, 0) :: (0, 5, 5, 0, 1) :: (4, 0, 0, 0, 0) :: (6, 0, 25, 6, 0) :: []) (by decide +kernel) h
  exact h2
/-! X12_most -/
theorem eg218_151_0_0 {n : Nat} {w : px_W} {r : Option Value × px_W} (h : ec_E hb_X n 218 0 [(0, .inr (.inl 215))] [] w r) : True ∧ ∃ (v : Option Value) (w1 : px_W), ec_E hb_X n 214 0 [(0, .inr (.inl 215))] [] w (v, w1) ∧ (v = none → ec_W hb_A w1 → ec_E hb_X n 218 4 [(0, .inr (.inl 215))] [] w1 r) := by
  have h2 := hb_ecw ((0, 1, 0, 0, 0) :: (6, 2, 214, 1, 4) :: []) (by decide +kernel) h
  exact h2
theorem eg218_151_4_0 {n : Nat} {w : px_W} {r : Option Value × px_W} (h : ec_E hb_X n 218 4 [(0, .inr (.inl 215))] [] w r) : True ∧ ∃ (v : Option Value) (w1 : px_W), ec_E hb_X n 215 0 [(0, .inr (.inl 215))] [] w (v, w1) ∧ (v = none → ec_W hb_A w1 → ec_E hb_X n 218 8 [(0, .inr (.inl 215))] [] w1 r) := by
  have h2 := hb_ecw ((0, 1, 0, 0, 0) :: (6, 2, 215, 1, 8) :: []) (by decide +kernel) h
  exact h2
theorem eg218_151_8_0 {n : Nat} {w : px_W} {r : Option Value × px_W} (h : ec_E hb_X n 218 8 [(0, .inr (.inl 215))] [] w r) : True ∧ ∃ (v : Option Value) (w1 : px_W), ec_E hb_X n 217 0 [(0, .inr (.inl 215))] [] w (v, w1) ∧ ∀ zz : Int, v = ec_R zz → ec_W hb_A w1 → ec_E hb_X n 218 12 [(0, .inr (.inl 215))] [.inl zz] w1 r := by
  have h2 := hb_ecw ((0, 1, 0, 0, 0) :: (6, 1, 217, 1, 12) :: []) (by decide +kernel) h
  exact h2
theorem eg218_151_12_0 {n : Nat} {w : px_W} {r : Option Value × px_W} {s0 : Int} (h : ec_E hb_X n 218 12 [(0, .inr (.inl 215))] [.inl s0] w r) : True ∧ r = (ec_R s0, w) ∧ ec_W hb_A w := by
  have h2 := hb_ecw ((6, 3, 0, 0, 0) :: []) (by decide +kernel) h
  exact h2

end

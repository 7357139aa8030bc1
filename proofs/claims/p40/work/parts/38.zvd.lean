noncomputable section
/-! X6_versionAt -/
theorem eg82_44_0_0 {n : Nat} {w : px_W} {r : Option Value × px_W} {x1 : Int} (h : ec_E hb_X n 82 0 [(0, .inr (.inl 108)), (1, .inl x1)] [] w r) : True ∧ ec_E hb_X n 82 7 [(0, .inr (.inl 108)), (1, .inl x1), (2, .inl ((ec_fd w 44 0) - 1))] [] w r := by
  have h2 := hb_ecw ((0, 1, 0, 0, 0) :: (5, 0, 44, 0, 0) :: (0, 2, 0, 0, 1) :: (1, 1, 0, 0, 0) :: (0, 3, 2, 0, 0) :: (6, 0, 7, 3, 0) :: []) (by decide +kernel) h
  exact h2
theorem eg82_44_7_0 {n : Nat} {w : px_W} {r : Option Value × px_W} {x1 x2 : Int} (h : ec_E hb_X n 82 7 [(0, .inr (.inl 108)), (1, .inl x1), (2, .inl x2)] [] w r) : ec_tw x2 < ec_tw 0 → True ∧ r = (ec_R (-1), w) ∧ ec_W hb_A w := by
  have h2 := hb_ecw ((0, 0, 2, 0, 0) :: (4, 1, 2, 1, 0) :: (0, 2, 0, 0, (-1)) :: (6, 3, 0, 0, 0) :: []) (by decide +kernel) h
  exact h2
theorem eg82_44_7_1 {n : Nat} {w : px_W} {r : Option Value × px_W} {x1 x2 : Int} (h : ec_E hb_X n 82 7 [(0, .inr (.inl 108)), (1, .inl x1), (2, .inl x2)] [] w r) : ec_tw 0 ≤ ec_tw x2 → ec_tw x1 < ec_tw (ec_rd w 45 (ec_tw x2)) → (True ∧ 0 ≤ ec_tw x2 ∧ ec_tw x2 < 7) ∧ ec_E hb_X n 82 7 [(0, .inr (.inl 108)), (1, .inl x1), (2, .inl (x2 + (-1)))] [] w r := by
  have h2 := hb_ecw ((0, 0, 2, 0, 0) :: (4, 1, 3, 0, 0) :: (0, 1, 0, 0, 0) :: (5, 1, 44, 109, 0) :: (0, 0, 2, 0, 0) :: (5, 2, 45, 0, 7) :: (0, 0, 1, 0, 0) :: (4, 2, 4, 1, 0) :: (0, 5, 2, 0, (-1)) :: (4, 0, 0, 0, 0) :: (6, 0, 7, 3, 0) :: []) (by decide +kernel) h
  exact h2
theorem eg82_44_7_2 {n : Nat} {w : px_W} {r : Option Value × px_W} {x1 x2 : Int} (h : ec_E hb_X n 82 7 [(0, .inr (.inl 108)), (1, .inl x1), (2, .inl x2)] [] w r) : ec_tw 0 ≤ ec_tw x2 → ec_tw (ec_rd w 45 (ec_tw x2)) ≤ ec_tw x1 → (True ∧ 0 ≤ ec_tw x2 ∧ ec_tw x2 < 7) ∧ r = (ec_R x2, w) ∧ ec_W hb_A w := by
  have h2 := hb_ecw ((0, 0, 2, 0, 0) :: (4, 1, 3, 0, 0) :: (0, 1, 0, 0, 0) :: (5, 1, 44, 109, 0) :: (0, 0, 2, 0, 0) :: (5, 2, 45, 0, 7) :: (0, 0, 1, 0, 0) :: (4, 2, 5, 0, 0) :: (0, 0, 2, 0, 0) :: (6, 3, 0, 0, 0) :: []) (by decide +kernel) h
  exact h2
/-! X6_latestLine -/
theorem eg83_44_0_0 {n : Nat} {w : px_W} {r : Option Value × px_W} {x1 x2 : Int} (h : ec_E hb_X n 83 0 [(0, .inr (.inl 108)), (1, .inl x1), (2, .inl x2)] [] w r) : True ∧ ∃ (v : Option Value) (w1 : px_W), ec_E hb_X n 82 0 [(0, .inr (.inl 108)), (1, .inl x2)] [] w (v, w1) ∧ ∀ zz : Int, v = ec_R zz → ec_W hb_A w1 → ec_E hb_X n 83 5 [(0, .inr (.inl 108)), (1, .inl x1), (2, .inl x2)] [.inl zz] w1 r := by
  have h2 := hb_ecw ((0, 1, 0, 0, 0) :: (0, 0, 2, 0, 0) :: (6, 1, 82, 2, 5) :: []) (by decide +kernel) h
  exact h2
theorem eg83_44_5_0 {n : Nat} {w : px_W} {r : Option Value × px_W} {x1 x2 s0 : Int} (h : ec_E hb_X n 83 5 [(0, .inr (.inl 108)), (1, .inl x1), (2, .inl x2)] [.inl s0] w r) : ec_tw 0 ≤ ec_tw s0 → (True ∧ 0 ≤ ec_tw s0 ∧ ec_tw s0 < 7) ∧ ec_E hb_X n 83 22 [(0, .inr (.inl 108)), (1, .inl x1), (2, .inl x2), (3, .inl s0), (4, .inl ((ec_rd w 46 (ec_tw s0)) - 1))] [] w r := by
  have h2 := hb_ecw ((0, 3, 3, 0, 0) :: (0, 0, 3, 0, 0) :: (4, 1, 3, 1, 0) :: (0, 1, 0, 0, 0) :: (5, 1, 44, 110, 0) :: (0, 0, 3, 0, 0) :: (5, 2, 46, 0, 7) :: (0, 2, 0, 0, 1) :: (1, 1, 0, 0, 0) :: (0, 3, 4, 0, 0) :: (6, 0, 22, 5, 0) :: []) (by decide +kernel) h
  exact h2
theorem eg83_44_5_1 {n : Nat} {w : px_W} {r : Option Value × px_W} {x1 x2 s0 : Int} (h : ec_E hb_X n 83 5 [(0, .inr (.inl 108)), (1, .inl x1), (2, .inl x2)] [.inl s0] w r) : ec_tw s0 < ec_tw 0 → True ∧ r = (ec_R (-1), w) ∧ ec_W hb_A w := by
  have h2 := hb_ecw ((0, 3, 3, 0, 0) :: (0, 0, 3, 0, 0) :: (4, 1, 2, 0, 0) :: (0, 2, 0, 0, (-1)) :: (6, 3, 0, 0, 0) :: []) (by decide +kernel) h
  exact h2
theorem eg83_44_22_0 {n : Nat} {w : px_W} {r : Option Value × px_W} {x1 x2 x3 x4 : Int} (h : ec_E hb_X n 83 22 [(0, .inr (.inl 108)), (1, .inl x1), (2, .inl x2), (3, .inl x3), (4, .inl x4)] [] w r) : ec_tw x4 < ec_tw 0 → True ∧ r = (ec_R (-1), w) ∧ ec_W hb_A w := by
  have h2 := hb_ecw ((0, 0, 4, 0, 0) :: (4, 1, 2, 1, 0) :: (0, 2, 0, 0, (-1)) :: (6, 3, 0, 0, 0) :: []) (by decide +kernel) h
  exact h2
theorem eg83_44_22_1 {n : Nat} {w : px_W} {r : Option Value × px_W} {x1 x2 x3 x4 : Int} (h : ec_E hb_X n 83 22 [(0, .inr (.inl 108)), (1, .inl x1), (2, .inl x2), (3, .inl x3), (4, .inl x4)] [] w r) : ec_tw 0 ≤ ec_tw x4 → ec_tw (ec_rd w 47 (ec_tw ((x3 * 8) + x4))) ≠ ec_tw x1 → (True ∧ 0 ≤ ec_tw ((x3 * 8) + x4) ∧ ec_tw ((x3 * 8) + x4) < 56) ∧ ec_E hb_X n 83 22 [(0, .inr (.inl 108)), (1, .inl x1), (2, .inl x2), (3, .inl x3), (4, .inl (x4 + (-1)))] [] w r := by
  have h2 := hb_ecw ((0, 0, 4, 0, 0) :: (4, 1, 3, 0, 0) :: (0, 1, 0, 0, 0) :: (5, 1, 44, 111, 0) :: (0, 0, 3, 0, 0) :: (0, 2, 0, 0, 8) :: (1, 2, 0, 0, 0) :: (0, 0, 4, 0, 0) :: (1, 0, 0, 0, 0) :: (5, 2, 47, 0, 56) :: (0, 0, 1, 0, 0) :: (4, 2, 1, 1, 0) :: (0, 5, 4, 0, (-1)) :: (4, 0, 0, 0, 0) :: (6, 0, 22, 5, 0) :: []) (by decide +kernel) h
  exact h2
theorem eg83_44_22_2 {n : Nat} {w : px_W} {r : Option Value × px_W} {x1 x2 x3 x4 : Int} (h : ec_E hb_X n 83 22 [(0, .inr (.inl 108)), (1, .inl x1), (2, .inl x2), (3, .inl x3), (4, .inl x4)] [] w r) : ec_tw 0 ≤ ec_tw x4 → ec_tw (ec_rd w 47 (ec_tw ((x3 * 8) + x4))) = ec_tw x1 → (True ∧ 0 ≤ ec_tw ((x3 * 8) + x4) ∧ ec_tw ((x3 * 8) + x4) < 56) ∧ r = (ec_R ((x3 * 8) + x4), w) ∧ ec_W hb_A w := by
  have h2 := hb_ecw ((0, 0, 4, 0, 0) :: (4, 1, 3, 0, 0) :: (0, 1, 0, 0, 0) :: (5, 1, 44, 111, 0) :: (0, 0, 3, 0, 0) :: (0, 2, 0, 0, 8) :: (1, 2, 0, 0, 0) :: (0, 0, 4, 0, 0) :: (1, 0, 0, 0, 0) :: (5, 2, 47, 0, 56) :: (0, 0, 1, 0, 0) :: (4, 2, 0, 0, 0) :: (0, 0, 3, 0, 0) :: (0, 2, 0, 0, 8) :: (1, 2, 0, 0, 0) :: (0, 0, 4, 0, 0) :: (1, 0, 0, 0, 0) :: (6, 3, 0, 0, 0) :: []) (by decide +kernel) h
  exact h2
/-! X12_readsFor -/
theorem eg263_151_0_0 {n : Nat} {w : px_W} {r : Option Value × px_W} {x1 : Int} (h : ec_E hb_X n 263 0 [(0, .inr (.inl 215)), (1, .inl x1)] [] w r) : True ∧ ec_E hb_X n 263 4 [(0, .inr (.inl 215)), (1, .inl x1), (2, .inl (-1)), (3, .inl 0)] [] w r := by
  have h2 := hb_ecw ((0, 2, 0, 0, (-1)) :: (0, 3, 2, 0, 0) :: (0, 2, 0, 0, 0) :: (0, 3, 3, 0, 0) :: (6, 0, 4, 4, 0) :: []) (by decide +kernel) h
  exact h2
theorem eg263_151_4_0 {n : Nat} {w : px_W} {r : Option Value × px_W} {x1 x2 x3 : Int} (h : ec_E hb_X n 263 4 [(0, .inr (.inl 215)), (1, .inl x1), (2, .inl x2), (3, .inl x3)] [] w r) : ec_tw (ec_rd w 152 (ec_tw 10)) ≤ ec_tw x3 → (True ∧ 0 ≤ ec_tw 10 ∧ ec_tw 10 < 1580) ∧ ec_E hb_X n 263 41 [(0, .inr (.inl 215)), (1, .inl x1), (2, .inl x2)] [] w r := by
  have h2 := hb_ecw ((0, 0, 3, 0, 0) :: (0, 1, 0, 0, 0) :: (5, 1, 151, 216, 0) :: (0, 2, 0, 0, 10) :: (5, 2, 152, 0, 1580) :: (4, 2, 3, 1, 0) :: (6, 0, 41, 3, 0) :: []) (by decide +kernel) h
  exact h2
theorem eg263_151_4_1 {n : Nat} {w : px_W} {r : Option Value × px_W} {x1 x2 x3 : Int} (h : ec_E hb_X n 263 4 [(0, .inr (.inl 215)), (1, .inl x1), (2, .inl x2), (3, .inl x3)] [] w r) : ec_tw x3 < ec_tw (ec_rd w 152 (ec_tw 10)) → ec_tw x1 < ec_tw (ec_rd w 152 (ec_tw (368 + x3))) → ((True ∧ 0 ≤ ec_tw 10 ∧ ec_tw 10 < 1580) ∧ 0 ≤ ec_tw (368 + x3) ∧ ec_tw (368 + x3) < 1580) ∧ ec_E hb_X n 263 34 [(0, .inr (.inl 215)), (1, .inl x1), (2, .inl x2), (3, .inl x3)] [.inl x2] w r := by
  have h2 := hb_ecw ((0, 0, 3, 0, 0) :: (0, 1, 0, 0, 0) :: (5, 1, 151, 216, 0) :: (0, 2, 0, 0, 10) :: (5, 2, 152, 0, 1580) :: (4, 2, 2, 0, 0) :: (0, 1, 0, 0, 0) :: (5, 1, 151, 216, 0) :: (0, 2, 0, 0, 368) :: (0, 0, 3, 0, 0) :: (1, 0, 0, 0, 0) :: (5, 2, 152, 0, 1580) :: (0, 0, 1, 0, 0) :: (4, 2, 4, 1, 0) :: (0, 0, 2, 0, 0) :: (6, 0, 34, 4, 0) :: []) (by decide +kernel) h
  exact h2
theorem eg263_151_4_2 {n : Nat} {w : px_W} {r : Option Value × px_W} {x1 x2 x3 : Int} (h : ec_E hb_X n 263 4 [(0, .inr (.inl 215)), (1, .inl x1), (2, .inl x2), (3, .inl x3)] [] w r) : ec_tw x3 < ec_tw (ec_rd w 152 (ec_tw 10)) → ec_tw (ec_rd w 152 (ec_tw (368 + x3))) ≤ ec_tw x1 → ((True ∧ 0 ≤ ec_tw 10 ∧ ec_tw 10 < 1580) ∧ 0 ≤ ec_tw (368 + x3) ∧ ec_tw (368 + x3) < 1580) ∧ ec_E hb_X n 263 34 [(0, .inr (.inl 215)), (1, .inl x1), (2, .inl x2), (3, .inl x3)] [.inl x3] w r := by
  have h2 := hb_ecw ((0, 0, 3, 0, 0) :: (0, 1, 0, 0, 0) :: (5, 1, 151, 216, 0) :: (0, 2, 0, 0, 10) :: (5, 2, 152, 0, 1580) :: (4, 2, 2, 0, 0) :: (0, 1, 0, 0, 0) :: (5, 1, 151, 216, 0) :: (0, 2, 0, 0, 368) :: (0, 0, 3, 0, 0) :: (1, 0, 0, 0, 0) :: (5, 2, 152, 0, 1580) :: (0, 0, 1, 0, 0) :: (4, 2, 5, 0, 0) :: (0, 0, 3, 0, 0) :: (4, 0, 0, 0, 0) :: (6, 0, 34, 4, 0) :: []) (by decide +kernel) h
  exact h2
theorem eg263_151_41_0 {n : Nat} {w : px_W} {r : Option Value × px_W} {x1 x2 : Int} (h : ec_E hb_X n 263 41 [(0, .inr (.inl 215)), (1, .inl x1), (2, .inl x2)] [] w r) : ec_tw 0 ≤ ec_tw x2 → ec_tw 0 ≤ ec_tw x2 → (True ∧ 0 ≤ ec_tw (374 + x2) ∧ ec_tw (374 + x2) < 1580) ∧ ∃ (v : Option Value) (w1 : px_W), ec_E hb_X n 260 0 [(0, .inr (.inl 215)), (1, .inl (380 + (200 * x2))), (2, .inl (ec_rd w 152 (ec_tw (374 + x2))))] [] w (v, w1) ∧ (v = none → ec_W hb_A w1 → ec_E hb_X n 263 80 [(0, .inr (.inl 215)), (1, .inl x1), (2, .inl x2)] [] w1 r) := by
  have h2 := hb_ecw ((0, 1, 0, 0, 0) :: (0, 2, 0, 0, 380) :: (0, 2, 0, 0, 200) :: (0, 0, 2, 0, 0) :: (4, 1, 3, 1, 0) :: (0, 0, 2, 0, 0) :: (1, 2, 0, 0, 0) :: (1, 0, 0, 0, 0) :: (0, 0, 2, 0, 0) :: (4, 1, 3, 1, 0) :: (0, 1, 0, 0, 0) :: (5, 1, 151, 216, 0) :: (0, 2, 0, 0, 374) :: (0, 0, 2, 0, 0) :: (1, 0, 0, 0, 0) :: (5, 2, 152, 0, 1580) :: (6, 2, 260, 3, 80) :: []) (by decide +kernel) h
  exact h2
theorem eg263_151_41_1 {n : Nat} {w : px_W} {r : Option Value × px_W} {x1 x2 : Int} (h : ec_E hb_X n 263 41 [(0, .inr (.inl 215)), (1, .inl x1), (2, .inl x2)] [] w r) : ec_tw 0 ≤ ec_tw x2 → ec_tw x2 < ec_tw 0 → True ∧ ∃ (v : Option Value) (w1 : px_W), ec_E hb_X n 260 0 [(0, .inr (.inl 215)), (1, .inl (380 + (200 * x2))), (2, .inl 0)] [] w (v, w1) ∧ (v = none → ec_W hb_A w1 → ec_E hb_X n 263 80 [(0, .inr (.inl 215)), (1, .inl x1), (2, .inl x2)] [] w1 r) := by
  have h2 := hb_ecw ((0, 1, 0, 0, 0) :: (0, 2, 0, 0, 380) :: (0, 2, 0, 0, 200) :: (0, 0, 2, 0, 0) :: (4, 1, 3, 1, 0) :: (0, 0, 2, 0, 0) :: (1, 2, 0, 0, 0) :: (1, 0, 0, 0, 0) :: (0, 0, 2, 0, 0) :: (4, 1, 2, 0, 0) :: (0, 2, 0, 0, 0) :: (4, 0, 0, 0, 0) :: (6, 2, 260, 3, 80) :: []) (by decide +kernel) h
  exact h2
theorem eg263_151_41_2 {n : Nat} {w : px_W} {r : Option Value × px_W} {x1 x2 : Int} (h : ec_E hb_X n 263 41 [(0, .inr (.inl 215)), (1, .inl x1), (2, .inl x2)] [] w r) : ec_tw x2 < ec_tw 0 → ec_tw 0 ≤ ec_tw x2 → (True ∧ 0 ≤ ec_tw (374 + x2) ∧ ec_tw (374 + x2) < 1580) ∧ ∃ (v : Option Value) (w1 : px_W), ec_E hb_X n 260 0 [(0, .inr (.inl 215)), (1, .inl (380 + (200 * 0))), (2, .inl (ec_rd w 152 (ec_tw (374 + x2))))] [] w (v, w1) ∧ (v = none → ec_W hb_A w1 → ec_E hb_X n 263 80 [(0, .inr (.inl 215)), (1, .inl x1), (2, .inl x2)] [] w1 r) := by
  have h2 := hb_ecw ((0, 1, 0, 0, 0) :: (0, 2, 0, 0, 380) :: (0, 2, 0, 0, 200) :: (0, 0, 2, 0, 0) :: (4, 1, 2, 0, 0) :: (0, 2, 0, 0, 0) :: (4, 0, 0, 0, 0) :: (1, 2, 0, 0, 0) :: (1, 0, 0, 0, 0) :: (0, 0, 2, 0, 0) :: (4, 1, 3, 1, 0) :: (0, 1, 0, 0, 0) :: (5, 1, 151, 216, 0) :: (0, 2, 0, 0, 374) :: (0, 0, 2, 0, 0) :: (1, 0, 0, 0, 0) :: (5, 2, 152, 0, 1580) :: (6, 2, 260, 3, 80) :: []) (by decide +kernel) h
  exact h2
theorem eg263_151_41_3 {n : Nat} {w : px_W} {r : Option Value × px_W} {x1 x2 : Int} (h : ec_E hb_X n 263 41 [(0, .inr (.inl 215)), (1, .inl x1), (2, .inl x2)] [] w r) : ec_tw x2 < ec_tw 0 → ec_tw x2 < ec_tw 0 → True ∧ ∃ (v : Option Value) (w1 : px_W), ec_E hb_X n 260 0 [(0, .inr (.inl 215)), (1, .inl (380 + (200 * 0))), (2, .inl 0)] [] w (v, w1) ∧ (v = none → ec_W hb_A w1 → ec_E hb_X n 263 80 [(0, .inr (.inl 215)), (1, .inl x1), (2, .inl x2)] [] w1 r) := by
  have h2 := hb_ecw ((0, 1, 0, 0, 0) :: (0, 2, 0, 0, 380) :: (0, 2, 0, 0, 200) :: (0, 0, 2, 0, 0) :: (4, 1, 2, 0, 0) :: (0, 2, 0, 0, 0) :: (4, 0, 0, 0, 0) :: (1, 2, 0, 0, 0) :: (1, 0, 0, 0, 0) :: (0, 0, 2, 0, 0) :: (4, 1, 2, 0, 0) :: (0, 2, 0, 0, 0) :: (4, 0, 0, 0, 0) :: (6, 2, 260, 3, 80) :: []) (by decide +kernel) h
  exact h2
theorem eg263_151_34_0 {n : Nat} {w : px_W} {r : Option Value × px_W} {x1 x2 x3 s0 : Int} (h : ec_E hb_X n 263 34 [(0, .inr (.inl 215)), (1, .inl x1), (2, .inl x2), (3, .inl x3)] [.inl s0] w r) : True ∧ ec_E hb_X n 263 4 [(0, .inr (.inl 215)), (1, .inl x1), (2, .inl s0), (3, .inl (x3 + 1))] [] w r := by
  have h2 := hb_ecw ((0, 3, 2, 0, 0) :: (0, 5, 3, 0, 1) :: (4, 0, 0, 0, 0) :: (6, 0, 4, 4, 0) :: []) (by decide +kernel) h
  exact h2
theorem eg263_151_80_0 {n : Nat} {w : px_W} {r : Option Value × px_W} {x1 x2 : Int} (h : ec_E hb_X n 263 80 [(0, .inr (.inl 215)), (1, .inl x1), (2, .inl x2)] [] w r) : True ∧ r = (none, w) ∧ ec_W hb_A w := by
  have h2 := hb_ecw ((6, 4, 0, 0, 0) :: []) (by decide +kernel) h
  exact h2

end

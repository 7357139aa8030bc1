noncomputable section
/-! X11_ready -/
theorem eg142_0_0_0 {n : Nat} {w : px_W} {r : Option Value × px_W} {x1 : Int} (h : ec_E hb_X n 142 0 [(0, .inr (.inl 64)), (1, .inl x1)] [] w r) : True ∧ ∃ (v : Option Value) (w1 : px_W), ec_E hb_X n 173 0 [(0, .inl x1), (1, .inl 0), (2, .inl 60)] [] w (v, w1) ∧ ∀ zz : Int, v = ec_R zz → ec_W hb_A w1 → ec_E hb_X n 142 7 [(0, .inr (.inl 64)), (1, .inl x1)] [.inl zz] w1 r := by
  have h2 := hb_ecw ((0, 0, 1, 0, 0) :: (0, 2, 0, 0, 0) :: (0, 2, 0, 0, 60) :: (6, 1, 173, 3, 7) :: []) (by decide +kernel) h
  exact h2
theorem eg142_0_7_0 {n : Nat} {w : px_W} {r : Option Value × px_W} {x1 s0 : Int} (h : ec_E hb_X n 142 7 [(0, .inr (.inl 64)), (1, .inl x1)] [.inl s0] w r) : ec_tw s0 ≠ ec_tw 0 → True ∧ r = (ec_R (ec_fd w 29 0), ec_pf w 29 0 x1) ∧ ec_W hb_A (ec_pf w 29 0 x1) := by
  have h2 := hb_ecw ((4, 1, 1, 1, 0) :: (0, 1, 0, 0, 0) :: (5, 1, 0, 93, 0) :: (5, 0, 29, 0, 0) :: (0, 3, 2, 0, 0) :: (0, 1, 0, 0, 0) :: (5, 1, 0, 93, 0) :: (0, 0, 1, 0, 0) :: (5, 4, 29, 0, 0) :: (0, 0, 2, 0, 0) :: (6, 3, 0, 0, 0) :: []) (by decide +kernel) h
  exact h2
theorem eg142_0_7_1 {n : Nat} {w : px_W} {r : Option Value × px_W} {x1 s0 : Int} (h : ec_E hb_X n 142 7 [(0, .inr (.inl 64)), (1, .inl x1)] [.inl s0] w r) : ec_tw s0 = ec_tw 0 → True ∧ r = (ec_R (-1), w) ∧ ec_W hb_A w := by
  have h2 := hb_ecw ((4, 1, 0, 0, 0) :: (0, 2, 0, 0, (-1)) :: (6, 3, 0, 0, 0) :: []) (by decide +kernel) h
  exact h2
/-! X12_ready -/
theorem eg230_151_0_0 {n : Nat} {w : px_W} {r : Option Value × px_W} {x1 : Int} (h : ec_E hb_X n 230 0 [(0, .inr (.inl 215)), (1, .inl x1)] [] w r) : True ∧ ∃ (v : Option Value) (w1 : px_W), ec_E hb_X n 182 0 [(0, .inl x1), (1, .inl 0), (2, .inl 60)] [] w (v, w1) ∧ ∀ zz : Int, v = ec_R zz → ec_W hb_A w1 → ec_E hb_X n 230 7 [(0, .inr (.inl 215)), (1, .inl x1)] [.inl zz] w1 r := by
  have h2 := hb_ecw ((0, 0, 1, 0, 0) :: (0, 2, 0, 0, 0) :: (0, 2, 0, 0, 60) :: (6, 1, 182, 3, 7) :: []) (by decide +kernel) h
  exact h2
theorem eg230_151_7_0 {n : Nat} {w : px_W} {r : Option Value × px_W} {x1 s0 : Int} (h : ec_E hb_X n 230 7 [(0, .inr (.inl 215)), (1, .inl x1)] [.inl s0] w r) : ec_tw s0 ≠ ec_tw 0 → ((True ∧ 0 ≤ ec_tw 12 ∧ ec_tw 12 < 1580) ∧ 0 ≤ ec_tw 12 ∧ ec_tw 12 < 1580) ∧ r = (ec_R (ec_rd w 152 (ec_tw 12)), ec_wr w 152 (ec_tw 12) x1) ∧ ec_W hb_A (ec_wr w 152 (ec_tw 12) x1) := by
  have h2 := hb_ecw ((4, 1, 1, 1, 0) :: (0, 1, 0, 0, 0) :: (5, 1, 151, 216, 0) :: (0, 2, 0, 0, 12) :: (5, 2, 152, 0, 1580) :: (0, 3, 2, 0, 0) :: (0, 1, 0, 0, 0) :: (5, 1, 151, 216, 0) :: (0, 2, 0, 0, 12) :: (0, 0, 1, 0, 0) :: (5, 3, 152, 0, 1580) :: (0, 0, 2, 0, 0) :: (6, 3, 0, 0, 0) :: []) (by decide +kernel) h
  exact h2
theorem eg230_151_7_1 {n : Nat} {w : px_W} {r : Option Value × px_W} {x1 s0 : Int} (h : ec_E hb_X n 230 7 [(0, .inr (.inl 215)), (1, .inl x1)] [.inl s0] w r) : ec_tw s0 = ec_tw 0 → True ∧ r = (ec_R (-1), w) ∧ ec_W hb_A w := by
  have h2 := hb_ecw ((4, 1, 0, 0, 0) :: (0, 2, 0, 0, (-1)) :: (6, 3, 0, 0, 0) :: []) (by decide +kernel) h
  exact h2
/-! X7_addLight -/
theorem eg90_29_0_0 {n : Nat} {w : px_W} {r : Option Value × px_W} {x1 x2 x3 : Int} (h : ec_E hb_X n 90 0 [(0, .inr (.inl 93)), (1, .inl x1), (2, .inl x2), (3, .inl x3)] [] w r) : (True ∧ 0 ≤ ec_tw (ec_fd w 29 9) ∧ ec_tw (ec_fd w 29 9) < 8) ∧ ec_E hb_X n 90 10 [(0, .inr (.inl 93)), (1, .inl x1), (2, .inl x2), (3, .inl x3)] [] (ec_wr w 36 (ec_tw (ec_fd w 29 9)) x1) r := by
  have h2 := hb_ecw ((0, 1, 0, 0, 0) :: (5, 1, 29, 100, 0) :: (0, 1, 0, 0, 0) :: (5, 0, 29, 9, 0) :: (0, 0, 1, 0, 0) :: (5, 3, 36, 0, 8) :: (6, 0, 10, 4, 0) :: []) (by decide +kernel) h
  exact h2
theorem eg90_29_10_0 {n : Nat} {w : px_W} {r : Option Value × px_W} {x1 x2 x3 : Int} (h : ec_E hb_X n 90 10 [(0, .inr (.inl 93)), (1, .inl x1), (2, .inl x2), (3, .inl x3)] [] w r) : (True ∧ 0 ≤ ec_tw (ec_fd w 29 9) ∧ ec_tw (ec_fd w 29 9) < 8) ∧ ec_E hb_X n 90 20 [(0, .inr (.inl 93)), (1, .inl x1), (2, .inl x2), (3, .inl x3)] [] (ec_wr w 37 (ec_tw (ec_fd w 29 9)) x2) r := by
  have h2 := hb_ecw ((0, 1, 0, 0, 0) :: (5, 1, 29, 101, 0) :: (0, 1, 0, 0, 0) :: (5, 0, 29, 9, 0) :: (0, 0, 2, 0, 0) :: (5, 3, 37, 0, 8) :: (6, 0, 20, 4, 0) :: []) (by decide +kernel) h
  exact h2
theorem eg90_29_20_0 {n : Nat} {w : px_W} {r : Option Value × px_W} {x1 x2 x3 : Int} (h : ec_E hb_X n 90 20 [(0, .inr (.inl 93)), (1, .inl x1), (2, .inl x2), (3, .inl x3)] [] w r) : (True ∧ 0 ≤ ec_tw (ec_fd w 29 9) ∧ ec_tw (ec_fd w 29 9) < 8) ∧ ec_E hb_X n 90 30 [(0, .inr (.inl 93)), (1, .inl x1), (2, .inl x2), (3, .inl x3)] [] (ec_wr w 38 (ec_tw (ec_fd w 29 9)) x3) r := by
  have h2 := hb_ecw ((0, 1, 0, 0, 0) :: (5, 1, 29, 102, 0) :: (0, 1, 0, 0, 0) :: (5, 0, 29, 9, 0) :: (0, 0, 3, 0, 0) :: (5, 3, 38, 0, 8) :: (6, 0, 30, 4, 0) :: []) (by decide +kernel) h
  exact h2
theorem eg90_29_30_0 {n : Nat} {w : px_W} {r : Option Value × px_W} {x1 x2 x3 : Int} (h : ec_E hb_X n 90 30 [(0, .inr (.inl 93)), (1, .inl x1), (2, .inl x2), (3, .inl x3)] [] w r) : True ∧ r = (ec_R (ec_fd w 29 9), ec_pf w 29 9 ((ec_fd w 29 9) + 1)) ∧ ec_W hb_A (ec_pf w 29 9 ((ec_fd w 29 9) + 1)) := by
  have h2 := hb_ecw ((0, 1, 0, 0, 0) :: (3, 0, 0, 0, 0) :: (5, 0, 29, 9, 0) :: (3, 2, 0, 0, 0) :: (0, 2, 0, 0, 1) :: (1, 0, 0, 0, 0) :: (5, 4, 29, 9, 0) :: (6, 3, 0, 0, 0) :: []) (by decide +kernel) h
  exact h2
/-! X11_light -/
theorem eg146_0_0_0 {n : Nat} {w : px_W} {r : Option Value × px_W} {x1 x2 x3 : Int} (h : ec_E hb_X n 146 0 [(0, .inr (.inl 64)), (1, .inl x1), (2, .inl x2), (3, .inl x3)] [] w r) : True ∧ ∃ (v : Option Value) (w1 : px_W), ec_E hb_X n 174 0 [(0, .inl x1)] [] w (v, w1) ∧ ∀ zz : Int, v = ec_R zz → ec_W hb_A w1 → ec_E hb_X n 146 4 [(0, .inr (.inl 64)), (1, .inl x1), (2, .inl x2), (3, .inl x3)] [.inl zz] w1 r := by
  have h2 := hb_ecw ((0, 0, 1, 0, 0) :: (6, 1, 174, 1, 4) :: []) (by decide +kernel) h
  exact h2
theorem eg146_0_4_0 {n : Nat} {w : px_W} {r : Option Value × px_W} {x1 x2 x3 s0 : Int} (h : ec_E hb_X n 146 4 [(0, .inr (.inl 64)), (1, .inl x1), (2, .inl x2), (3, .inl x3)] [.inl s0] w r) : ec_tw s0 = ec_tw 0 → True ∧ r = (ec_R (-1), w) ∧ ec_W hb_A w := by
  have h2 := hb_ecw ((4, 1, 0, 1, 0) :: (0, 2, 0, 0, (-1)) :: (6, 3, 0, 0, 0) :: []) (by decide +kernel) h
  exact h2
theorem eg146_0_4_1 {n : Nat} {w : px_W} {r : Option Value × px_W} {x1 x2 x3 s0 : Int} (h : ec_E hb_X n 146 4 [(0, .inr (.inl 64)), (1, .inl x1), (2, .inl x2), (3, .inl x3)] [.inl s0] w r) : ec_tw s0 ≠ ec_tw 0 → True ∧ ∃ (v : Option Value) (w1 : px_W), ec_E hb_X n 173 0 [(0, .inl x2), (1, .inl 0), (2, .inl 200)] [] w (v, w1) ∧ ∀ zz : Int, v = ec_R zz → ec_W hb_A w1 → ec_E hb_X n 146 15 [(0, .inr (.inl 64)), (1, .inl x1), (2, .inl x2), (3, .inl x3)] [.inl zz] w1 r := by
  have h2 := hb_ecw ((4, 1, 1, 0, 0) :: (0, 0, 2, 0, 0) :: (0, 2, 0, 0, 0) :: (0, 2, 0, 0, 200) :: (6, 1, 173, 3, 15) :: []) (by decide +kernel) h
  exact h2
theorem eg146_0_15_0 {n : Nat} {w : px_W} {r : Option Value × px_W} {x1 x2 x3 s0 : Int} (h : ec_E hb_X n 146 15 [(0, .inr (.inl 64)), (1, .inl x1), (2, .inl x2), (3, .inl x3)] [.inl s0] w r) : ec_tw s0 = ec_tw 0 → True ∧ r = (ec_R (-1), w) ∧ ec_W hb_A w := by
  have h2 := hb_ecw ((4, 1, 0, 1, 0) :: (0, 2, 0, 0, (-1)) :: (6, 3, 0, 0, 0) :: []) (by decide +kernel) h
  exact h2
theorem eg146_0_15_1 {n : Nat} {w : px_W} {r : Option Value × px_W} {x1 x2 x3 s0 : Int} (h : ec_E hb_X n 146 15 [(0, .inr (.inl 64)), (1, .inl x1), (2, .inl x2), (3, .inl x3)] [.inl s0] w r) : ec_tw s0 ≠ ec_tw 0 → True ∧ ∃ (v : Option Value) (w1 : px_W), ec_E hb_X n 173 0 [(0, .inl x3), (1, .inl x2), (2, .inl 200)] [] w (v, w1) ∧ ∀ zz : Int, v = ec_R zz → ec_W hb_A w1 → ec_E hb_X n 146 26 [(0, .inr (.inl 64)), (1, .inl x1), (2, .inl x2), (3, .inl x3)] [.inl zz] w1 r := by
  have h2 := hb_ecw ((4, 1, 1, 0, 0) :: (0, 0, 3, 0, 0) :: (0, 0, 2, 0, 0) :: (0, 2, 0, 0, 200) :: (6, 1, 173, 3, 26) :: []) (by decide +kernel) h
  exact h2
theorem eg146_0_26_0 {n : Nat} {w : px_W} {r : Option Value × px_W} {x1 x2 x3 s0 : Int} (h : ec_E hb_X n 146 26 [(0, .inr (.inl 64)), (1, .inl x1), (2, .inl x2), (3, .inl x3)] [.inl s0] w r) : ec_tw s0 ≠ ec_tw 0 → ec_tw (ec_fd w 29 9) < ec_tw 8 → True ∧ ∃ (v : Option Value) (w1 : px_W), ec_E hb_X n 90 0 [(0, .inr (.inl 93)), (1, .inl x1), (2, .inl x2), (3, .inl x3)] [] w (v, w1) ∧ ∀ zz : Int, v = ec_R zz → ec_W hb_A w1 → ec_E hb_X n 146 58 [(0, .inr (.inl 64)), (1, .inl x1), (2, .inl x2), (3, .inl x3)] [.inl zz] w1 r := by
  have h2 := hb_ecw ((4, 1, 1, 1, 0) :: (0, 1, 0, 0, 0) :: (5, 1, 0, 93, 0) :: (5, 0, 29, 9, 0) :: (0, 2, 0, 0, 8) :: (4, 2, 2, 1, 0) :: (0, 1, 0, 0, 0) :: (5, 1, 0, 93, 0) :: (0, 0, 1, 0, 0) :: (0, 0, 2, 0, 0) :: (0, 0, 3, 0, 0) :: (6, 1, 90, 4, 58) :: []) (by decide +kernel) h
  exact h2
theorem eg146_0_26_1 {n : Nat} {w : px_W} {r : Option Value × px_W} {x1 x2 x3 s0 : Int} (h : ec_E hb_X n 146 26 [(0, .inr (.inl 64)), (1, .inl x1), (2, .inl x2), (3, .inl x3)] [.inl s0] w r) : ec_tw s0 ≠ ec_tw 0 → ec_tw 8 ≤ ec_tw (ec_fd w 29 9) → True ∧ r = (ec_R (-2), w) ∧ ec_W hb_A w := by
  have h2 := hb_ecw ((4, 1, 1, 1, 0) :: (0, 1, 0, 0, 0) :: (5, 1, 0, 93, 0) :: (5, 0, 29, 9, 0) :: (0, 2, 0, 0, 8) :: (4, 2, 3, 0, 0) :: (0, 2, 0, 0, (-2)) :: (4, 0, 0, 0, 0) :: (6, 3, 0, 0, 0) :: []) (by decide +kernel) h
  exact h2
theorem eg146_0_26_2 {n : Nat} {w : px_W} {r : Option Value × px_W} {x1 x2 x3 s0 : Int} (h : ec_E hb_X n 146 26 [(0, .inr (.inl 64)), (1, .inl x1), (2, .inl x2), (3, .inl x3)] [.inl s0] w r) : ec_tw s0 = ec_tw 0 → True ∧ r = (ec_R (-1), w) ∧ ec_W hb_A w := by
  have h2 := hb_ecw ((4, 1, 0, 0, 0) :: (0, 2, 0, 0, (-1)) :: (6, 3, 0, 0, 0) :: []) (by decide +kernel) h
  exact h2
theorem eg146_0_58_0 {n : Nat} {w : px_W} {r : Option Value × px_W} {x1 x2 x3 s0 : Int} (h : ec_E hb_X n 146 58 [(0, .inr (.inl 64)), (1, .inl x1), (2, .inl x2), (3, .inl x3)] [.inl s0] w r) : True ∧ r = (ec_R s0, w) ∧ ec_W hb_A w := by
  have h2 := hb_ecw ((6, 3, 0, 0, 0) :: []) (by decide +kernel) h
  exact h2
/-! X12_light -/
theorem eg236_151_0_0 {n : Nat} {w : px_W} {r : Option Value × px_W} {x1 x2 x3 : Int} (h : ec_E hb_X n 236 0 [(0, .inr (.inl 215)), (1, .inl x1), (2, .inl x2), (3, .inl x3)] [] w r) : True ∧ ∃ (v : Option Value) (w1 : px_W), ec_E hb_X n 183 0 [(0, .inl x1)] [] w (v, w1) ∧ ∀ zz : Int, v = ec_R zz → ec_W hb_A w1 → ec_E hb_X n 236 4 [(0, .inr (.inl 215)), (1, .inl x1), (2, .inl x2), (3, .inl x3)] [.inl zz] w1 r := by
  have h2 := hb_ecw ((0, 0, 1, 0, 0) :: (6, 1, 183, 1, 4) :: []) (by decide +kernel) h
  exact h2
theorem eg236_151_4_0 {n : Nat} {w : px_W} {r : Option Value × px_W} {x1 x2 x3 s0 : Int} (h : ec_E hb_X n 236 4 [(0, .inr (.inl 215)), (1, .inl x1), (2, .inl x2), (3, .inl x3)] [.inl s0] w r) : ec_tw s0 = ec_tw 0 → True ∧ r = (ec_R (-1), w) ∧ ec_W hb_A w := by
  have h2 := hb_ecw ((4, 1, 0, 1, 0) :: (0, 2, 0, 0, (-1)) :: (6, 3, 0, 0, 0) :: []) (by decide +kernel) h
  exact h2
theorem eg236_151_4_1 {n : Nat} {w : px_W} {r : Option Value × px_W} {x1 x2 x3 s0 : Int} (h : ec_E hb_X n 236 4 [(0, .inr (.inl 215)), (1, .inl x1), (2, .inl x2), (3, .inl x3)] [.inl s0] w r) : ec_tw s0 ≠ ec_tw 0 → True ∧ ∃ (v : Option Value) (w1 : px_W), ec_E hb_X n 182 0 [(0, .inl x2), (1, .inl 0), (2, .inl 200)] [] w (v, w1) ∧ ∀ zz : Int, v = ec_R zz → ec_W hb_A w1 → ec_E hb_X n 236 15 [(0, .inr (.inl 215)), (1, .inl x1), (2, .inl x2), (3, .inl x3)] [.inl zz] w1 r := by
  have h2 := hb_ecw ((4, 1, 1, 0, 0) :: (0, 0, 2, 0, 0) :: (0, 2, 0, 0, 0) :: (0, 2, 0, 0, 200) :: (6, 1, 182, 3, 15) :: []) (by decide +kernel) h
  exact h2
theorem eg236_151_15_0 {n : Nat} {w : px_W} {r : Option Value × px_W} {x1 x2 x3 s0 : Int} (h : ec_E hb_X n 236 15 [(0, .inr (.inl 215)), (1, .inl x1), (2, .inl x2), (3, .inl x3)] [.inl s0] w r) : ec_tw s0 = ec_tw 0 → True ∧ r = (ec_R (-1), w) ∧ ec_W hb_A w := by
  have h2 := hb_ecw ((4, 1, 0, 1, 0) :: (0, 2, 0, 0, (-1)) :: (6, 3, 0, 0, 0) :: []) (by decide +kernel) h
  exact h2
theorem eg236_151_15_1 {n : Nat} {w : px_W} {r : Option Value × px_W} {x1 x2 x3 s0 : Int} (h : ec_E hb_X n 236 15 [(0, .inr (.inl 215)), (1, .inl x1), (2, .inl x2), (3, .inl x3)] [.inl s0] w r) : ec_tw s0 ≠ ec_tw 0 → True ∧ ∃ (v : Option Value) (w1 : px_W), ec_E hb_X n 182 0 [(0, .inl x3), (1, .inl x2), (2, .inl 200)] [] w (v, w1) ∧ ∀ zz : Int, v = ec_R zz → ec_W hb_A w1 → ec_E hb_X n 236 26 [(0, .inr (.inl 215)), (1, .inl x1), (2, .inl x2), (3, .inl x3)] [.inl zz] w1 r := by
  have h2 := hb_ecw ((4, 1, 1, 0, 0) :: (0, 0, 3, 0, 0) :: (0, 0, 2, 0, 0) :: (0, 2, 0, 0, 200) :: (6, 1, 182, 3, 26) :: []) (by decide +kernel) h
  exact h2
theorem eg236_151_26_0 {n : Nat} {w : px_W} {r : Option Value × px_W} {x1 x2 x3 s0 : Int} (h : ec_E hb_X n 236 26 [(0, .inr (.inl 215)), (1, .inl x1), (2, .inl x2), (3, .inl x3)] [.inl s0] w r) : ec_tw s0 ≠ ec_tw 0 → ec_tw (ec_rd w 152 (ec_tw 8)) ≠ ec_tw 8 → ((True ∧ 0 ≤ ec_tw 8 ∧ ec_tw 8 < 1580) ∧ 0 ≤ ec_tw 8 ∧ ec_tw 8 < 1580) ∧ ec_E hb_X n 236 61 [(0, .inr (.inl 215)), (1, .inl x1), (2, .inl x2), (3, .inl x3), (4, .inl (294 + (3 * (ec_rd w 152 (ec_tw 8)))))] [] w r := by
  have h2 := hb_ecw ((4, 1, 1, 1, 0) :: (0, 1, 0, 0, 0) :: (5, 1, 151, 216, 0) :: (0, 2, 0, 0, 8) :: (5, 2, 152, 0, 1580) :: (0, 2, 0, 0, 8) :: (4, 2, 1, 1, 0) :: (0, 2, 0, 0, 294) :: (0, 2, 0, 0, 3) :: (0, 1, 0, 0, 0) :: (5, 1, 151, 216, 0) :: (0, 2, 0, 0, 8) :: (5, 2, 152, 0, 1580) :: (1, 2, 0, 0, 0) :: (1, 0, 0, 0, 0) :: (0, 3, 4, 0, 0) :: (6, 0, 61, 5, 0) :: []) (by decide +kernel) h
  exact h2
theorem eg236_151_26_1 {n : Nat} {w : px_W} {r : Option Value × px_W} {x1 x2 x3 s0 : Int} (h : ec_E hb_X n 236 26 [(0, .inr (.inl 215)), (1, .inl x1), (2, .inl x2), (3, .inl x3)] [.inl s0] w r) : ec_tw s0 ≠ ec_tw 0 → ec_tw (ec_rd w 152 (ec_tw 8)) = ec_tw 8 → (True ∧ 0 ≤ ec_tw 8 ∧ ec_tw 8 < 1580) ∧ r = (ec_R (-2), w) ∧ ec_W hb_A w := by
  have h2 := hb_ecw ((4, 1, 1, 1, 0) :: (0, 1, 0, 0, 0) :: (5, 1, 151, 216, 0) :: (0, 2, 0, 0, 8) :: (5, 2, 152, 0, 1580) :: (0, 2, 0, 0, 8) :: (4, 2, 0, 0, 0) :: (0, 2, 0, 0, (-2)) :: (6, 3, 0, 0, 0) :: []) (by decide +kernel) h
  exact h2
theorem eg236_151_26_2 {n : Nat} {w : px_W} {r : Option Value × px_W} {x1 x2 x3 s0 : Int} (h : ec_E hb_X n 236 26 [(0, .inr (.inl 215)), (1, .inl x1), (2, .inl x2), (3, .inl x3)] [.inl s0] w r) : ec_tw s0 = ec_tw 0 → True ∧ r = (ec_R (-1), w) ∧ ec_W hb_A w := by
  have h2 := hb_ecw ((4, 1, 0, 0, 0) :: (0, 2, 0, 0, (-1)) :: (6, 3, 0, 0, 0) :: []) (by decide +kernel) h
  exact h2
theorem eg236_151_61_0 {n : Nat} {w : px_W} {r : Option Value × px_W} {x1 x2 x3 x4 : Int} (h : ec_E hb_X n 236 61 [(0, .inr (.inl 215)), (1, .inl x1), (2, .inl x2), (3, .inl x3), (4, .inl x4)] [] w r) : (True ∧ 0 ≤ ec_tw x4 ∧ ec_tw x4 < 1580) ∧ ec_E hb_X n 236 69 [(0, .inr (.inl 215)), (1, .inl x1), (2, .inl x2), (3, .inl x3), (4, .inl x4)] [] (ec_wr w 152 (ec_tw x4) x1) r := by
  have h2 := hb_ecw ((0, 1, 0, 0, 0) :: (5, 1, 151, 216, 0) :: (0, 0, 4, 0, 0) :: (0, 0, 1, 0, 0) :: (5, 3, 152, 0, 1580) :: (6, 0, 69, 5, 0) :: []) (by decide +kernel) h
  exact h2
theorem eg236_151_69_0 {n : Nat} {w : px_W} {r : Option Value × px_W} {x1 x2 x3 x4 : Int} (h : ec_E hb_X n 236 69 [(0, .inr (.inl 215)), (1, .inl x1), (2, .inl x2), (3, .inl x3), (4, .inl x4)] [] w r) : (True ∧ 0 ≤ ec_tw (x4 + 1) ∧ ec_tw (x4 + 1) < 1580) ∧ ec_E hb_X n 236 79 [(0, .inr (.inl 215)), (1, .inl x1), (2, .inl x2), (3, .inl x3), (4, .inl x4)] [] (ec_wr w 152 (ec_tw (x4 + 1)) x2) r := by
  have h2 := hb_ecw ((0, 1, 0, 0, 0) :: (5, 1, 151, 216, 0) :: (0, 0, 4, 0, 0) :: (0, 2, 0, 0, 1) :: (1, 0, 0, 0, 0) :: (0, 0, 2, 0, 0) :: (5, 3, 152, 0, 1580) :: (6, 0, 79, 5, 0) :: []) (by decide +kernel) h
  exact h2
theorem eg236_151_79_0 {n : Nat} {w : px_W} {r : Option Value × px_W} {x1 x2 x3 x4 : Int} (h : ec_E hb_X n 236 79 [(0, .inr (.inl 215)), (1, .inl x1), (2, .inl x2), (3, .inl x3), (4, .inl x4)] [] w r) : (True ∧ 0 ≤ ec_tw (x4 + 2) ∧ ec_tw (x4 + 2) < 1580) ∧ ec_E hb_X n 236 89 [(0, .inr (.inl 215)), (1, .inl x1), (2, .inl x2), (3, .inl x3), (4, .inl x4)] [] (ec_wr w 152 (ec_tw (x4 + 2)) x3) r := by
  have h2 := hb_ecw ((0, 1, 0, 0, 0) :: (5, 1, 151, 216, 0) :: (0, 0, 4, 0, 0) :: (0, 2, 0, 0, 2) :: (1, 0, 0, 0, 0) :: (0, 0, 3, 0, 0) :: (5, 3, 152, 0, 1580) :: (6, 0, 89, 5, 0) :: []) (by decide +kernel) h
  exact h2
theorem eg236_151_89_0 {n : Nat} {w : px_W} {r : Option Value × px_W} {x1 x2 x3 x4 : Int} (h : ec_E hb_X n 236 89 [(0, .inr (.inl 215)), (1, .inl x1), (2, .inl x2), (3, .inl x3), (4, .inl x4)] [] w r) : ((True ∧ 0 ≤ ec_tw 8 ∧ ec_tw 8 < 1580) ∧ 0 ≤ ec_tw 8 ∧ ec_tw 8 < 1580) ∧ ec_E hb_X n 236 100 [(0, .inr (.inl 215)), (1, .inl x1), (2, .inl x2), (3, .inl x3), (4, .inl x4)] [] (ec_wr w 152 (ec_tw 8) ((ec_rd w 152 (ec_tw 8)) + 1)) r := by
  have h2 := hb_ecw ((0, 1, 0, 0, 0) :: (5, 1, 151, 216, 0) :: (0, 2, 0, 0, 8) :: (3, 3, 0, 0, 0) :: (5, 2, 152, 0, 1580) :: (0, 2, 0, 0, 1) :: (1, 0, 0, 0, 0) :: (5, 3, 152, 0, 1580) :: (6, 0, 100, 5, 0) :: []) (by decide +kernel) h
  exact h2
theorem eg236_151_100_0 {n : Nat} {w : px_W} {r : Option Value × px_W} {x1 x2 x3 x4 : Int} (h : ec_E hb_X n 236 100 [(0, .inr (.inl 215)), (1, .inl x1), (2, .inl x2), (3, .inl x3), (4, .inl x4)] [] w r) : (True ∧ 0 ≤ ec_tw 8 ∧ ec_tw 8 < 1580) ∧ r = (ec_R ((ec_rd w 152 (ec_tw 8)) - 1), w) ∧ ec_W hb_A w := by
  have h2 := hb_ecw ((0, 1, 0, 0, 0) :: (5, 1, 151, 216, 0) :: (0, 2, 0, 0, 8) :: (5, 2, 152, 0, 1580) :: (0, 2, 0, 0, 1) :: (1, 1, 0, 0, 0) :: (6, 3, 0, 0, 0) :: []) (by decide +kernel) h
  exact h2

end

noncomputable section
/-! X7_addShip -/
theorem eg88_29_0_0 {n : Nat} {w : px_W} {r : Option Value × px_W} {x1 x2 x3 x4 : Int} (h : ec_E hb_X n 88 0 [(0, .inr (.inl 93)), (1, .inl x1), (2, .inl x2), (3, .inl x3), (4, .inl x4)] [] w r) : (((True ∧ ec_tw 100 ≠ 0) ∧ ec_tw 100 ≠ 0) ∧ 0 ≤ ec_tw (ec_fd w 29 1) ∧ ec_tw (ec_fd w 29 1) < 6) ∧ ec_E hb_X n 88 30 [(0, .inr (.inl 93)), (1, .inl x1), (2, .inl x2), (3, .inl x3), (4, .inl x4)] [] (ec_wr w 30 (ec_tw (ec_fd w 29 1)) ((ec_ab ((ec_dv x1 100) - 50)) + (ec_ab ((ec_rm x1 100) - 50)))) r := by
  have h2 := hb_ecw ((0, 1, 0, 0, 0) :: (5, 1, 29, 94, 0) :: (0, 1, 0, 0, 0) :: (5, 0, 29, 1, 0) :: (0, 0, 1, 0, 0) :: (0, 2, 0, 0, 100) :: (2, 0, 0, 0, 0) :: (0, 2, 0, 0, 50) :: (1, 1, 0, 0, 0) :: (3, 7, 0, 0, 0) :: (0, 0, 1, 0, 0) :: (0, 2, 0, 0, 100) :: (2, 1, 0, 0, 0) :: (0, 2, 0, 0, 50) :: (1, 1, 0, 0, 0) :: (3, 7, 0, 0, 0) :: (1, 0, 0, 0, 0) :: (5, 3, 30, 0, 6) :: (6, 0, 30, 5, 0) :: []) (by decide +kernel) h
  exact h2
theorem eg88_29_30_0 {n : Nat} {w : px_W} {r : Option Value × px_W} {x1 x2 x3 x4 : Int} (h : ec_E hb_X n 88 30 [(0, .inr (.inl 93)), (1, .inl x1), (2, .inl x2), (3, .inl x3), (4, .inl x4)] [] w r) : (True ∧ 0 ≤ ec_tw (ec_fd w 29 1) ∧ ec_tw (ec_fd w 29 1) < 6) ∧ ec_E hb_X n 88 40 [(0, .inr (.inl 93)), (1, .inl x1), (2, .inl x2), (3, .inl x3), (4, .inl x4)] [] (ec_wr w 31 (ec_tw (ec_fd w 29 1)) x2) r := by
  have h2 := hb_ecw ((0, 1, 0, 0, 0) :: (5, 1, 29, 95, 0) :: (0, 1, 0, 0, 0) :: (5, 0, 29, 1, 0) :: (0, 0, 2, 0, 0) :: (5, 3, 31, 0, 6) :: (6, 0, 40, 5, 0) :: []) (by decide +kernel) h
  exact h2
theorem eg88_29_40_0 {n : Nat} {w : px_W} {r : Option Value × px_W} {x1 x2 x3 x4 : Int} (h : ec_E hb_X n 88 40 [(0, .inr (.inl 93)), (1, .inl x1), (2, .inl x2), (3, .inl x3), (4, .inl x4)] [] w r) : ((True ∧ ec_tw 1000 ≠ 0) ∧ 0 ≤ ec_tw (ec_fd w 29 1) ∧ ec_tw (ec_fd w 29 1) < 6) ∧ ec_E hb_X n 88 54 [(0, .inr (.inl 93)), (1, .inl x1), (2, .inl x2), (3, .inl x3), (4, .inl x4)] [] (ec_wr w 32 (ec_tw (ec_fd w 29 1)) (ec_dv x3 1000)) r := by
  have h2 := hb_ecw ((0, 1, 0, 0, 0) :: (5, 1, 29, 96, 0) :: (0, 1, 0, 0, 0) :: (5, 0, 29, 1, 0) :: (0, 0, 3, 0, 0) :: (0, 2, 0, 0, 1000) :: (2, 0, 0, 0, 0) :: (5, 3, 32, 0, 6) :: (6, 0, 54, 5, 0) :: []) (by decide +kernel) h
  exact h2
theorem eg88_29_54_0 {n : Nat} {w : px_W} {r : Option Value × px_W} {x1 x2 x3 x4 : Int} (h : ec_E hb_X n 88 54 [(0, .inr (.inl 93)), (1, .inl x1), (2, .inl x2), (3, .inl x3), (4, .inl x4)] [] w r) : ((True ∧ ec_tw 1000 ≠ 0) ∧ 0 ≤ ec_tw (ec_fd w 29 1) ∧ ec_tw (ec_fd w 29 1) < 6) ∧ ec_E hb_X n 88 68 [(0, .inr (.inl 93)), (1, .inl x1), (2, .inl x2), (3, .inl x3), (4, .inl x4)] [] (ec_wr w 33 (ec_tw (ec_fd w 29 1)) (ec_rm x3 1000)) r := by
  have h2 := hb_ecw ((0, 1, 0, 0, 0) :: (5, 1, 29, 97, 0) :: (0, 1, 0, 0, 0) :: (5, 0, 29, 1, 0) :: (0, 0, 3, 0, 0) :: (0, 2, 0, 0, 1000) :: (2, 1, 0, 0, 0) :: (5, 3, 33, 0, 6) :: (6, 0, 68, 5, 0) :: []) (by decide +kernel) h
  exact h2
theorem eg88_29_68_0 {n : Nat} {w : px_W} {r : Option Value × px_W} {x1 x2 x3 x4 : Int} (h : ec_E hb_X n 88 68 [(0, .inr (.inl 93)), (1, .inl x1), (2, .inl x2), (3, .inl x3), (4, .inl x4)] [] w r) : (True ∧ 0 ≤ ec_tw (ec_fd w 29 1) ∧ ec_tw (ec_fd w 29 1) < 6) ∧ ec_E hb_X n 88 79 [(0, .inr (.inl 93)), (1, .inl x1), (2, .inl x2), (3, .inl x3), (4, .inl x4)] [] (ec_wr w 34 (ec_tw (ec_fd w 29 1)) x4) r := by
  have h2 := hb_ecw ((0, 1, 0, 0, 0) :: (5, 1, 29, 98, 0) :: (0, 1, 0, 0, 0) :: (5, 0, 29, 1, 0) :: (0, 0, 4, 0, 0) :: (5, 3, 34, 0, 6) :: (6, 0, 79, 5, 0) :: []) (by decide +kernel) h
  exact h2
theorem eg88_29_79_0 {n : Nat} {w : px_W} {r : Option Value × px_W} {x1 x2 x3 x4 : Int} (h : ec_E hb_X n 88 79 [(0, .inr (.inl 93)), (1, .inl x1), (2, .inl x2), (3, .inl x3), (4, .inl x4)] [] w r) : True ∧ r = (ec_R (ec_fd w 29 1), ec_pf w 29 1 ((ec_fd w 29 1) + 1)) ∧ ec_W hb_A (ec_pf w 29 1 ((ec_fd w 29 1) + 1)) := by
  have h2 := hb_ecw ((0, 1, 0, 0, 0) :: (3, 0, 0, 0, 0) :: (5, 0, 29, 1, 0) :: (3, 2, 0, 0, 0) :: (0, 2, 0, 0, 1) :: (1, 0, 0, 0, 0) :: (5, 4, 29, 1, 0) :: (6, 3, 0, 0, 0) :: []) (by decide +kernel) h
  exact h2
/-! X11_ship -/
theorem eg141_0_0_0 {n : Nat} {w : px_W} {r : Option Value × px_W} {x1 x2 x3 x4 : Int} (h : ec_E hb_X n 141 0 [(0, .inr (.inl 64)), (1, .inl x1), (2, .inl x2), (3, .inl x3), (4, .inl x4)] [] w r) : True ∧ ∃ (v : Option Value) (w1 : px_W), ec_E hb_X n 173 0 [(0, .inl x1), (1, .inl 0), (2, .inl 9999)] [] w (v, w1) ∧ ∀ zz : Int, v = ec_R zz → ec_W hb_A w1 → ec_E hb_X n 141 8 [(0, .inr (.inl 64)), (1, .inl x1), (2, .inl x2), (3, .inl x3), (4, .inl x4)] [.inl zz] w1 r := by
  have h2 := hb_ecw ((0, 0, 1, 0, 0) :: (0, 2, 0, 0, 0) :: (0, 2, 0, 0, 9999) :: (6, 1, 173, 3, 8) :: []) (by decide +kernel) h
  exact h2
theorem eg141_0_8_0 {n : Nat} {w : px_W} {r : Option Value × px_W} {x1 x2 x3 x4 s0 : Int} (h : ec_E hb_X n 141 8 [(0, .inr (.inl 64)), (1, .inl x1), (2, .inl x2), (3, .inl x3), (4, .inl x4)] [.inl s0] w r) : ec_tw s0 = ec_tw 0 → True ∧ r = (ec_R (-1), w) ∧ ec_W hb_A w := by
  have h2 := hb_ecw ((4, 1, 0, 1, 0) :: (0, 2, 0, 0, (-1)) :: (6, 3, 0, 0, 0) :: []) (by decide +kernel) h
  exact h2
theorem eg141_0_8_1 {n : Nat} {w : px_W} {r : Option Value × px_W} {x1 x2 x3 x4 s0 : Int} (h : ec_E hb_X n 141 8 [(0, .inr (.inl 64)), (1, .inl x1), (2, .inl x2), (3, .inl x3), (4, .inl x4)] [.inl s0] w r) : ec_tw s0 ≠ ec_tw 0 → True ∧ ∃ (v : Option Value) (w1 : px_W), ec_E hb_X n 173 0 [(0, .inl x2), (1, .inl 1), (2, .inl 40)] [] w (v, w1) ∧ ∀ zz : Int, v = ec_R zz → ec_W hb_A w1 → ec_E hb_X n 141 18 [(0, .inr (.inl 64)), (1, .inl x1), (2, .inl x2), (3, .inl x3), (4, .inl x4)] [.inl zz] w1 r := by
  have h2 := hb_ecw ((4, 1, 1, 0, 0) :: (0, 0, 2, 0, 0) :: (0, 2, 0, 0, 1) :: (0, 2, 0, 0, 40) :: (6, 1, 173, 3, 18) :: []) (by decide +kernel) h
  exact h2
theorem eg141_0_18_0 {n : Nat} {w : px_W} {r : Option Value × px_W} {x1 x2 x3 x4 s0 : Int} (h : ec_E hb_X n 141 18 [(0, .inr (.inl 64)), (1, .inl x1), (2, .inl x2), (3, .inl x3), (4, .inl x4)] [.inl s0] w r) : ec_tw s0 = ec_tw 0 → True ∧ r = (ec_R (-1), w) ∧ ec_W hb_A w := by
  have h2 := hb_ecw ((4, 1, 0, 1, 0) :: (0, 2, 0, 0, (-1)) :: (6, 3, 0, 0, 0) :: []) (by decide +kernel) h
  exact h2
theorem eg141_0_18_1 {n : Nat} {w : px_W} {r : Option Value × px_W} {x1 x2 x3 x4 s0 : Int} (h : ec_E hb_X n 141 18 [(0, .inr (.inl 64)), (1, .inl x1), (2, .inl x2), (3, .inl x3), (4, .inl x4)] [.inl s0] w r) : ec_tw s0 ≠ ec_tw 0 → True ∧ ∃ (v : Option Value) (w1 : px_W), ec_E hb_X n 173 0 [(0, .inl x3), (1, .inl 0), (2, .inl 999999)] [] w (v, w1) ∧ ∀ zz : Int, v = ec_R zz → ec_W hb_A w1 → ec_E hb_X n 141 28 [(0, .inr (.inl 64)), (1, .inl x1), (2, .inl x2), (3, .inl x3), (4, .inl x4)] [.inl zz] w1 r := by
  have h2 := hb_ecw ((4, 1, 1, 0, 0) :: (0, 0, 3, 0, 0) :: (0, 2, 0, 0, 0) :: (0, 2, 0, 0, 999999) :: (6, 1, 173, 3, 28) :: []) (by decide +kernel) h
  exact h2
theorem eg141_0_28_0 {n : Nat} {w : px_W} {r : Option Value × px_W} {x1 x2 x3 x4 s0 : Int} (h : ec_E hb_X n 141 28 [(0, .inr (.inl 64)), (1, .inl x1), (2, .inl x2), (3, .inl x3), (4, .inl x4)] [.inl s0] w r) : ec_tw s0 = ec_tw 0 → True ∧ r = (ec_R (-1), w) ∧ ec_W hb_A w := by
  have h2 := hb_ecw ((4, 1, 0, 1, 0) :: (0, 2, 0, 0, (-1)) :: (6, 3, 0, 0, 0) :: []) (by decide +kernel) h
  exact h2
theorem eg141_0_28_1 {n : Nat} {w : px_W} {r : Option Value × px_W} {x1 x2 x3 x4 s0 : Int} (h : ec_E hb_X n 141 28 [(0, .inr (.inl 64)), (1, .inl x1), (2, .inl x2), (3, .inl x3), (4, .inl x4)] [.inl s0] w r) : ec_tw s0 ≠ ec_tw 0 → True ∧ ∃ (v : Option Value) (w1 : px_W), ec_E hb_X n 173 0 [(0, .inl x4), (1, .inl 0), (2, .inl 200)] [] w (v, w1) ∧ ∀ zz : Int, v = ec_R zz → ec_W hb_A w1 → ec_E hb_X n 141 40 [(0, .inr (.inl 64)), (1, .inl x1), (2, .inl x2), (3, .inl x3), (4, .inl x4)] [.inl zz] w1 r := by
  have h2 := hb_ecw ((4, 1, 1, 0, 0) :: (0, 0, 4, 0, 0) :: (0, 2, 0, 0, 0) :: (0, 2, 0, 0, 200) :: (6, 1, 173, 3, 40) :: []) (by decide +kernel) h
  exact h2
theorem eg141_0_40_0 {n : Nat} {w : px_W} {r : Option Value × px_W} {x1 x2 x3 x4 s0 : Int} (h : ec_E hb_X n 141 40 [(0, .inr (.inl 64)), (1, .inl x1), (2, .inl x2), (3, .inl x3), (4, .inl x4)] [.inl s0] w r) : ec_tw s0 ≠ ec_tw 0 → ec_tw (ec_dv x3 1000) ≤ ec_tw (ec_rm x3 1000) → ec_tw (ec_fd w 29 1) < ec_tw 6 → ((True ∧ ec_tw 1000 ≠ 0) ∧ ec_tw 1000 ≠ 0) ∧ ∃ (v : Option Value) (w1 : px_W), ec_E hb_X n 88 0 [(0, .inr (.inl 93)), (1, .inl x1), (2, .inl x2), (3, .inl x3), (4, .inl x4)] [] w (v, w1) ∧ ∀ zz : Int, v = ec_R zz → ec_W hb_A w1 → ec_E hb_X n 141 89 [(0, .inr (.inl 64)), (1, .inl x1), (2, .inl x2), (3, .inl x3), (4, .inl x4)] [.inl zz] w1 r := by
  have h2 := hb_ecw ((4, 1, 1, 1, 0) :: (0, 0, 3, 0, 0) :: (0, 2, 0, 0, 1000) :: (2, 1, 0, 0, 0) :: (0, 0, 3, 0, 0) :: (0, 2, 0, 0, 1000) :: (2, 0, 0, 0, 0) :: (4, 2, 3, 1, 0) :: (0, 1, 0, 0, 0) :: (5, 1, 0, 93, 0) :: (5, 0, 29, 1, 0) :: (0, 2, 0, 0, 6) :: (4, 2, 2, 1, 0) :: (0, 1, 0, 0, 0) :: (5, 1, 0, 93, 0) :: (0, 0, 1, 0, 0) :: (0, 0, 2, 0, 0) :: (0, 0, 3, 0, 0) :: (0, 0, 4, 0, 0) :: (6, 1, 88, 5, 89) :: []) (by decide +kernel) h
  exact h2
theorem eg141_0_40_1 {n : Nat} {w : px_W} {r : Option Value × px_W} {x1 x2 x3 x4 s0 : Int} (h : ec_E hb_X n 141 40 [(0, .inr (.inl 64)), (1, .inl x1), (2, .inl x2), (3, .inl x3), (4, .inl x4)] [.inl s0] w r) : ec_tw s0 ≠ ec_tw 0 → ec_tw (ec_dv x3 1000) ≤ ec_tw (ec_rm x3 1000) → ec_tw 6 ≤ ec_tw (ec_fd w 29 1) → ((True ∧ ec_tw 1000 ≠ 0) ∧ ec_tw 1000 ≠ 0) ∧ r = (ec_R (-2), w) ∧ ec_W hb_A w := by
  have h2 := hb_ecw ((4, 1, 1, 1, 0) :: (0, 0, 3, 0, 0) :: (0, 2, 0, 0, 1000) :: (2, 1, 0, 0, 0) :: (0, 0, 3, 0, 0) :: (0, 2, 0, 0, 1000) :: (2, 0, 0, 0, 0) :: (4, 2, 3, 1, 0) :: (0, 1, 0, 0, 0) :: (5, 1, 0, 93, 0) :: (5, 0, 29, 1, 0) :: (0, 2, 0, 0, 6) :: (4, 2, 3, 0, 0) :: (0, 2, 0, 0, (-2)) :: (4, 0, 0, 0, 0) :: (6, 3, 0, 0, 0) :: []) (by decide +kernel) h
  exact h2
theorem eg141_0_40_2 {n : Nat} {w : px_W} {r : Option Value × px_W} {x1 x2 x3 x4 s0 : Int} (h : ec_E hb_X n 141 40 [(0, .inr (.inl 64)), (1, .inl x1), (2, .inl x2), (3, .inl x3), (4, .inl x4)] [.inl s0] w r) : ec_tw s0 ≠ ec_tw 0 → ec_tw (ec_rm x3 1000) < ec_tw (ec_dv x3 1000) → ((True ∧ ec_tw 1000 ≠ 0) ∧ ec_tw 1000 ≠ 0) ∧ r = (ec_R (-1), w) ∧ ec_W hb_A w := by
  have h2 := hb_ecw ((4, 1, 1, 1, 0) :: (0, 0, 3, 0, 0) :: (0, 2, 0, 0, 1000) :: (2, 1, 0, 0, 0) :: (0, 0, 3, 0, 0) :: (0, 2, 0, 0, 1000) :: (2, 0, 0, 0, 0) :: (4, 2, 2, 0, 0) :: (0, 2, 0, 0, (-1)) :: (6, 3, 0, 0, 0) :: []) (by decide +kernel) h
  exact h2
theorem eg141_0_40_3 {n : Nat} {w : px_W} {r : Option Value × px_W} {x1 x2 x3 x4 s0 : Int} (h : ec_E hb_X n 141 40 [(0, .inr (.inl 64)), (1, .inl x1), (2, .inl x2), (3, .inl x3), (4, .inl x4)] [.inl s0] w r) : ec_tw s0 = ec_tw 0 → True ∧ r = (ec_R (-1), w) ∧ ec_W hb_A w := by
  have h2 := hb_ecw ((4, 1, 0, 0, 0) :: (0, 2, 0, 0, (-1)) :: (6, 3, 0, 0, 0) :: []) (by decide +kernel) h
  exact h2
theorem eg141_0_89_0 {n : Nat} {w : px_W} {r : Option Value × px_W} {x1 x2 x3 x4 s0 : Int} (h : ec_E hb_X n 141 89 [(0, .inr (.inl 64)), (1, .inl x1), (2, .inl x2), (3, .inl x3), (4, .inl x4)] [.inl s0] w r) : True ∧ r = (ec_R s0, w) ∧ ec_W hb_A w := by
  have h2 := hb_ecw ((6, 3, 0, 0, 0) :: []) (by decide +kernel) h
  exact h2
/-! X12_ship -/
theorem eg227_151_0_0 {n : Nat} {w : px_W} {r : Option Value × px_W} {x1 x2 x3 x4 : Int} (h : ec_E hb_X n 227 0 [(0, .inr (.inl 215)), (1, .inl x1), (2, .inl x2), (3, .inl x3), (4, .inl x4)] [] w r) : True ∧ ∃ (v : Option Value) (w1 : px_W), ec_E hb_X n 182 0 [(0, .inl x1), (1, .inl 0), (2, .inl 9999)] [] w (v, w1) ∧ ∀ zz : Int, v = ec_R zz → ec_W hb_A w1 → ec_E hb_X n 227 8 [(0, .inr (.inl 215)), (1, .inl x1), (2, .inl x2), (3, .inl x3), (4, .inl x4)] [.inl zz] w1 r := by
  have h2 := hb_ecw ((0, 0, 1, 0, 0) :: (0, 2, 0, 0, 0) :: (0, 2, 0, 0, 9999) :: (6, 1, 182, 3, 8) :: []) (by decide +kernel) h
  exact h2
theorem eg227_151_8_0 {n : Nat} {w : px_W} {r : Option Value × px_W} {x1 x2 x3 x4 s0 : Int} (h : ec_E hb_X n 227 8 [(0, .inr (.inl 215)), (1, .inl x1), (2, .inl x2), (3, .inl x3), (4, .inl x4)] [.inl s0] w r) : ec_tw s0 = ec_tw 0 → True ∧ r = (ec_R (-1), w) ∧ ec_W hb_A w := by
  have h2 := hb_ecw ((4, 1, 0, 1, 0) :: (0, 2, 0, 0, (-1)) :: (6, 3, 0, 0, 0) :: []) (by decide +kernel) h
  exact h2
theorem eg227_151_8_1 {n : Nat} {w : px_W} {r : Option Value × px_W} {x1 x2 x3 x4 s0 : Int} (h : ec_E hb_X n 227 8 [(0, .inr (.inl 215)), (1, .inl x1), (2, .inl x2), (3, .inl x3), (4, .inl x4)] [.inl s0] w r) : ec_tw s0 ≠ ec_tw 0 → True ∧ ∃ (v : Option Value) (w1 : px_W), ec_E hb_X n 182 0 [(0, .inl x2), (1, .inl 1), (2, .inl 40)] [] w (v, w1) ∧ ∀ zz : Int, v = ec_R zz → ec_W hb_A w1 → ec_E hb_X n 227 18 [(0, .inr (.inl 215)), (1, .inl x1), (2, .inl x2), (3, .inl x3), (4, .inl x4)] [.inl zz] w1 r := by
  have h2 := hb_ecw ((4, 1, 1, 0, 0) :: (0, 0, 2, 0, 0) :: (0, 2, 0, 0, 1) :: (0, 2, 0, 0, 40) :: (6, 1, 182, 3, 18) :: []) (by decide +kernel) h
  exact h2
theorem eg227_151_18_0 {n : Nat} {w : px_W} {r : Option Value × px_W} {x1 x2 x3 x4 s0 : Int} (h : ec_E hb_X n 227 18 [(0, .inr (.inl 215)), (1, .inl x1), (2, .inl x2), (3, .inl x3), (4, .inl x4)] [.inl s0] w r) : ec_tw s0 = ec_tw 0 → True ∧ r = (ec_R (-1), w) ∧ ec_W hb_A w := by
  have h2 := hb_ecw ((4, 1, 0, 1, 0) :: (0, 2, 0, 0, (-1)) :: (6, 3, 0, 0, 0) :: []) (by decide +kernel) h
  exact h2
theorem eg227_151_18_1 {n : Nat} {w : px_W} {r : Option Value × px_W} {x1 x2 x3 x4 s0 : Int} (h : ec_E hb_X n 227 18 [(0, .inr (.inl 215)), (1, .inl x1), (2, .inl x2), (3, .inl x3), (4, .inl x4)] [.inl s0] w r) : ec_tw s0 ≠ ec_tw 0 → True ∧ ∃ (v : Option Value) (w1 : px_W), ec_E hb_X n 182 0 [(0, .inl x3), (1, .inl 0), (2, .inl 999999)] [] w (v, w1) ∧ ∀ zz : Int, v = ec_R zz → ec_W hb_A w1 → ec_E hb_X n 227 28 [(0, .inr (.inl 215)), (1, .inl x1), (2, .inl x2), (3, .inl x3), (4, .inl x4)] [.inl zz] w1 r := by
  have h2 := hb_ecw ((4, 1, 1, 0, 0) :: (0, 0, 3, 0, 0) :: (0, 2, 0, 0, 0) :: (0, 2, 0, 0, 999999) :: (6, 1, 182, 3, 28) :: []) (by decide +kernel) h
  exact h2
theorem eg227_151_28_0 {n : Nat} {w : px_W} {r : Option Value × px_W} {x1 x2 x3 x4 s0 : Int} (h : ec_E hb_X n 227 28 [(0, .inr (.inl 215)), (1, .inl x1), (2, .inl x2), (3, .inl x3), (4, .inl x4)] [.inl s0] w r) : ec_tw s0 = ec_tw 0 → True ∧ r = (ec_R (-1), w) ∧ ec_W hb_A w := by
  have h2 := hb_ecw ((4, 1, 0, 1, 0) :: (0, 2, 0, 0, (-1)) :: (6, 3, 0, 0, 0) :: []) (by decide +kernel) h
  exact h2
theorem eg227_151_28_1 {n : Nat} {w : px_W} {r : Option Value × px_W} {x1 x2 x3 x4 s0 : Int} (h : ec_E hb_X n 227 28 [(0, .inr (.inl 215)), (1, .inl x1), (2, .inl x2), (3, .inl x3), (4, .inl x4)] [.inl s0] w r) : ec_tw s0 ≠ ec_tw 0 → ec_tw (ec_rm x3 1000) < ec_tw (ec_dv x3 1000) → ((True ∧ ec_tw 1000 ≠ 0) ∧ ec_tw 1000 ≠ 0) ∧ r = (ec_R (-1), w) ∧ ec_W hb_A w := by
  have h2 := hb_ecw ((4, 1, 1, 0, 0) :: (0, 0, 3, 0, 0) :: (0, 2, 0, 0, 1000) :: (2, 1, 0, 0, 0) :: (0, 0, 3, 0, 0) :: (0, 2, 0, 0, 1000) :: (2, 0, 0, 0, 0) :: (4, 2, 2, 1, 0) :: (0, 2, 0, 0, (-1)) :: (6, 3, 0, 0, 0) :: []) (by decide +kernel) h
  exact h2
theorem eg227_151_28_2 {n : Nat} {w : px_W} {r : Option Value × px_W} {x1 x2 x3 x4 s0 : Int} (h : ec_E hb_X n 227 28 [(0, .inr (.inl 215)), (1, .inl x1), (2, .inl x2), (3, .inl x3), (4, .inl x4)] [.inl s0] w r) : ec_tw s0 ≠ ec_tw 0 → ec_tw (ec_dv x3 1000) ≤ ec_tw (ec_rm x3 1000) → ((True ∧ ec_tw 1000 ≠ 0) ∧ ec_tw 1000 ≠ 0) ∧ ∃ (v : Option Value) (w1 : px_W), ec_E hb_X n 182 0 [(0, .inl x4), (1, .inl 0), (2, .inl 200)] [] w (v, w1) ∧ ∀ zz : Int, v = ec_R zz → ec_W hb_A w1 → ec_E hb_X n 227 53 [(0, .inr (.inl 215)), (1, .inl x1), (2, .inl x2), (3, .inl x3), (4, .inl x4)] [.inl zz] w1 r := by
  have h2 := hb_ecw ((4, 1, 1, 0, 0) :: (0, 0, 3, 0, 0) :: (0, 2, 0, 0, 1000) :: (2, 1, 0, 0, 0) :: (0, 0, 3, 0, 0) :: (0, 2, 0, 0, 1000) :: (2, 0, 0, 0, 0) :: (4, 2, 3, 0, 0) :: (0, 0, 4, 0, 0) :: (0, 2, 0, 0, 0) :: (0, 2, 0, 0, 200) :: (6, 1, 182, 3, 53) :: []) (by decide +kernel) h
  exact h2
theorem eg227_151_53_0 {n : Nat} {w : px_W} {r : Option Value × px_W} {x1 x2 x3 x4 s0 : Int} (h : ec_E hb_X n 227 53 [(0, .inr (.inl 215)), (1, .inl x1), (2, .inl x2), (3, .inl x3), (4, .inl x4)] [.inl s0] w r) : ec_tw s0 ≠ ec_tw 0 → ec_tw (ec_rd w 152 (ec_tw 6)) ≠ ec_tw 6 → ((True ∧ 0 ≤ ec_tw 6 ∧ ec_tw 6 < 1580) ∧ 0 ≤ ec_tw 6 ∧ ec_tw 6 < 1580) ∧ ec_E hb_X n 227 89 [(0, .inr (.inl 215)), (1, .inl x1), (2, .inl x2), (3, .inl x3), (4, .inl x4), (5, .inl (248 + (6 * (ec_rd w 152 (ec_tw 6)))))] [] w r := by
  have h2 := hb_ecw ((4, 1, 1, 1, 0) :: (0, 1, 0, 0, 0) :: (5, 1, 151, 216, 0) :: (0, 2, 0, 0, 6) :: (5, 2, 152, 0, 1580) :: (0, 2, 0, 0, 6) :: (4, 2, 1, 1, 0) :: (0, 2, 0, 0, 248) :: (0, 2, 0, 0, 6) :: (0, 1, 0, 0, 0) :: (5, 1, 151, 216, 0) :: (0, 2, 0, 0, 6) :: (5, 2, 152, 0, 1580) :: (1, 2, 0, 0, 0) :: (1, 0, 0, 0, 0) :: (0, 3, 5, 0, 0) :: (6, 0, 89, 6, 0) :: []) (by decide +kernel) h
  exact h2
theorem eg227_151_53_1 {n : Nat} {w : px_W} {r : Option Value × px_W} {x1 x2 x3 x4 s0 : Int} (h : ec_E hb_X n 227 53 [(0, .inr (.inl 215)), (1, .inl x1), (2, .inl x2), (3, .inl x3), (4, .inl x4)] [.inl s0] w r) : ec_tw s0 ≠ ec_tw 0 → ec_tw (ec_rd w 152 (ec_tw 6)) = ec_tw 6 → (True ∧ 0 ≤ ec_tw 6 ∧ ec_tw 6 < 1580) ∧ r = (ec_R (-2), w) ∧ ec_W hb_A w := by
  have h2 := hb_ecw ((4, 1, 1, 1, 0) :: (0, 1, 0, 0, 0) :: (5, 1, 151, 216, 0) :: (0, 2, 0, 0, 6) :: (5, 2, 152, 0, 1580) :: (0, 2, 0, 0, 6) :: (4, 2, 0, 0, 0) :: (0, 2, 0, 0, (-2)) :: (6, 3, 0, 0, 0) :: []) (by decide +kernel) h
  exact h2
theorem eg227_151_53_2 {n : Nat} {w : px_W} {r : Option Value × px_W} {x1 x2 x3 x4 s0 : Int} (h : ec_E hb_X n 227 53 [(0, .inr (.inl 215)), (1, .inl x1), (2, .inl x2), (3, .inl x3), (4, .inl x4)] [.inl s0] w r) : ec_tw s0 = ec_tw 0 → True ∧ r = (ec_R (-1), w) ∧ ec_W hb_A w := by
  have h2 := hb_ecw ((4, 1, 0, 0, 0) :: (0, 2, 0, 0, (-1)) :: (6, 3, 0, 0, 0) :: []) (by decide +kernel) h
  exact h2
theorem eg227_151_89_0 {n : Nat} {w : px_W} {r : Option Value × px_W} {x1 x2 x3 x4 x5 : Int} (h : ec_E hb_X n 227 89 [(0, .inr (.inl 215)), (1, .inl x1), (2, .inl x2), (3, .inl x3), (4, .inl x4), (5, .inl x5)] [] w r) : ((True ∧ ec_tw 100 ≠ 0) ∧ 0 ≤ ec_tw x5 ∧ ec_tw x5 < 1580) ∧ ec_E hb_X n 227 100 [(0, .inr (.inl 215)), (1, .inl x1), (2, .inl x2), (3, .inl x3), (4, .inl x4), (5, .inl x5)] [] (ec_wr w 152 (ec_tw x5) (ec_dv x1 100)) r := by
  have h2 := hb_ecw ((0, 1, 0, 0, 0) :: (5, 1, 151, 216, 0) :: (0, 0, 5, 0, 0) :: (0, 0, 1, 0, 0) :: (0, 2, 0, 0, 100) :: (2, 0, 0, 0, 0) :: (5, 3, 152, 0, 1580) :: (6, 0, 100, 6, 0) :: []) (by decide +kernel) h
  exact h2
theorem eg227_151_100_0 {n : Nat} {w : px_W} {r : Option Value × px_W} {x1 x2 x3 x4 x5 : Int} (h : ec_E hb_X n 227 100 [(0, .inr (.inl 215)), (1, .inl x1), (2, .inl x2), (3, .inl x3), (4, .inl x4), (5, .inl x5)] [] w r) : ((True ∧ ec_tw 100 ≠ 0) ∧ 0 ≤ ec_tw (x5 + 1) ∧ ec_tw (x5 + 1) < 1580) ∧ ec_E hb_X n 227 113 [(0, .inr (.inl 215)), (1, .inl x1), (2, .inl x2), (3, .inl x3), (4, .inl x4), (5, .inl x5)] [] (ec_wr w 152 (ec_tw (x5 + 1)) (ec_rm x1 100)) r := by
  have h2 := hb_ecw ((0, 1, 0, 0, 0) :: (5, 1, 151, 216, 0) :: (0, 0, 5, 0, 0) :: (0, 2, 0, 0, 1) :: (1, 0, 0, 0, 0) :: (0, 0, 1, 0, 0) :: (0, 2, 0, 0, 100) :: (2, 1, 0, 0, 0) :: (5, 3, 152, 0, 1580) :: (6, 0, 113, 6, 0) :: []) (by decide +kernel) h
  exact h2
theorem eg227_151_113_0 {n : Nat} {w : px_W} {r : Option Value × px_W} {x1 x2 x3 x4 x5 : Int} (h : ec_E hb_X n 227 113 [(0, .inr (.inl 215)), (1, .inl x1), (2, .inl x2), (3, .inl x3), (4, .inl x4), (5, .inl x5)] [] w r) : (True ∧ 0 ≤ ec_tw (x5 + 2) ∧ ec_tw (x5 + 2) < 1580) ∧ ec_E hb_X n 227 123 [(0, .inr (.inl 215)), (1, .inl x1), (2, .inl x2), (3, .inl x3), (4, .inl x4), (5, .inl x5)] [] (ec_wr w 152 (ec_tw (x5 + 2)) x2) r := by
  have h2 := hb_ecw ((0, 1, 0, 0, 0) :: (5, 1, 151, 216, 0) :: (0, 0, 5, 0, 0) :: (0, 2, 0, 0, 2) :: (1, 0, 0, 0, 0) :: (0, 0, 2, 0, 0) :: (5, 3, 152, 0, 1580) :: (6, 0, 123, 6, 0) :: []) (by decide +kernel) h
  exact h2
theorem eg227_151_123_0 {n : Nat} {w : px_W} {r : Option Value × px_W} {x1 x2 x3 x4 x5 : Int} (h : ec_E hb_X n 227 123 [(0, .inr (.inl 215)), (1, .inl x1), (2, .inl x2), (3, .inl x3), (4, .inl x4), (5, .inl x5)] [] w r) : ((True ∧ ec_tw 1000 ≠ 0) ∧ 0 ≤ ec_tw (x5 + 3) ∧ ec_tw (x5 + 3) < 1580) ∧ ec_E hb_X n 227 137 [(0, .inr (.inl 215)), (1, .inl x1), (2, .inl x2), (3, .inl x3), (4, .inl x4), (5, .inl x5)] [] (ec_wr w 152 (ec_tw (x5 + 3)) (ec_dv x3 1000)) r := by
  have h2 := hb_ecw ((0, 1, 0, 0, 0) :: (5, 1, 151, 216, 0) :: (0, 0, 5, 0, 0) :: (0, 2, 0, 0, 3) :: (1, 0, 0, 0, 0) :: (0, 0, 3, 0, 0) :: (0, 2, 0, 0, 1000) :: (2, 0, 0, 0, 0) :: (5, 3, 152, 0, 1580) :: (6, 0, 137, 6, 0) :: []) (by decide +kernel) h
  exact h2
theorem eg227_151_137_0 {n : Nat} {w : px_W} {r : Option Value × px_W} {x1 x2 x3 x4 x5 : Int} (h : ec_E hb_X n 227 137 [(0, .inr (.inl 215)), (1, .inl x1), (2, .inl x2), (3, .inl x3), (4, .inl x4), (5, .inl x5)] [] w r) : ((True ∧ ec_tw 1000 ≠ 0) ∧ 0 ≤ ec_tw (x5 + 4) ∧ ec_tw (x5 + 4) < 1580) ∧ ec_E hb_X n 227 151 [(0, .inr (.inl 215)), (1, .inl x1), (2, .inl x2), (3, .inl x3), (4, .inl x4), (5, .inl x5)] [] (ec_wr w 152 (ec_tw (x5 + 4)) (ec_rm x3 1000)) r := by
  have h2 := hb_ecw ((0, 1, 0, 0, 0) :: (5, 1, 151, 216, 0) :: (0, 0, 5, 0, 0) :: (0, 2, 0, 0, 4) :: (1, 0, 0, 0, 0) :: (0, 0, 3, 0, 0) :: (0, 2, 0, 0, 1000) :: (2, 1, 0, 0, 0) :: (5, 3, 152, 0, 1580) :: (6, 0, 151, 6, 0) :: []) (by decide +kernel) h
  exact h2
theorem eg227_151_151_0 {n : Nat} {w : px_W} {r : Option Value × px_W} {x1 x2 x3 x4 x5 : Int} (h : ec_E hb_X n 227 151 [(0, .inr (.inl 215)), (1, .inl x1), (2, .inl x2), (3, .inl x3), (4, .inl x4), (5, .inl x5)] [] w r) : (True ∧ 0 ≤ ec_tw (x5 + 5) ∧ ec_tw (x5 + 5) < 1580) ∧ ec_E hb_X n 227 162 [(0, .inr (.inl 215)), (1, .inl x1), (2, .inl x2), (3, .inl x3), (4, .inl x4), (5, .inl x5)] [] (ec_wr w 152 (ec_tw (x5 + 5)) x4) r := by
  have h2 := hb_ecw ((0, 1, 0, 0, 0) :: (5, 1, 151, 216, 0) :: (0, 0, 5, 0, 0) :: (0, 2, 0, 0, 5) :: (1, 0, 0, 0, 0) :: (0, 0, 4, 0, 0) :: (5, 3, 152, 0, 1580) :: (6, 0, 162, 6, 0) :: []) (by decide +kernel) h
  exact h2
theorem eg227_151_162_0 {n : Nat} {w : px_W} {r : Option Value × px_W} {x1 x2 x3 x4 x5 : Int} (h : ec_E hb_X n 227 162 [(0, .inr (.inl 215)), (1, .inl x1), (2, .inl x2), (3, .inl x3), (4, .inl x4), (5, .inl x5)] [] w r) : ((True ∧ 0 ≤ ec_tw 6 ∧ ec_tw 6 < 1580) ∧ 0 ≤ ec_tw 6 ∧ ec_tw 6 < 1580) ∧ ec_E hb_X n 227 173 [(0, .inr (.inl 215)), (1, .inl x1), (2, .inl x2), (3, .inl x3), (4, .inl x4), (5, .inl x5)] [] (ec_wr w 152 (ec_tw 6) ((ec_rd w 152 (ec_tw 6)) + 1)) r := by
  have h2 := hb_ecw ((0, 1, 0, 0, 0) :: (5, 1, 151, 216, 0) :: (0, 2, 0, 0, 6) :: (3, 3, 0, 0, 0) :: (5, 2, 152, 0, 1580) :: (0, 2, 0, 0, 1) :: (1, 0, 0, 0, 0) :: (5, 3, 152, 0, 1580) :: (6, 0, 173, 6, 0) :: []) (by decide +kernel) h
  exact h2
theorem eg227_151_173_0 {n : Nat} {w : px_W} {r : Option Value × px_W} {x1 x2 x3 x4 x5 : Int} (h : ec_E hb_X n 227 173 [(0, .inr (.inl 215)), (1, .inl x1), (2, .inl x2), (3, .inl x3), (4, .inl x4), (5, .inl x5)] [] w r) : (True ∧ 0 ≤ ec_tw 6 ∧ ec_tw 6 < 1580) ∧ r = (ec_R ((ec_rd w 152 (ec_tw 6)) - 1), w) ∧ ec_W hb_A w := by
  have h2 := hb_ecw ((0, 1, 0, 0, 0) :: (5, 1, 151, 216, 0) :: (0, 2, 0, 0, 6) :: (5, 2, 152, 0, 1580) :: (0, 2, 0, 0, 1) :: (1, 1, 0, 0, 0) :: (6, 3, 0, 0, 0) :: []) (by decide +kernel) h
  exact h2
/-! X7_addCall -/
theorem eg89_29_0_0 {n : Nat} {w : px_W} {r : Option Value × px_W} {x1 : Int} (h : ec_E hb_X n 89 0 [(0, .inr (.inl 93)), (1, .inl x1)] [] w r) : (True ∧ 0 ≤ ec_tw (ec_fd w 29 7) ∧ ec_tw (ec_fd w 29 7) < 10) ∧ r = (ec_R (ec_fd (ec_wr w 35 (ec_tw (ec_fd w 29 7)) x1) 29 7), ec_pf (ec_wr w 35 (ec_tw (ec_fd w 29 7)) x1) 29 7 ((ec_fd (ec_wr w 35 (ec_tw (ec_fd w 29 7)) x1) 29 7) + 1)) ∧ ec_W hb_A (ec_pf (ec_wr w 35 (ec_tw (ec_fd w 29 7)) x1) 29 7 ((ec_fd (ec_wr w 35 (ec_tw (ec_fd w 29 7)) x1) 29 7) + 1)) := by
  have h2 := hb_ecw ((0, 1, 0, 0, 0) :: (5, 1, 29, 99, 0) :: (0, 1, 0, 0, 0) :: (5, 0, 29, 7, 0) :: (0, 0, 1, 0, 0) :: (5, 3, 35, 0, 10) :: (0, 1, 0, 0, 0) :: (3, 0, 0, 0, 0) :: (5, 0, 29, 7, 0) :: (3, 2, 0, 0, 0) :: (0, 2, 0, 0, 1) :: (1, 0, 0, 0, 0) :: (5, 4, 29, 7, 0) :: (6, 3, 0, 0, 0) :: []) (by decide +kernel) h
  exact h2
/-! X11_call -/
theorem eg143_0_0_0 {n : Nat} {w : px_W} {r : Option Value × px_W} {x1 : Int} (h : ec_E hb_X n 143 0 [(0, .inr (.inl 64)), (1, .inl x1)] [] w r) : True ∧ ∃ (v : Option Value) (w1 : px_W), ec_E hb_X n 174 0 [(0, .inl x1)] [] w (v, w1) ∧ ∀ zz : Int, v = ec_R zz → ec_W hb_A w1 → ec_E hb_X n 143 4 [(0, .inr (.inl 64)), (1, .inl x1)] [.inl zz] w1 r := by
  have h2 := hb_ecw ((0, 0, 1, 0, 0) :: (6, 1, 174, 1, 4) :: []) (by decide +kernel) h
  exact h2
theorem eg143_0_4_0 {n : Nat} {w : px_W} {r : Option Value × px_W} {x1 s0 : Int} (h : ec_E hb_X n 143 4 [(0, .inr (.inl 64)), (1, .inl x1)] [.inl s0] w r) : ec_tw s0 ≠ ec_tw 0 → ec_tw (ec_fd w 29 7) < ec_tw 10 → True ∧ ∃ (v : Option Value) (w1 : px_W), ec_E hb_X n 89 0 [(0, .inr (.inl 93)), (1, .inl x1)] [] w (v, w1) ∧ ∀ zz : Int, v = ec_R zz → ec_W hb_A w1 → ec_E hb_X n 143 34 [(0, .inr (.inl 64)), (1, .inl x1)] [.inl zz] w1 r := by
  have h2 := hb_ecw ((4, 1, 1, 1, 0) :: (0, 1, 0, 0, 0) :: (5, 1, 0, 93, 0) :: (5, 0, 29, 7, 0) :: (0, 2, 0, 0, 10) :: (4, 2, 2, 1, 0) :: (0, 1, 0, 0, 0) :: (5, 1, 0, 93, 0) :: (0, 0, 1, 0, 0) :: (6, 1, 89, 2, 34) :: []) (by decide +kernel) h
  exact h2
theorem eg143_0_4_1 {n : Nat} {w : px_W} {r : Option Value × px_W} {x1 s0 : Int} (h : ec_E hb_X n 143 4 [(0, .inr (.inl 64)), (1, .inl x1)] [.inl s0] w r) : ec_tw s0 ≠ ec_tw 0 → ec_tw 10 ≤ ec_tw (ec_fd w 29 7) → True ∧ r = (ec_R (-2), w) ∧ ec_W hb_A w := by
  have h2 := hb_ecw ((4, 1, 1, 1, 0) :: (0, 1, 0, 0, 0) :: (5, 1, 0, 93, 0) :: (5, 0, 29, 7, 0) :: (0, 2, 0, 0, 10) :: (4, 2, 3, 0, 0) :: (0, 2, 0, 0, (-2)) :: (4, 0, 0, 0, 0) :: (6, 3, 0, 0, 0) :: []) (by decide +kernel) h
  exact h2
theorem eg143_0_4_2 {n : Nat} {w : px_W} {r : Option Value × px_W} {x1 s0 : Int} (h : ec_E hb_X n 143 4 [(0, .inr (.inl 64)), (1, .inl x1)] [.inl s0] w r) : ec_tw s0 = ec_tw 0 → True ∧ r = (ec_R (-1), w) ∧ ec_W hb_A w := by
  have h2 := hb_ecw ((4, 1, 0, 0, 0) :: (0, 2, 0, 0, (-1)) :: (6, 3, 0, 0, 0) :: []) (by decide +kernel) h
  exact h2
theorem eg143_0_34_0 {n : Nat} {w : px_W} {r : Option Value × px_W} {x1 s0 : Int} (h : ec_E hb_X n 143 34 [(0, .inr (.inl 64)), (1, .inl x1)] [.inl s0] w r) : True ∧ r = (ec_R s0, w) ∧ ec_W hb_A w := by
  have h2 := hb_ecw ((6, 3, 0, 0, 0) :: []) (by decide +kernel) h
  exact h2
/-! X12_call -/
theorem eg231_151_0_0 {n : Nat} {w : px_W} {r : Option Value × px_W} {x1 : Int} (h : ec_E hb_X n 231 0 [(0, .inr (.inl 215)), (1, .inl x1)] [] w r) : True ∧ ∃ (v : Option Value) (w1 : px_W), ec_E hb_X n 183 0 [(0, .inl x1)] [] w (v, w1) ∧ ∀ zz : Int, v = ec_R zz → ec_W hb_A w1 → ec_E hb_X n 231 4 [(0, .inr (.inl 215)), (1, .inl x1)] [.inl zz] w1 r := by
  have h2 := hb_ecw ((0, 0, 1, 0, 0) :: (6, 1, 183, 1, 4) :: []) (by decide +kernel) h
  exact h2
theorem eg231_151_4_0 {n : Nat} {w : px_W} {r : Option Value × px_W} {x1 s0 : Int} (h : ec_E hb_X n 231 4 [(0, .inr (.inl 215)), (1, .inl x1)] [.inl s0] w r) : ec_tw s0 ≠ ec_tw 0 → ec_tw (ec_rd w 152 (ec_tw 7)) ≠ ec_tw 10 → (((True ∧ 0 ≤ ec_tw 7 ∧ ec_tw 7 < 1580) ∧ 0 ≤ ec_tw 7 ∧ ec_tw 7 < 1580) ∧ 0 ≤ ec_tw (284 + (ec_rd w 152 (ec_tw 7))) ∧ ec_tw (284 + (ec_rd w 152 (ec_tw 7))) < 1580) ∧ ec_E hb_X n 231 41 [(0, .inr (.inl 215)), (1, .inl x1)] [] (ec_wr w 152 (ec_tw (284 + (ec_rd w 152 (ec_tw 7)))) x1) r := by
  have h2 := hb_ecw ((4, 1, 1, 1, 0) :: (0, 1, 0, 0, 0) :: (5, 1, 151, 216, 0) :: (0, 2, 0, 0, 7) :: (5, 2, 152, 0, 1580) :: (0, 2, 0, 0, 10) :: (4, 2, 1, 1, 0) :: (0, 1, 0, 0, 0) :: (5, 1, 151, 216, 0) :: (0, 2, 0, 0, 284) :: (0, 1, 0, 0, 0) :: (5, 1, 151, 216, 0) :: (0, 2, 0, 0, 7) :: (5, 2, 152, 0, 1580) :: (1, 0, 0, 0, 0) :: (0, 0, 1, 0, 0) :: (5, 3, 152, 0, 1580) :: (6, 0, 41, 2, 0) :: []) (by decide +kernel) h
  exact h2
theorem eg231_151_4_1 {n : Nat} {w : px_W} {r : Option Value × px_W} {x1 s0 : Int} (h : ec_E hb_X n 231 4 [(0, .inr (.inl 215)), (1, .inl x1)] [.inl s0] w r) : ec_tw s0 ≠ ec_tw 0 → ec_tw (ec_rd w 152 (ec_tw 7)) = ec_tw 10 → (True ∧ 0 ≤ ec_tw 7 ∧ ec_tw 7 < 1580) ∧ r = (ec_R (-2), w) ∧ ec_W hb_A w := by
  have h2 := hb_ecw ((4, 1, 1, 1, 0) :: (0, 1, 0, 0, 0) :: (5, 1, 151, 216, 0) :: (0, 2, 0, 0, 7) :: (5, 2, 152, 0, 1580) :: (0, 2, 0, 0, 10) :: (4, 2, 0, 0, 0) :: (0, 2, 0, 0, (-2)) :: (6, 3, 0, 0, 0) :: []) (by decide +kernel) h
  exact h2
theorem eg231_151_4_2 {n : Nat} {w : px_W} {r : Option Value × px_W} {x1 s0 : Int} (h : ec_E hb_X n 231 4 [(0, .inr (.inl 215)), (1, .inl x1)] [.inl s0] w r) : ec_tw s0 = ec_tw 0 → True ∧ r = (ec_R (-1), w) ∧ ec_W hb_A w := by
  have h2 := hb_ecw ((4, 1, 0, 0, 0) :: (0, 2, 0, 0, (-1)) :: (6, 3, 0, 0, 0) :: []) (by decide +kernel) h
  exact h2
theorem eg231_151_41_0 {n : Nat} {w : px_W} {r : Option Value × px_W} {x1 : Int} (h : ec_E hb_X n 231 41 [(0, .inr (.inl 215)), (1, .inl x1)] [] w r) : ((True ∧ 0 ≤ ec_tw 7 ∧ ec_tw 7 < 1580) ∧ 0 ≤ ec_tw 7 ∧ ec_tw 7 < 1580) ∧ ec_E hb_X n 231 52 [(0, .inr (.inl 215)), (1, .inl x1)] [] (ec_wr w 152 (ec_tw 7) ((ec_rd w 152 (ec_tw 7)) + 1)) r := by
  have h2 := hb_ecw ((0, 1, 0, 0, 0) :: (5, 1, 151, 216, 0) :: (0, 2, 0, 0, 7) :: (3, 3, 0, 0, 0) :: (5, 2, 152, 0, 1580) :: (0, 2, 0, 0, 1) :: (1, 0, 0, 0, 0) :: (5, 3, 152, 0, 1580) :: (6, 0, 52, 2, 0) :: []) (by decide +kernel) h
  exact h2
theorem eg231_151_52_0 {n : Nat} {w : px_W} {r : Option Value × px_W} {x1 : Int} (h : ec_E hb_X n 231 52 [(0, .inr (.inl 215)), (1, .inl x1)] [] w r) : (True ∧ 0 ≤ ec_tw 7 ∧ ec_tw 7 < 1580) ∧ r = (ec_R ((ec_rd w 152 (ec_tw 7)) - 1), w) ∧ ec_W hb_A w := by
  have h2 := hb_ecw ((0, 1, 0, 0, 0) :: (5, 1, 151, 216, 0) :: (0, 2, 0, 0, 7) :: (5, 2, 152, 0, 1580) :: (0, 2, 0, 0, 1) :: (1, 1, 0, 0, 0) :: (6, 3, 0, 0, 0) :: []) (by decide +kernel) h
  exact h2

end

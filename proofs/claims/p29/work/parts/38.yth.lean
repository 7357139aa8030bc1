noncomputable section
/-! X11_ready -/
theorem eg142_0_0_0 {n : Nat} {w : px_W} {r : Option Value × px_W} {x1 : Int} (h : ec_E hb_X n 142 0 [(0, .inr (.inl 64)), (1, .inl x1)] [] w r) : True ∧ ∃ (v : Option Value) (w1 : px_W), ec_E hb_X n 173 0 [(0, .inl x1), (1, .inl 0), (2, .inl 60)] [] w (v, w1) ∧ ∀ zz : Int, v = ec_R zz → ec_W hb_A w1 → ec_E hb_X n 142 7 [(0, .inr (.inl 64)), (1, .inl x1)] [.inl zz] w1 r := by
  have h2 := hb_ecw ((0, 0, 1, 0, 0) :: (0, 2, 0, 0, 0) :: (0, 2, 0, 0, 60) :: (6, 1, 173, 3, 7) :: []) (by decide +kernel) h
  exact h2
theorem eg142_0_7_0 {n : Nat} {w : px_W} {r : Option Value × px_W} {x1 s0 : Int} (h : ec_E hb_X n 142 7 [(0, .inr (.inl 64)), (1, .inl x1)] [.inl s0] w r) : ec_tw s0 ≠ ec_tw 0 → True ∧ r = (ec_R (ec_fd w 29 0), ec_pf w 29 0 x1) ∧ ec_W hb_A (ec_pf w 29 0 x1) := by
  have h2 := hb_ecw ((4, 1, 1, 1, 0) :: (0, 1, 0, 0, 0) :: (5, 1, 0, 93, 0) :: (5, 0, 29, 0, 0) :: (0, 3, 2, 0, 0) :: (0, 1, 0, 0, 0) :: (5, 1, 0, 93, 0) :: (0, 0, 1, 0, 0) :: (5, 4, 29, 0, 0) :: (0, 0, 2, 0, 0) :: (6, 3, 0, 0, 0) :: []) (by decide +kernel) h
  exact h2
theorem eg142_0_7_1 {n : Nat} {w : px_W} {r : Option Value × px_W} {x1 s0 : Int} (h : ec_E hb_X n 142 7 [(0, .inr (.inl 64)), (1, .inl x1)] [.inl s0] w r) : ec_tw s0 = ec_tw 0 → True ∧ r = (ec_R (-1), w) ∧ ec_W hb_A w := by
  have h2 := hb_ecw ((4, 1, 0, 0, 0) :: (0, 2, 0, 0, (-1)) :: (6, 3, 0, 0, 0) :: []) (by decide +kernel) h
  exact h2
/-! X12_ready -/
theorem eg230_151_0_0 {n : Nat} {w : px_W} {r : Option Value × px_W} {x1 : Int} (h : ec_E hb_X n 230 0 [(0, .inr (.inl 215)), (1, .inl x1)] [] w r) : True ∧ ∃ (v : Option Value) (w1 : px_W), ec_E hb_X n 182 0 [(0, .inl x1), (1, .inl 0), (2, .inl 60)] [] w (v, w1) ∧ ∀ zz : Int, v = ec_R zz → ec_W hb_A w1 → ec_E hb_X n 230 7 [(0, .inr (.inl 215)), (1, .inl x1)] [.inl zz] w1 r := by
  have h2 := hb_ecw ((0, 0, 1, 0, 0) :: (0, 2, 0, 0, 0) :: (0, 2, 0, 0, 60) :: (6, 1, 182, 3, 7) :: []) (by decide +kernel) h
  exact h2
theorem eg230_151_7_0 {n : Nat} {w : px_W} {r : Option Value × px_W} {x1 s0 : Int} (h : ec_E hb_X n 230 7 [(0, .inr (.inl 215)), (1, .inl x1)] [.inl s0] w r) : ec_tw s0 ≠ ec_tw 0 → ((True ∧ 0 ≤ ec_tw 12 ∧ ec_tw 12 < 1580) ∧ 0 ≤ ec_tw 12 ∧ ec_tw 12 < 1580) ∧ r = (ec_R (ec_rd w 152 (ec_tw 12)), ec_wr w 152 (ec_tw 12) x1) ∧ ec_W hb_A (ec_wr w 152 (ec_tw 12) x1) := by
  have h2 := hb_ecw ((4, 1, 1, 1, 0) :: (0, 1, 0, 0, 0) :: (5, 1, 151, 216, 0) :: (0, 2, 0, 0, 12) :: (5, 2, 152, 0, 1580) :: (0, 3, 2, 0, 0) :: (0, 1, 0, 0, 0) :: (5, 1, 151, 216, 0) :: (0, 2, 0, 0, 12) :: (0, 0, 1, 0, 0) :: (5, 3, 152, 0, 1580) :: (0, 0, 2, 0, 0) :: (6, 3, 0, 0, 0) :: []) (by decide +kernel) h
  exact h2
theorem eg230_151_7_1 {n : Nat} {w : px_W} {r : Option Value × px_W} {x1 s0 : Int} (h : ec_E hb_X n 230 7 [(0, .inr (.inl 215)), (1, .inl x1)] [.inl s0] w r) : ec_tw s0 = ec_tw 0 → True ∧ r = (ec_R (-1), w) ∧ ec_W hb_A w := by
  have h2 := hb_ecw ((4, 1, 0, 0, 0) :: (0, 2, 0, 0, (-1)) :: (6, 3, 0, 0, 0) :: []) (by decide +kernel) h
  exact h2
/-! X7_comesAt -/
theorem eg94_29_0_0 {n : Nat} {w : px_W} {r : Option Value × px_W} {x1 : Int} (h : ec_E hb_X n 94 0 [(0, .inr (.inl 93)), (1, .inl x1)] [] w r) : True ∧ ∃ (v : Option Value) (w1 : px_W), ec_E hb_X n 93 0 [(0, .inr (.inl 93)), (1, .inl x1)] [] w (v, w1) ∧ ∀ zz : Int, v = ec_R zz → ec_W hb_A w1 → ec_E hb_X n 94 5 [(0, .inr (.inl 93)), (1, .inl x1)] [.inl zz] w1 r := by
  have h2 := hb_ecw ((0, 1, 0, 0, 0) :: (0, 0, 1, 0, 0) :: (6, 1, 93, 2, 5) :: []) (by decide +kernel) h
  exact h2
theorem eg94_29_5_0 {n : Nat} {w : px_W} {r : Option Value × px_W} {x1 s0 : Int} (h : ec_E hb_X n 94 5 [(0, .inr (.inl 93)), (1, .inl x1)] [.inl s0] w r) : ec_tw s0 = ec_tw (-3) → True ∧ r = (ec_R (-3), w) ∧ ec_W hb_A w := by
  have h2 := hb_ecw ((0, 3, 2, 0, 0) :: (0, 0, 2, 0, 0) :: (0, 2, 0, 0, (-3)) :: (4, 2, 0, 1, 0) :: (0, 2, 0, 0, (-3)) :: (6, 3, 0, 0, 0) :: []) (by decide +kernel) h
  exact h2
theorem eg94_29_5_1 {n : Nat} {w : px_W} {r : Option Value × px_W} {x1 s0 : Int} (h : ec_E hb_X n 94 5 [(0, .inr (.inl 93)), (1, .inl x1)] [.inl s0] w r) : ec_tw s0 ≠ ec_tw (-3) → ec_tw 0 < ec_tw (ec_rd w 31 (ec_tw x1)) → (((((True ∧ 0 ≤ ec_tw x1 ∧ ec_tw x1 < 6) ∧ 0 ≤ ec_tw x1 ∧ ec_tw x1 < 6) ∧ 0 ≤ ec_tw x1 ∧ ec_tw x1 < 6) ∧ 0 ≤ ec_tw x1 ∧ ec_tw x1 < 6) ∧ ec_tw (ec_rd w 31 (ec_tw x1)) ≠ 0) ∧ r = (ec_R ((s0 + (ec_fd w 29 0)) + (ec_dv (((10 * (ec_rd w 30 (ec_tw x1))) + (ec_rd w 31 (ec_tw x1))) - 1) (ec_rd w 31 (ec_tw x1)))), w) ∧ ec_W hb_A w := by
  have h2 := hb_ecw ((0, 3, 2, 0, 0) :: (0, 0, 2, 0, 0) :: (0, 2, 0, 0, (-3)) :: (4, 2, 1, 0, 0) :: (0, 1, 0, 0, 0) :: (5, 1, 29, 95, 0) :: (0, 0, 1, 0, 0) :: (5, 2, 31, 0, 6) :: (4, 1, 4, 1, 0) :: (0, 0, 2, 0, 0) :: (0, 1, 0, 0, 0) :: (5, 0, 29, 0, 0) :: (1, 0, 0, 0, 0) :: (0, 2, 0, 0, 10) :: (0, 1, 0, 0, 0) :: (5, 1, 29, 94, 0) :: (0, 0, 1, 0, 0) :: (5, 2, 30, 0, 6) :: (1, 2, 0, 0, 0) :: (0, 1, 0, 0, 0) :: (5, 1, 29, 95, 0) :: (0, 0, 1, 0, 0) :: (5, 2, 31, 0, 6) :: (1, 0, 0, 0, 0) :: (0, 2, 0, 0, 1) :: (1, 1, 0, 0, 0) :: (0, 1, 0, 0, 0) :: (5, 1, 29, 95, 0) :: (0, 0, 1, 0, 0) :: (5, 2, 31, 0, 6) :: (2, 0, 0, 0, 0) :: (1, 0, 0, 0, 0) :: (6, 3, 0, 0, 0) :: []) (by decide +kernel) h
  exact h2
theorem eg94_29_5_2 {n : Nat} {w : px_W} {r : Option Value × px_W} {x1 s0 : Int} (h : ec_E hb_X n 94 5 [(0, .inr (.inl 93)), (1, .inl x1)] [.inl s0] w r) : ec_tw s0 ≠ ec_tw (-3) → ec_tw (ec_rd w 31 (ec_tw x1)) ≤ ec_tw 0 → (True ∧ 0 ≤ ec_tw x1 ∧ ec_tw x1 < 6) ∧ r = (ec_R (-3), w) ∧ ec_W hb_A w := by
  have h2 := hb_ecw ((0, 3, 2, 0, 0) :: (0, 0, 2, 0, 0) :: (0, 2, 0, 0, (-3)) :: (4, 2, 1, 0, 0) :: (0, 1, 0, 0, 0) :: (5, 1, 29, 95, 0) :: (0, 0, 1, 0, 0) :: (5, 2, 31, 0, 6) :: (4, 1, 5, 0, 0) :: (0, 2, 0, 0, (-3)) :: (6, 3, 0, 0, 0) :: []) (by decide +kernel) h
  exact h2
/-! X11_comes -/
theorem eg145_0_0_0 {n : Nat} {w : px_W} {r : Option Value × px_W} {x1 : Int} (h : ec_E hb_X n 145 0 [(0, .inr (.inl 64)), (1, .inl x1)] [] w r) : True ∧ ∃ (v : Option Value) (w1 : px_W), ec_E hb_X n 173 0 [(0, .inl x1), (1, .inl 0), (2, .inl ((ec_fd w 29 1) - 1))] [] w (v, w1) ∧ ∀ zz : Int, v = ec_R zz → ec_W hb_A w1 → ec_E hb_X n 145 14 [(0, .inr (.inl 64)), (1, .inl x1)] [.inl zz] w1 r := by
  have h2 := hb_ecw ((0, 0, 1, 0, 0) :: (0, 2, 0, 0, 0) :: (0, 1, 0, 0, 0) :: (5, 1, 0, 93, 0) :: (5, 0, 29, 1, 0) :: (0, 2, 0, 0, 1) :: (1, 1, 0, 0, 0) :: (6, 1, 173, 3, 14) :: []) (by decide +kernel) h
  exact h2
theorem eg145_0_14_0 {n : Nat} {w : px_W} {r : Option Value × px_W} {x1 s0 : Int} (h : ec_E hb_X n 145 14 [(0, .inr (.inl 64)), (1, .inl x1)] [.inl s0] w r) : ec_tw s0 = ec_tw 0 → True ∧ r = (ec_R (-1), w) ∧ ec_W hb_A w := by
  have h2 := hb_ecw ((4, 1, 0, 1, 0) :: (0, 2, 0, 0, (-1)) :: (6, 3, 0, 0, 0) :: []) (by decide +kernel) h
  exact h2
theorem eg145_0_14_1 {n : Nat} {w : px_W} {r : Option Value × px_W} {x1 s0 : Int} (h : ec_E hb_X n 145 14 [(0, .inr (.inl 64)), (1, .inl x1)] [.inl s0] w r) : ec_tw s0 ≠ ec_tw 0 → True ∧ ∃ (v : Option Value) (w1 : px_W), ec_E hb_X n 94 0 [(0, .inr (.inl 93)), (1, .inl x1)] [] w (v, w1) ∧ ∀ zz : Int, v = ec_R zz → ec_W hb_A w1 → ec_E hb_X n 145 25 [(0, .inr (.inl 64)), (1, .inl x1)] [.inl zz] w1 r := by
  have h2 := hb_ecw ((4, 1, 1, 0, 0) :: (0, 1, 0, 0, 0) :: (5, 1, 0, 93, 0) :: (0, 0, 1, 0, 0) :: (6, 1, 94, 2, 25) :: []) (by decide +kernel) h
  exact h2
theorem eg145_0_25_0 {n : Nat} {w : px_W} {r : Option Value × px_W} {x1 s0 : Int} (h : ec_E hb_X n 145 25 [(0, .inr (.inl 64)), (1, .inl x1)] [.inl s0] w r) : True ∧ r = (ec_R s0, w) ∧ ec_W hb_A w := by
  have h2 := hb_ecw ((4, 0, 0, 0, 0) :: (6, 3, 0, 0, 0) :: []) (by decide +kernel) h
  exact h2
/-! X12_isShip -/
theorem eg228_151_0_0 {n : Nat} {w : px_W} {r : Option Value × px_W} {x1 : Int} (h : ec_E hb_X n 228 0 [(0, .inr (.inl 215)), (1, .inl x1)] [] w r) : (True ∧ 0 ≤ ec_tw 6 ∧ ec_tw 6 < 1580) ∧ ∃ (v : Option Value) (w1 : px_W), ec_E hb_X n 182 0 [(0, .inl x1), (1, .inl 0), (2, .inl ((ec_rd w 152 (ec_tw 6)) - 1))] [] w (v, w1) ∧ ∀ zz : Int, v = ec_R zz → ec_W hb_A w1 → ec_E hb_X n 228 14 [(0, .inr (.inl 215)), (1, .inl x1)] [.inl zz] w1 r := by
  have h2 := hb_ecw ((0, 0, 1, 0, 0) :: (0, 2, 0, 0, 0) :: (0, 1, 0, 0, 0) :: (5, 1, 151, 216, 0) :: (0, 2, 0, 0, 6) :: (5, 2, 152, 0, 1580) :: (0, 2, 0, 0, 1) :: (1, 1, 0, 0, 0) :: (6, 1, 182, 3, 14) :: []) (by decide +kernel) h
  exact h2
theorem eg228_151_14_0 {n : Nat} {w : px_W} {r : Option Value × px_W} {x1 s0 : Int} (h : ec_E hb_X n 228 14 [(0, .inr (.inl 215)), (1, .inl x1)] [.inl s0] w r) : True ∧ r = (ec_R s0, w) ∧ ec_W hb_A w := by
  have h2 := hb_ecw ((6, 3, 0, 0, 0) :: []) (by decide +kernel) h
  exact h2
/-! X12_comes_ -/
theorem eg235_151_0_0 {n : Nat} {w : px_W} {r : Option Value × px_W} {x1 : Int} (h : ec_E hb_X n 235 0 [(0, .inr (.inl 215)), (1, .inl x1)] [] w r) : True ∧ ∃ (v : Option Value) (w1 : px_W), ec_E hb_X n 228 0 [(0, .inr (.inl 215)), (1, .inl x1)] [] w (v, w1) ∧ ∀ zz : Int, v = ec_R zz → ec_W hb_A w1 → ec_E hb_X n 235 5 [(0, .inr (.inl 215)), (1, .inl x1)] [.inl zz] w1 r := by
  have h2 := hb_ecw ((0, 1, 0, 0, 0) :: (0, 0, 1, 0, 0) :: (6, 1, 228, 2, 5) :: []) (by decide +kernel) h
  exact h2
theorem eg235_151_5_0 {n : Nat} {w : px_W} {r : Option Value × px_W} {x1 s0 : Int} (h : ec_E hb_X n 235 5 [(0, .inr (.inl 215)), (1, .inl x1)] [.inl s0] w r) : ec_tw s0 ≠ ec_tw 0 → True ∧ ∃ (v : Option Value) (w1 : px_W), ec_E hb_X n 234 0 [(0, .inr (.inl 215)), (1, .inl x1)] [] w (v, w1) ∧ ∀ zz : Int, v = ec_R zz → ec_W hb_A w1 → ec_E hb_X n 235 15 [(0, .inr (.inl 215)), (1, .inl x1)] [.inl zz] w1 r := by
  have h2 := hb_ecw ((4, 1, 1, 1, 0) :: (0, 1, 0, 0, 0) :: (0, 0, 1, 0, 0) :: (6, 1, 234, 2, 15) :: []) (by decide +kernel) h
  exact h2
theorem eg235_151_5_1 {n : Nat} {w : px_W} {r : Option Value × px_W} {x1 s0 : Int} (h : ec_E hb_X n 235 5 [(0, .inr (.inl 215)), (1, .inl x1)] [.inl s0] w r) : ec_tw s0 = ec_tw 0 → True ∧ r = (ec_R (-1), w) ∧ ec_W hb_A w := by
  have h2 := hb_ecw ((4, 1, 0, 0, 0) :: (0, 2, 0, 0, (-1)) :: (6, 3, 0, 0, 0) :: []) (by decide +kernel) h
  exact h2
theorem eg235_151_15_0 {n : Nat} {w : px_W} {r : Option Value × px_W} {x1 s0 : Int} (h : ec_E hb_X n 235 15 [(0, .inr (.inl 215)), (1, .inl x1)] [.inl s0] w r) : ec_tw s0 ≠ ec_tw 1000000 → ((True ∧ 0 ≤ ec_tw ((248 + (6 * x1)) + 2) ∧ ec_tw ((248 + (6 * x1)) + 2) < 1580) ∧ 0 ≤ ec_tw 12 ∧ ec_tw 12 < 1580) ∧ ∃ (v : Option Value) (w1 : px_W), ec_E hb_X n 229 0 [(0, .inr (.inl 215)), (1, .inl x1)] [] w (v, w1) ∧ ∀ zz : Int, v = ec_R zz → ec_W hb_A w1 → ec_E hb_X n 235 59 [(0, .inr (.inl 215)), (1, .inl x1), (2, .inl s0), (3, .inl (ec_rd w 152 (ec_tw ((248 + (6 * x1)) + 2))))] [.inl zz, .inl 10, .inl (s0 + (ec_rd w 152 (ec_tw 12)))] w1 r := by
  have h2 := hb_ecw ((0, 3, 2, 0, 0) :: (0, 1, 0, 0, 0) :: (5, 1, 151, 216, 0) :: (0, 2, 0, 0, 248) :: (0, 2, 0, 0, 6) :: (0, 0, 1, 0, 0) :: (1, 2, 0, 0, 0) :: (1, 0, 0, 0, 0) :: (0, 2, 0, 0, 2) :: (1, 0, 0, 0, 0) :: (5, 2, 152, 0, 1580) :: (0, 3, 3, 0, 0) :: (0, 0, 2, 0, 0) :: (0, 2, 0, 0, 1000000) :: (4, 2, 1, 1, 0) :: (0, 0, 2, 0, 0) :: (0, 1, 0, 0, 0) :: (5, 1, 151, 216, 0) :: (0, 2, 0, 0, 12) :: (5, 2, 152, 0, 1580) :: (1, 0, 0, 0, 0) :: (0, 2, 0, 0, 10) :: (0, 1, 0, 0, 0) :: (0, 0, 1, 0, 0) :: (6, 1, 229, 2, 59) :: []) (by decide +kernel) h
  exact h2
theorem eg235_151_15_1 {n : Nat} {w : px_W} {r : Option Value × px_W} {x1 s0 : Int} (h : ec_E hb_X n 235 15 [(0, .inr (.inl 215)), (1, .inl x1)] [.inl s0] w r) : ec_tw s0 = ec_tw 1000000 → (True ∧ 0 ≤ ec_tw ((248 + (6 * x1)) + 2) ∧ ec_tw ((248 + (6 * x1)) + 2) < 1580) ∧ r = (ec_R (-3), w) ∧ ec_W hb_A w := by
  have h2 := hb_ecw ((0, 3, 2, 0, 0) :: (0, 1, 0, 0, 0) :: (5, 1, 151, 216, 0) :: (0, 2, 0, 0, 248) :: (0, 2, 0, 0, 6) :: (0, 0, 1, 0, 0) :: (1, 2, 0, 0, 0) :: (1, 0, 0, 0, 0) :: (0, 2, 0, 0, 2) :: (1, 0, 0, 0, 0) :: (5, 2, 152, 0, 1580) :: (0, 3, 3, 0, 0) :: (0, 0, 2, 0, 0) :: (0, 2, 0, 0, 1000000) :: (4, 2, 0, 0, 0) :: (0, 2, 0, 0, (-3)) :: (4, 0, 0, 0, 0) :: (6, 3, 0, 0, 0) :: []) (by decide +kernel) h
  exact h2
theorem eg235_151_59_0 {n : Nat} {w : px_W} {r : Option Value × px_W} {x1 x2 x3 s0 s1 s2 : Int} (h : ec_E hb_X n 235 59 [(0, .inr (.inl 215)), (1, .inl x1), (2, .inl x2), (3, .inl x3)] [.inl s2, .inl s1, .inl s0] w r) : (True ∧ ec_tw x3 ≠ 0) ∧ r = (ec_R (s0 + (ec_dv (((s1 * s2) + x3) - 1) x3)), w) ∧ ec_W hb_A w := by
  have h2 := hb_ecw ((1, 2, 0, 0, 0) :: (0, 0, 3, 0, 0) :: (1, 0, 0, 0, 0) :: (0, 2, 0, 0, 1) :: (1, 1, 0, 0, 0) :: (0, 0, 3, 0, 0) :: (2, 0, 0, 0, 0) :: (1, 0, 0, 0, 0) :: (6, 3, 0, 0, 0) :: []) (by decide +kernel) h
  exact h2

end

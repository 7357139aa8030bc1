noncomputable section
/-! X11_seat -/
theorem ex136_0_0_0 {n : Nat} {w : px_W} {r : Option Value × px_W} (h : ec_E hb_X n 136 0 [(0, .inr (.inl 64))] [] w r) : True ∧ ∃ (v : Option Value) (w1 : px_W), ec_F hb_X n 98 [.inr (.inl 190), .inr (.inl 79)] w (v, w1) ∧ (v = none → ec_W hb_A w1 → ec_E hb_X n 136 11 [(0, .inr (.inl 64))] [] w1 r) := by
  have h2 := hb_ecw ((0, 1, 0, 0, 0) :: (5, 1, 0, 190, 0) :: (0, 1, 0, 0, 0) :: (5, 1, 0, 79, 0) :: (6, 6, 98, 2, 11) :: []) (by decide +kernel) h
  exact h2
theorem ex136_0_11_0 {n : Nat} {w : px_W} {r : Option Value × px_W} (h : ec_E hb_X n 136 11 [(0, .inr (.inl 64))] [] w r) : True ∧ ∃ (v : Option Value) (w1 : px_W), ec_F hb_X n 101 [.inr (.inl 190)] w (v, w1) ∧ ∀ zz : Int, v = ec_R zz → ec_W hb_A w1 → ec_E hb_X n 136 18 [(0, .inr (.inl 64))] [.inl zz] w1 r := by
  have h2 := hb_ecw ((0, 1, 0, 0, 0) :: (5, 1, 0, 190, 0) :: (6, 5, 101, 1, 18) :: []) (by decide +kernel) h
  exact h2
theorem ex136_0_18_0 {n : Nat} {w : px_W} {r : Option Value × px_W} {s0 : Int} (h : ec_E hb_X n 136 18 [(0, .inr (.inl 64))] [.inl s0] w r) : True ∧ r = (ec_R s0, w) ∧ ec_W hb_A w := by
  have h2 := hb_ecw ((6, 3, 0, 0, 0) :: []) (by decide +kernel) h
  exact h2
/-! X11_judge -/
theorem ex139_0_0_0 {n : Nat} {w : px_W} {r : Option Value × px_W} (h : ec_E hb_X n 139 0 [(0, .inr (.inl 64))] [] w r) : True ∧ ∃ (v : Option Value) (w1 : px_W), ec_F hb_X n 98 [.inr (.inl 190), .inr (.inl 79)] w (v, w1) ∧ (v = none → ec_W hb_A w1 → ec_E hb_X n 139 11 [(0, .inr (.inl 64))] [] w1 r) := by
  have h2 := hb_ecw ((0, 1, 0, 0, 0) :: (5, 1, 0, 190, 0) :: (0, 1, 0, 0, 0) :: (5, 1, 0, 79, 0) :: (6, 6, 98, 2, 11) :: []) (by decide +kernel) h
  exact h2
theorem ex139_0_11_0 {n : Nat} {w : px_W} {r : Option Value × px_W} (h : ec_E hb_X n 139 11 [(0, .inr (.inl 64))] [] w r) : True ∧ ∃ (v : Option Value) (w1 : px_W), ec_F hb_X n 104 [.inr (.inl 190)] w (v, w1) ∧ ∀ zz : Int, v = ec_R zz → ec_W hb_A w1 → ec_E hb_X n 139 18 [(0, .inr (.inl 64))] [.inl zz] w1 r := by
  have h2 := hb_ecw ((0, 1, 0, 0, 0) :: (5, 1, 0, 190, 0) :: (6, 5, 104, 1, 18) :: []) (by decide +kernel) h
  exact h2
theorem ex139_0_18_0 {n : Nat} {w : px_W} {r : Option Value × px_W} {s0 : Int} (h : ec_E hb_X n 139 18 [(0, .inr (.inl 64))] [.inl s0] w r) : True ∧ r = (ec_R s0, w) ∧ ec_W hb_A w := by
  have h2 := hb_ecw ((6, 3, 0, 0, 0) :: []) (by decide +kernel) h
  exact h2
/-! X11_order -/
theorem eg140_0_0_0 {n : Nat} {w : px_W} {r : Option Value × px_W} {x1 x2 x3 : Int} (h : ec_E hb_X n 140 0 [(0, .inr (.inl 64)), (1, .inl x1), (2, .inl x2), (3, .inl x3)] [] w r) : True ∧ ∃ (v : Option Value) (w1 : px_W), ec_E hb_X n 173 0 [(0, .inl x1), (1, .inl 1), (2, .inl ((ec_shl 1 (ec_fd w 15 10)) - 1))] [] w (v, w1) ∧ ∀ zz : Int, v = ec_R zz → ec_W hb_A w1 → ec_E hb_X n 140 16 [(0, .inr (.inl 64)), (1, .inl x1), (2, .inl x2), (3, .inl x3)] [.inl zz] w1 r := by
  have h2 := hb_ecw ((0, 0, 1, 0, 0) :: (0, 2, 0, 0, 1) :: (0, 2, 0, 0, 1) :: (0, 1, 0, 0, 0) :: (5, 1, 0, 79, 0) :: (5, 0, 15, 10, 0) :: (1, 6, 0, 0, 0) :: (0, 2, 0, 0, 1) :: (1, 1, 0, 0, 0) :: (6, 1, 173, 3, 16) :: []) (by decide +kernel) h
  exact h2
theorem eg140_0_16_0 {n : Nat} {w : px_W} {r : Option Value × px_W} {x1 x2 x3 s0 : Int} (h : ec_E hb_X n 140 16 [(0, .inr (.inl 64)), (1, .inl x1), (2, .inl x2), (3, .inl x3)] [.inl s0] w r) : ec_tw s0 = ec_tw 0 → True ∧ r = (ec_R (-1), w) ∧ ec_W hb_A w := by
  have h2 := hb_ecw ((4, 1, 0, 1, 0) :: (0, 2, 0, 0, (-1)) :: (6, 3, 0, 0, 0) :: []) (by decide +kernel) h
  exact h2
theorem eg140_0_16_1 {n : Nat} {w : px_W} {r : Option Value × px_W} {x1 x2 x3 s0 : Int} (h : ec_E hb_X n 140 16 [(0, .inr (.inl 64)), (1, .inl x1), (2, .inl x2), (3, .inl x3)] [.inl s0] w r) : ec_tw s0 ≠ ec_tw 0 → True ∧ ∃ (v : Option Value) (w1 : px_W), ec_E hb_X n 173 0 [(0, .inl x2), (1, .inl 1), (2, .inl 30)] [] w (v, w1) ∧ ∀ zz : Int, v = ec_R zz → ec_W hb_A w1 → ec_E hb_X n 140 26 [(0, .inr (.inl 64)), (1, .inl x1), (2, .inl x2), (3, .inl x3)] [.inl zz] w1 r := by
  have h2 := hb_ecw ((4, 1, 1, 0, 0) :: (0, 0, 2, 0, 0) :: (0, 2, 0, 0, 1) :: (0, 2, 0, 0, 30) :: (6, 1, 173, 3, 26) :: []) (by decide +kernel) h
  exact h2
theorem eg140_0_26_0 {n : Nat} {w : px_W} {r : Option Value × px_W} {x1 x2 x3 s0 : Int} (h : ec_E hb_X n 140 26 [(0, .inr (.inl 64)), (1, .inl x1), (2, .inl x2), (3, .inl x3)] [.inl s0] w r) : ec_tw s0 = ec_tw 0 → True ∧ r = (ec_R (-1), w) ∧ ec_W hb_A w := by
  have h2 := hb_ecw ((4, 1, 0, 1, 0) :: (0, 2, 0, 0, (-1)) :: (6, 3, 0, 0, 0) :: []) (by decide +kernel) h
  exact h2
theorem eg140_0_26_1 {n : Nat} {w : px_W} {r : Option Value × px_W} {x1 x2 x3 s0 : Int} (h : ec_E hb_X n 140 26 [(0, .inr (.inl 64)), (1, .inl x1), (2, .inl x2), (3, .inl x3)] [.inl s0] w r) : ec_tw s0 ≠ ec_tw 0 → ec_tw (-1) ≤ ec_tw x3 → True ∧ ∃ (v : Option Value) (w1 : px_W), ec_E hb_X n 294 0 [(0, .inl x1)] [] w (v, w1) ∧ ∀ zz : Int, v = ec_R zz → ec_W hb_A w1 → ec_E hb_X n 140 40 [(0, .inr (.inl 64)), (1, .inl x1), (2, .inl x2), (3, .inl x3)] [.inl zz] w1 r := by
  have h2 := hb_ecw ((4, 1, 1, 0, 0) :: (0, 0, 3, 0, 0) :: (0, 2, 0, 0, (-1)) :: (4, 2, 3, 1, 0) :: (0, 0, 1, 0, 0) :: (6, 1, 294, 1, 40) :: []) (by decide +kernel) h
  exact h2
theorem eg140_0_26_2 {n : Nat} {w : px_W} {r : Option Value × px_W} {x1 x2 x3 s0 : Int} (h : ec_E hb_X n 140 26 [(0, .inr (.inl 64)), (1, .inl x1), (2, .inl x2), (3, .inl x3)] [.inl s0] w r) : ec_tw s0 ≠ ec_tw 0 → ec_tw x3 < ec_tw (-1) → True ∧ r = (ec_R (-1), w) ∧ ec_W hb_A w := by
  have h2 := hb_ecw ((4, 1, 1, 0, 0) :: (0, 0, 3, 0, 0) :: (0, 2, 0, 0, (-1)) :: (4, 2, 2, 0, 0) :: (0, 2, 0, 0, (-1)) :: (6, 3, 0, 0, 0) :: []) (by decide +kernel) h
  exact h2
theorem eg140_0_40_0 {n : Nat} {w : px_W} {r : Option Value × px_W} {x1 x2 x3 s0 : Int} (h : ec_E hb_X n 140 40 [(0, .inr (.inl 64)), (1, .inl x1), (2, .inl x2), (3, .inl x3)] [.inl s0] w r) : ec_tw s0 ≤ ec_tw 6 → ec_tw x3 < ec_tw s0 → True ∧ ∃ (v : Option Value) (w1 : px_W), ec_E hb_X n 98 0 [(0, .inr (.inl 190)), (1, .inr (.inl 79))] [] w (v, w1) ∧ (v = none → ec_W hb_A w1 → ec_E hb_X n 140 72 [(0, .inr (.inl 64)), (1, .inl x1), (2, .inl x2), (3, .inl x3), (4, .inl s0)] [] w1 r) := by
  have h2 := hb_ecw ((0, 3, 4, 0, 0) :: (0, 0, 4, 0, 0) :: (0, 2, 0, 0, 6) :: (4, 2, 5, 1, 0) :: (0, 0, 3, 0, 0) :: (0, 0, 4, 0, 0) :: (4, 2, 2, 1, 0) :: (0, 1, 0, 0, 0) :: (5, 1, 0, 190, 0) :: (0, 1, 0, 0, 0) :: (5, 1, 0, 79, 0) :: (6, 2, 98, 2, 72) :: []) (by decide +kernel) h
  exact h2
theorem eg140_0_40_1 {n : Nat} {w : px_W} {r : Option Value × px_W} {x1 x2 x3 s0 : Int} (h : ec_E hb_X n 140 40 [(0, .inr (.inl 64)), (1, .inl x1), (2, .inl x2), (3, .inl x3)] [.inl s0] w r) : ec_tw s0 ≤ ec_tw 6 → ec_tw s0 ≤ ec_tw x3 → True ∧ r = (ec_R (-3), w) ∧ ec_W hb_A w := by
  have h2 := hb_ecw ((0, 3, 4, 0, 0) :: (0, 0, 4, 0, 0) :: (0, 2, 0, 0, 6) :: (4, 2, 5, 1, 0) :: (0, 0, 3, 0, 0) :: (0, 0, 4, 0, 0) :: (4, 2, 3, 0, 0) :: (0, 2, 0, 0, (-3)) :: (6, 3, 0, 0, 0) :: []) (by decide +kernel) h
  exact h2
theorem eg140_0_40_2 {n : Nat} {w : px_W} {r : Option Value × px_W} {x1 x2 x3 s0 : Int} (h : ec_E hb_X n 140 40 [(0, .inr (.inl 64)), (1, .inl x1), (2, .inl x2), (3, .inl x3)] [.inl s0] w r) : ec_tw 6 < ec_tw s0 → True ∧ r = (ec_R (-2), w) ∧ ec_W hb_A w := by
  have h2 := hb_ecw ((0, 3, 4, 0, 0) :: (0, 0, 4, 0, 0) :: (0, 2, 0, 0, 6) :: (4, 2, 4, 0, 0) :: (0, 2, 0, 0, (-2)) :: (6, 3, 0, 0, 0) :: []) (by decide +kernel) h
  exact h2
theorem eg140_0_72_0 {n : Nat} {w : px_W} {r : Option Value × px_W} {x1 x2 x3 x4 : Int} (h : ec_E hb_X n 140 72 [(0, .inr (.inl 64)), (1, .inl x1), (2, .inl x2), (3, .inl x3), (4, .inl x4)] [] w r) : True ∧ ∃ (v : Option Value) (w1 : px_W), ec_E hb_X n 106 0 [(0, .inr (.inl 190)), (1, .inl x1), (2, .inl (ec_fd w 1 0)), (3, .inl x2)] [] w (v, w1) ∧ (v = none → ec_W hb_A w1 → ec_E hb_X n 140 88 [(0, .inr (.inl 64)), (1, .inl x1), (2, .inl x2), (3, .inl x3), (4, .inl x4)] [] w1 r) := by
  have h2 := hb_ecw ((0, 1, 0, 0, 0) :: (5, 1, 0, 190, 0) :: (0, 0, 1, 0, 0) :: (0, 1, 0, 0, 0) :: (5, 1, 0, 65, 0) :: (5, 0, 1, 0, 0) :: (0, 0, 2, 0, 0) :: (6, 2, 106, 4, 88) :: []) (by decide +kernel) h
  exact h2
theorem eg140_0_88_0 {n : Nat} {w : px_W} {r : Option Value × px_W} {x1 x2 x3 x4 : Int} (h : ec_E hb_X n 140 88 [(0, .inr (.inl 64)), (1, .inl x1), (2, .inl x2), (3, .inl x3), (4, .inl x4)] [] w r) : ec_tw x3 ≠ ec_tw (-1) → (True ∧ 0 ≤ ec_tw x3 ∧ ec_tw x3 < 6) ∧ r = (ec_R (ec_rd w 129 (ec_tw x3)), w) ∧ ec_W hb_A w := by
  have h2 := hb_ecw ((0, 0, 3, 0, 0) :: (0, 2, 0, 0, (-1)) :: (4, 2, 1, 1, 0) :: (0, 1, 0, 0, 0) :: (5, 1, 0, 190, 0) :: (5, 1, 126, 193, 0) :: (0, 0, 3, 0, 0) :: (5, 2, 129, 0, 6) :: (6, 3, 0, 0, 0) :: []) (by decide +kernel) h
  exact h2
theorem eg140_0_88_1 {n : Nat} {w : px_W} {r : Option Value × px_W} {x1 x2 x3 x4 : Int} (h : ec_E hb_X n 140 88 [(0, .inr (.inl 64)), (1, .inl x1), (2, .inl x2), (3, .inl x3), (4, .inl x4)] [] w r) : ec_tw x3 = ec_tw (-1) → True ∧ r = (ec_R (ec_fd w 126 3), w) ∧ ec_W hb_A w := by
  have h2 := hb_ecw ((0, 0, 3, 0, 0) :: (0, 2, 0, 0, (-1)) :: (4, 2, 0, 0, 0) :: (0, 1, 0, 0, 0) :: (5, 1, 0, 190, 0) :: (5, 0, 126, 3, 0) :: (4, 0, 0, 0, 0) :: (6, 3, 0, 0, 0) :: []) (by decide +kernel) h
  exact h2
/-! X8_findOrder -/
theorem eg106_126_0_0 {n : Nat} {w : px_W} {r : Option Value × px_W} {x1 x2 x3 : Int} (h : ec_E hb_X n 106 0 [(0, .inr (.inl 190)), (1, .inl x1), (2, .inl x2), (3, .inl x3)] [] w r) : True ∧ ∃ (v : Option Value) (w1 : px_W), ec_E hb_X n 294 0 [(0, .inl x1)] [] w (v, w1) ∧ ∀ zz : Int, v = ec_R zz → ec_W hb_A w1 → ec_E hb_X n 106 5 [(0, .inr (.inl 190)), (1, .inl x1), (2, .inl x2), (3, .inl x3)] [.inl zz, .inr (.inl 190)] w1 r := by
  have h2 := hb_ecw ((0, 1, 0, 0, 0) :: (0, 0, 1, 0, 0) :: (6, 1, 294, 1, 5) :: []) (by decide +kernel) h
  exact h2
theorem eg106_126_5_0 {n : Nat} {w : px_W} {r : Option Value × px_W} {x1 x2 x3 s1 : Int} (h : ec_E hb_X n 106 5 [(0, .inr (.inl 190)), (1, .inl x1), (2, .inl x2), (3, .inl x3)] [.inl s1, .inr (.inl 190)] w r) : True ∧ ec_E hb_X n 106 26 [(0, .inr (.inl 190)), (1, .inl x1), (2, .inl x2), (3, .inl x3), (4, .inl 0)] [] (ec_pf (ec_pf (ec_pf (ec_pf w 126 14 s1) 126 15 x2) 126 16 x3) 126 3 (-1)) r := by
  have h2 := hb_ecw ((5, 4, 126, 14, 0) :: (0, 1, 0, 0, 0) :: (0, 0, 2, 0, 0) :: (5, 4, 126, 15, 0) :: (0, 1, 0, 0, 0) :: (0, 0, 3, 0, 0) :: (5, 4, 126, 16, 0) :: (0, 1, 0, 0, 0) :: (0, 2, 0, 0, (-1)) :: (5, 4, 126, 3, 0) :: (0, 2, 0, 0, 0) :: (0, 3, 4, 0, 0) :: (6, 0, 26, 5, 0) :: []) (by decide +kernel) h
  exact h2
theorem eg106_126_26_0 {n : Nat} {w : px_W} {r : Option Value × px_W} {x1 x2 x3 x4 : Int} (h : ec_E hb_X n 106 26 [(0, .inr (.inl 190)), (1, .inl x1), (2, .inl x2), (3, .inl x3), (4, .inl x4)] [] w r) : ec_tw (ec_fd w 126 6) ≤ ec_tw x4 → True ∧ ∃ (v : Option Value) (w1 : px_W), ec_E hb_X n 107 0 [(0, .inr (.inl 190)), (1, .inl 0), (2, .inl x1)] [] w (v, w1) ∧ (v = none → ec_W hb_A w1 → ec_E hb_X n 106 72 [(0, .inr (.inl 190)), (1, .inl x1), (2, .inl x2), (3, .inl x3), (4, .inl x4)] [] w1 r) := by
  have h2 := hb_ecw ((0, 0, 4, 0, 0) :: (0, 1, 0, 0, 0) :: (5, 0, 126, 6, 0) :: (4, 2, 3, 1, 0) :: (0, 1, 0, 0, 0) :: (0, 2, 0, 0, 0) :: (0, 0, 1, 0, 0) :: (6, 2, 107, 3, 72) :: []) (by decide +kernel) h
  exact h2
theorem eg106_126_26_1 {n : Nat} {w : px_W} {r : Option Value × px_W} {x1 x2 x3 x4 : Int} (h : ec_E hb_X n 106 26 [(0, .inr (.inl 190)), (1, .inl x1), (2, .inl x2), (3, .inl x3), (4, .inl x4)] [] w r) : ec_tw x4 < ec_tw (ec_fd w 126 6) → ec_tw (ec_and (ec_shr x1 x4) 1) ≠ ec_tw 1 → True ∧ ec_E hb_X n 106 26 [(0, .inr (.inl 190)), (1, .inl x1), (2, .inl x2), (3, .inl x3), (4, .inl (x4 + 1))] [] w r := by
  have h2 := hb_ecw ((0, 0, 4, 0, 0) :: (0, 1, 0, 0, 0) :: (5, 0, 126, 6, 0) :: (4, 2, 2, 0, 0) :: (0, 0, 1, 0, 0) :: (0, 0, 4, 0, 0) :: (1, 7, 0, 0, 0) :: (0, 2, 0, 0, 1) :: (1, 3, 0, 0, 0) :: (0, 2, 0, 0, 1) :: (4, 2, 1, 1, 0) :: (0, 5, 4, 0, 1) :: (4, 0, 0, 0, 0) :: (6, 0, 26, 5, 0) :: []) (by decide +kernel) h
  exact h2
theorem eg106_126_26_2 {n : Nat} {w : px_W} {r : Option Value × px_W} {x1 x2 x3 x4 : Int} (h : ec_E hb_X n 106 26 [(0, .inr (.inl 190)), (1, .inl x1), (2, .inl x2), (3, .inl x3), (4, .inl x4)] [] w r) : ec_tw x4 < ec_tw (ec_fd w 126 6) → ec_tw (ec_and (ec_shr x1 x4) 1) = ec_tw 1 → (True ∧ 0 ≤ ec_tw x4 ∧ ec_tw x4 < 8) ∧ ec_E hb_X n 106 26 [(0, .inr (.inl 190)), (1, .inl x1), (2, .inl x2), (3, .inl x3), (4, .inl (x4 + 1))] [] (ec_wr w 132 (ec_tw x4) (x2 + ((ec_fd w 126 14) * x3))) r := by
  have h2 := hb_ecw ((0, 0, 4, 0, 0) :: (0, 1, 0, 0, 0) :: (5, 0, 126, 6, 0) :: (4, 2, 2, 0, 0) :: (0, 0, 1, 0, 0) :: (0, 0, 4, 0, 0) :: (1, 7, 0, 0, 0) :: (0, 2, 0, 0, 1) :: (1, 3, 0, 0, 0) :: (0, 2, 0, 0, 1) :: (4, 2, 0, 0, 0) :: (0, 1, 0, 0, 0) :: (5, 1, 126, 196, 0) :: (0, 0, 4, 0, 0) :: (0, 0, 2, 0, 0) :: (0, 1, 0, 0, 0) :: (5, 0, 126, 14, 0) :: (0, 0, 3, 0, 0) :: (1, 2, 0, 0, 0) :: (1, 0, 0, 0, 0) :: (5, 3, 132, 0, 8) :: (0, 5, 4, 0, 1) :: (4, 0, 0, 0, 0) :: (6, 0, 26, 5, 0) :: []) (by decide +kernel) h
  exact h2
theorem eg106_126_72_0 {n : Nat} {w : px_W} {r : Option Value × px_W} {x1 x2 x3 x4 : Int} (h : ec_E hb_X n 106 72 [(0, .inr (.inl 190)), (1, .inl x1), (2, .inl x2), (3, .inl x3), (4, .inl x4)] [] w r) : True ∧ r = (none, w) ∧ ec_W hb_A w := by
  have h2 := hb_ecw ((6, 4, 0, 0, 0) :: []) (by decide +kernel) h
  exact h2
/-! J6_bitCount_0f7a4 -/
theorem eg294_0_0 {n : Nat} {w : px_W} {r : Option Value × px_W} {x0 : Int} (h : ec_E hb_X n 294 0 [(0, .inl x0)] [] w r) : True ∧ r = (ec_R (ec_and (((ec_and (((ec_and (x0 - (ec_and (ec_ush x0 1) 1431655765)) 858993459) + (ec_and (ec_ush (x0 - (ec_and (ec_ush x0 1) 1431655765)) 2) 858993459)) + (ec_ush ((ec_and (x0 - (ec_and (ec_ush x0 1) 1431655765)) 858993459) + (ec_and (ec_ush (x0 - (ec_and (ec_ush x0 1) 1431655765)) 2) 858993459)) 4)) 252645135) + (ec_ush (ec_and (((ec_and (x0 - (ec_and (ec_ush x0 1) 1431655765)) 858993459) + (ec_and (ec_ush (x0 - (ec_and (ec_ush x0 1) 1431655765)) 2) 858993459)) + (ec_ush ((ec_and (x0 - (ec_and (ec_ush x0 1) 1431655765)) 858993459) + (ec_and (ec_ush (x0 - (ec_and (ec_ush x0 1) 1431655765)) 2) 858993459)) 4)) 252645135) 8)) + (ec_ush ((ec_and (((ec_and (x0 - (ec_and (ec_ush x0 1) 1431655765)) 858993459) + (ec_and (ec_ush (x0 - (ec_and (ec_ush x0 1) 1431655765)) 2) 858993459)) + (ec_ush ((ec_and (x0 - (ec_and (ec_ush x0 1) 1431655765)) 858993459) + (ec_and (ec_ush (x0 - (ec_and (ec_ush x0 1) 1431655765)) 2) 858993459)) 4)) 252645135) + (ec_ush (ec_and (((ec_and (x0 - (ec_and (ec_ush x0 1) 1431655765)) 858993459) + (ec_and (ec_ush (x0 - (ec_and (ec_ush x0 1) 1431655765)) 2) 858993459)) + (ec_ush ((ec_and (x0 - (ec_and (ec_ush x0 1) 1431655765)) 858993459) + (ec_and (ec_ush (x0 - (ec_and (ec_ush x0 1) 1431655765)) 2) 858993459)) 4)) 252645135) 8)) 16)) 63), w) ∧ ec_W hb_A w := by
  have h2 := hb_ecw ((0, 0, 0, 0, 0) :: (0, 0, 0, 0, 0) :: (0, 2, 0, 0, 1) :: (1, 8, 0, 0, 0) :: (0, 2, 0, 0, 1431655765) :: (1, 3, 0, 0, 0) :: (1, 1, 0, 0, 0) :: (0, 3, 0, 0, 0) :: (0, 0, 0, 0, 0) :: (0, 2, 0, 0, 858993459) :: (1, 3, 0, 0, 0) :: (0, 0, 0, 0, 0) :: (0, 2, 0, 0, 2) :: (1, 8, 0, 0, 0) :: (0, 2, 0, 0, 858993459) :: (1, 3, 0, 0, 0) :: (1, 0, 0, 0, 0) :: (0, 3, 0, 0, 0) :: (0, 0, 0, 0, 0) :: (0, 0, 0, 0, 0) :: (0, 2, 0, 0, 4) :: (1, 8, 0, 0, 0) :: (1, 0, 0, 0, 0) :: (0, 2, 0, 0, 252645135) :: (1, 3, 0, 0, 0) :: (0, 3, 0, 0, 0) :: (0, 0, 0, 0, 0) :: (0, 0, 0, 0, 0) :: (0, 2, 0, 0, 8) :: (1, 8, 0, 0, 0) :: (1, 0, 0, 0, 0) :: (0, 3, 0, 0, 0) :: (0, 0, 0, 0, 0) :: (0, 0, 0, 0, 0) :: (0, 2, 0, 0, 16) :: (1, 8, 0, 0, 0) :: (1, 0, 0, 0, 0) :: (0, 3, 0, 0, 0) :: (0, 0, 0, 0, 0) :: (0, 2, 0, 0, 63) :: (1, 3, 0, 0, 0) :: (6, 3, 0, 0, 0) :: []) (by decide +kernel) h
  exact h2
/-! X11_lowestBit -/
theorem eg175_0_0 {n : Nat} {w : px_W} {r : Option Value × px_W} {x0 : Int} (h : ec_E hb_X n 175 0 [(0, .inl x0)] [] w r) : True ∧ ec_E hb_X n 175 2 [(0, .inl x0), (1, .inl 0)] [] w r := by
  have h2 := hb_ecw ((0, 2, 0, 0, 0) :: (0, 3, 1, 0, 0) :: (6, 0, 2, 2, 0) :: []) (by decide +kernel) h
  exact h2
theorem eg175_2_0 {n : Nat} {w : px_W} {r : Option Value × px_W} {x0 x1 : Int} (h : ec_E hb_X n 175 2 [(0, .inl x0), (1, .inl x1)] [] w r) : ec_tw 31 ≤ ec_tw x1 → True ∧ r = (ec_R x1, w) ∧ ec_W hb_A w := by
  have h2 := hb_ecw ((0, 0, 1, 0, 0) :: (0, 2, 0, 0, 31) :: (4, 2, 3, 1, 0) :: (0, 0, 1, 0, 0) :: (6, 3, 0, 0, 0) :: []) (by decide +kernel) h
  exact h2
theorem eg175_2_1 {n : Nat} {w : px_W} {r : Option Value × px_W} {x0 x1 : Int} (h : ec_E hb_X n 175 2 [(0, .inl x0), (1, .inl x1)] [] w r) : ec_tw x1 < ec_tw 31 → ec_tw (ec_and (ec_shr x0 x1) 1) ≠ ec_tw 0 → True ∧ r = (ec_R x1, w) ∧ ec_W hb_A w := by
  have h2 := hb_ecw ((0, 0, 1, 0, 0) :: (0, 2, 0, 0, 31) :: (4, 2, 2, 0, 0) :: (0, 0, 0, 0, 0) :: (0, 0, 1, 0, 0) :: (1, 7, 0, 0, 0) :: (0, 2, 0, 0, 1) :: (1, 3, 0, 0, 0) :: (4, 1, 1, 1, 0) :: (0, 0, 1, 0, 0) :: (6, 3, 0, 0, 0) :: []) (by decide +kernel) h
  exact h2
theorem eg175_2_2 {n : Nat} {w : px_W} {r : Option Value × px_W} {x0 x1 : Int} (h : ec_E hb_X n 175 2 [(0, .inl x0), (1, .inl x1)] [] w r) : ec_tw x1 < ec_tw 31 → ec_tw (ec_and (ec_shr x0 x1) 1) = ec_tw 0 → True ∧ ec_E hb_X n 175 2 [(0, .inl x0), (1, .inl (x1 + 1))] [] w r := by
  have h2 := hb_ecw ((0, 0, 1, 0, 0) :: (0, 2, 0, 0, 31) :: (4, 2, 2, 0, 0) :: (0, 0, 0, 0, 0) :: (0, 0, 1, 0, 0) :: (1, 7, 0, 0, 0) :: (0, 2, 0, 0, 1) :: (1, 3, 0, 0, 0) :: (4, 1, 0, 0, 0) :: (0, 5, 1, 0, 1) :: (4, 0, 0, 0, 0) :: (6, 0, 2, 2, 0) :: []) (by decide +kernel) h
  exact h2
/-! X8_pickNext -/
theorem eg107_126_0_0 {n : Nat} {w : px_W} {r : Option Value × px_W} {x1 x2 : Int} (h : ec_E hb_X n 107 0 [(0, .inr (.inl 190)), (1, .inl x1), (2, .inl x2)] [] w r) : True ∧ ∃ (v : Option Value) (w1 : px_W), ec_E hb_X n 99 0 [(0, .inr (.inl 190))] [] w (v, w1) ∧ (v = none → ec_W hb_A w1 → ec_E hb_X n 107 4 [(0, .inr (.inl 190)), (1, .inl x1), (2, .inl x2)] [] w1 r) := by
  have h2 := hb_ecw ((0, 1, 0, 0, 0) :: (6, 2, 99, 1, 4) :: []) (by decide +kernel) h
  exact h2
theorem eg107_126_4_0 {n : Nat} {w : px_W} {r : Option Value × px_W} {x1 x2 : Int} (h : ec_E hb_X n 107 4 [(0, .inr (.inl 190)), (1, .inl x1), (2, .inl x2)] [] w r) : True ∧ ∃ (v : Option Value) (w1 : px_W), ec_E hb_X n 100 0 [(0, .inr (.inl 190))] [] w (v, w1) ∧ ∀ zz : Int, v = ec_R zz → ec_W hb_A w1 → ec_E hb_X n 107 8 [(0, .inr (.inl 190)), (1, .inl x1), (2, .inl x2)] [.inl zz] w1 r := by
  have h2 := hb_ecw ((0, 1, 0, 0, 0) :: (6, 1, 100, 1, 8) :: []) (by decide +kernel) h
  exact h2
theorem eg107_126_8_0 {n : Nat} {w : px_W} {r : Option Value × px_W} {x1 x2 s0 : Int} (h : ec_E hb_X n 107 8 [(0, .inr (.inl 190)), (1, .inl x1), (2, .inl x2)] [.inl s0] w r) : ec_tw s0 ≤ ec_tw (ec_fd w 126 3) → True ∧ r = (none, w) ∧ ec_W hb_A w := by
  have h2 := hb_ecw ((0, 3, 3, 0, 0) :: (0, 0, 3, 0, 0) :: (0, 1, 0, 0, 0) :: (5, 0, 126, 3, 0) :: (4, 2, 5, 1, 0) :: (6, 4, 0, 0, 0) :: []) (by decide +kernel) h
  exact h2
theorem eg107_126_8_1 {n : Nat} {w : px_W} {r : Option Value × px_W} {x1 x2 s0 : Int} (h : ec_E hb_X n 107 8 [(0, .inr (.inl 190)), (1, .inl x1), (2, .inl x2)] [.inl s0] w r) : ec_tw (ec_fd w 126 3) < ec_tw s0 → ec_tw x1 < ec_tw (ec_fd w 126 14) → ec_tw x1 ≠ ec_tw ((ec_fd w 126 14) - 1) → True ∧ ec_E hb_X n 107 66 [(0, .inr (.inl 190)), (1, .inl x1), (2, .inl x2), (3, .inl s0), (4, .inl 0)] [] w r := by
  have h2 := hb_ecw ((0, 3, 3, 0, 0) :: (0, 0, 3, 0, 0) :: (0, 1, 0, 0, 0) :: (5, 0, 126, 3, 0) :: (4, 2, 4, 0, 0) :: (0, 0, 1, 0, 0) :: (0, 1, 0, 0, 0) :: (5, 0, 126, 14, 0) :: (4, 2, 2, 1, 0) :: (0, 0, 1, 0, 0) :: (0, 1, 0, 0, 0) :: (5, 0, 126, 14, 0) :: (0, 2, 0, 0, 1) :: (1, 1, 0, 0, 0) :: (4, 2, 1, 1, 0) :: (0, 2, 0, 0, 0) :: (0, 3, 4, 0, 0) :: (6, 0, 66, 5, 0) :: []) (by decide +kernel) h
  exact h2
theorem eg107_126_8_2 {n : Nat} {w : px_W} {r : Option Value × px_W} {x1 x2 s0 : Int} (h : ec_E hb_X n 107 8 [(0, .inr (.inl 190)), (1, .inl x1), (2, .inl x2)] [.inl s0] w r) : ec_tw (ec_fd w 126 3) < ec_tw s0 → ec_tw x1 < ec_tw (ec_fd w 126 14) → ec_tw x1 = ec_tw ((ec_fd w 126 14) - 1) → True ∧ ∃ (v : Option Value) (w1 : px_W), ec_E hb_X n 175 0 [(0, .inl x2)] [] w (v, w1) ∧ ∀ zz : Int, v = ec_R zz → ec_W hb_A w1 → ec_E hb_X n 107 45 [(0, .inr (.inl 190)), (1, .inl x1), (2, .inl x2), (3, .inl s0)] [.inl zz, .inl x1, .inr (.inl 200)] w1 r := by
  have h2 := hb_ecw ((0, 3, 3, 0, 0) :: (0, 0, 3, 0, 0) :: (0, 1, 0, 0, 0) :: (5, 0, 126, 3, 0) :: (4, 2, 4, 0, 0) :: (0, 0, 1, 0, 0) :: (0, 1, 0, 0, 0) :: (5, 0, 126, 14, 0) :: (4, 2, 2, 1, 0) :: (0, 0, 1, 0, 0) :: (0, 1, 0, 0, 0) :: (5, 0, 126, 14, 0) :: (0, 2, 0, 0, 1) :: (1, 1, 0, 0, 0) :: (4, 2, 0, 0, 0) :: (0, 1, 0, 0, 0) :: (5, 1, 126, 200, 0) :: (0, 0, 1, 0, 0) :: (0, 0, 2, 0, 0) :: (6, 1, 175, 1, 45) :: []) (by decide +kernel) h
  exact h2
theorem eg107_126_8_3 {n : Nat} {w : px_W} {r : Option Value × px_W} {x1 x2 s0 : Int} (h : ec_E hb_X n 107 8 [(0, .inr (.inl 190)), (1, .inl x1), (2, .inl x2)] [.inl s0] w r) : ec_tw (ec_fd w 126 3) < ec_tw s0 → ec_tw (ec_fd w 126 14) ≤ ec_tw x1 → True ∧ r = (none, w) ∧ ec_W hb_A w := by
  have h2 := hb_ecw ((0, 3, 3, 0, 0) :: (0, 0, 3, 0, 0) :: (0, 1, 0, 0, 0) :: (5, 0, 126, 3, 0) :: (4, 2, 4, 0, 0) :: (0, 0, 1, 0, 0) :: (0, 1, 0, 0, 0) :: (5, 0, 126, 14, 0) :: (4, 2, 3, 0, 0) :: (6, 4, 0, 0, 0) :: []) (by decide +kernel) h
  exact h2
theorem eg107_126_66_0 {n : Nat} {w : px_W} {r : Option Value × px_W} {x1 x2 x3 x4 : Int} (h : ec_E hb_X n 107 66 [(0, .inr (.inl 190)), (1, .inl x1), (2, .inl x2), (3, .inl x3), (4, .inl x4)] [] w r) : ec_tw (ec_fd w 126 6) ≤ ec_tw x4 → True ∧ r = (none, w) ∧ ec_W hb_A w := by
  have h2 := hb_ecw ((0, 0, 4, 0, 0) :: (0, 1, 0, 0, 0) :: (5, 0, 126, 6, 0) :: (4, 2, 3, 1, 0) :: (6, 4, 0, 0, 0) :: []) (by decide +kernel) h
  exact h2
theorem eg107_126_66_1 {n : Nat} {w : px_W} {r : Option Value × px_W} {x1 x2 x3 x4 : Int} (h : ec_E hb_X n 107 66 [(0, .inr (.inl 190)), (1, .inl x1), (2, .inl x2), (3, .inl x3), (4, .inl x4)] [] w r) : ec_tw x4 < ec_tw (ec_fd w 126 6) → ec_tw x3 ≤ ec_tw (ec_fd w 126 3) → True ∧ r = (none, w) ∧ ec_W hb_A w := by
  have h2 := hb_ecw ((0, 0, 4, 0, 0) :: (0, 1, 0, 0, 0) :: (5, 0, 126, 6, 0) :: (4, 2, 2, 0, 0) :: (0, 1, 0, 0, 0) :: (5, 0, 126, 3, 0) :: (0, 0, 3, 0, 0) :: (4, 2, 3, 1, 0) :: (6, 4, 0, 0, 0) :: []) (by decide +kernel) h
  exact h2
theorem eg107_126_66_2 {n : Nat} {w : px_W} {r : Option Value × px_W} {x1 x2 x3 x4 : Int} (h : ec_E hb_X n 107 66 [(0, .inr (.inl 190)), (1, .inl x1), (2, .inl x2), (3, .inl x3), (4, .inl x4)] [] w r) : ec_tw x4 < ec_tw (ec_fd w 126 6) → ec_tw (ec_fd w 126 3) < ec_tw x3 → ec_tw (ec_and (ec_shr x2 x4) 1) ≠ ec_tw 1 → True ∧ ec_E hb_X n 107 66 [(0, .inr (.inl 190)), (1, .inl x1), (2, .inl x2), (3, .inl x3), (4, .inl (x4 + 1))] [] w r := by
  have h2 := hb_ecw ((0, 0, 4, 0, 0) :: (0, 1, 0, 0, 0) :: (5, 0, 126, 6, 0) :: (4, 2, 2, 0, 0) :: (0, 1, 0, 0, 0) :: (5, 0, 126, 3, 0) :: (0, 0, 3, 0, 0) :: (4, 2, 2, 0, 0) :: (0, 0, 2, 0, 0) :: (0, 0, 4, 0, 0) :: (1, 7, 0, 0, 0) :: (0, 2, 0, 0, 1) :: (1, 3, 0, 0, 0) :: (0, 2, 0, 0, 1) :: (4, 2, 1, 1, 0) :: (0, 5, 4, 0, 1) :: (4, 0, 0, 0, 0) :: (6, 0, 66, 5, 0) :: []) (by decide +kernel) h
  exact h2
theorem eg107_126_66_3 {n : Nat} {w : px_W} {r : Option Value × px_W} {x1 x2 x3 x4 : Int} (h : ec_E hb_X n 107 66 [(0, .inr (.inl 190)), (1, .inl x1), (2, .inl x2), (3, .inl x3), (4, .inl x4)] [] w r) : ec_tw x4 < ec_tw (ec_fd w 126 6) → ec_tw (ec_fd w 126 3) < ec_tw x3 → ec_tw (ec_and (ec_shr x2 x4) 1) = ec_tw 1 → ((True ∧ 0 ≤ ec_tw x1 ∧ ec_tw x1 < 6) ∧ 0 ≤ ec_tw x4 ∧ ec_tw x4 < 8) ∧ ∃ (v : Option Value) (w1 : px_W), ec_E hb_X n 107 0 [(0, .inr (.inl 190)), (1, .inl (x1 + 1)), (2, .inl (ec_and x2 (ec_xor (ec_shl 1 x4) (-1))))] [] (ec_wr (ec_wr w 136 (ec_tw x1) x4) 132 (ec_tw x4) ((ec_fd (ec_wr w 136 (ec_tw x1) x4) 126 15) + ((x1 + 1) * (ec_fd (ec_wr w 136 (ec_tw x1) x4) 126 16)))) (v, w1) ∧ (v = none → ec_W hb_A w1 → ec_E hb_X n 107 136 [(0, .inr (.inl 190)), (1, .inl x1), (2, .inl x2), (3, .inl x3), (4, .inl x4)] [] w1 r) := by
  have h2 := hb_ecw ((0, 0, 4, 0, 0) :: (0, 1, 0, 0, 0) :: (5, 0, 126, 6, 0) :: (4, 2, 2, 0, 0) :: (0, 1, 0, 0, 0) :: (5, 0, 126, 3, 0) :: (0, 0, 3, 0, 0) :: (4, 2, 2, 0, 0) :: (0, 0, 2, 0, 0) :: (0, 0, 4, 0, 0) :: (1, 7, 0, 0, 0) :: (0, 2, 0, 0, 1) :: (1, 3, 0, 0, 0) :: (0, 2, 0, 0, 1) :: (4, 2, 0, 0, 0) :: (0, 1, 0, 0, 0) :: (5, 1, 126, 200, 0) :: (0, 0, 1, 0, 0) :: (0, 0, 4, 0, 0) :: (5, 3, 136, 0, 6) :: (0, 1, 0, 0, 0) :: (5, 1, 126, 196, 0) :: (0, 0, 4, 0, 0) :: (0, 1, 0, 0, 0) :: (5, 0, 126, 15, 0) :: (0, 0, 1, 0, 0) :: (0, 2, 0, 0, 1) :: (1, 0, 0, 0, 0) :: (0, 1, 0, 0, 0) :: (5, 0, 126, 16, 0) :: (1, 2, 0, 0, 0) :: (1, 0, 0, 0, 0) :: (5, 3, 132, 0, 8) :: (0, 1, 0, 0, 0) :: (0, 0, 1, 0, 0) :: (0, 2, 0, 0, 1) :: (1, 0, 0, 0, 0) :: (0, 0, 2, 0, 0) :: (0, 2, 0, 0, 1) :: (0, 0, 4, 0, 0) :: (1, 6, 0, 0, 0) :: (0, 2, 0, 0, (-1)) :: (1, 5, 0, 0, 0) :: (1, 3, 0, 0, 0) :: (6, 2, 107, 3, 136) :: []) (by decide +kernel) h
  exact h2
theorem eg107_126_45_0 {n : Nat} {w : px_W} {r : Option Value × px_W} {x1 x2 x3 s1 s2 : Int} (h : ec_E hb_X n 107 45 [(0, .inr (.inl 190)), (1, .inl x1), (2, .inl x2), (3, .inl x3)] [.inl s2, .inl s1, .inr (.inl 200)] w r) : (True ∧ 0 ≤ ec_tw s1 ∧ ec_tw s1 < 6) ∧ ∃ (v : Option Value) (w1 : px_W), ec_E hb_X n 176 0 [(0, .inr (.inl 200)), (1, .inr (.inl 193))] [] (ec_pf (ec_wr w 136 (ec_tw s1) s2) 126 3 x3) (v, w1) ∧ (v = none → ec_W hb_A w1 → ec_E hb_X n 107 62 [(0, .inr (.inl 190)), (1, .inl x1), (2, .inl x2), (3, .inl x3)] [] w1 r) := by
  have h2 := hb_ecw ((5, 3, 136, 0, 6) :: (0, 1, 0, 0, 0) :: (0, 0, 3, 0, 0) :: (5, 4, 126, 3, 0) :: (0, 1, 0, 0, 0) :: (5, 1, 126, 200, 0) :: (0, 1, 0, 0, 0) :: (5, 1, 126, 193, 0) :: (6, 2, 176, 2, 62) :: []) (by decide +kernel) h
  exact h2
theorem eg107_126_136_0 {n : Nat} {w : px_W} {r : Option Value × px_W} {x1 x2 x3 x4 : Int} (h : ec_E hb_X n 107 136 [(0, .inr (.inl 190)), (1, .inl x1), (2, .inl x2), (3, .inl x3), (4, .inl x4)] [] w r) : (True ∧ 0 ≤ ec_tw x4 ∧ ec_tw x4 < 8) ∧ ec_E hb_X n 107 66 [(0, .inr (.inl 190)), (1, .inl x1), (2, .inl x2), (3, .inl x3), (4, .inl (x4 + 1))] [] (ec_wr w 132 (ec_tw x4) ((ec_fd w 126 15) + ((ec_fd w 126 14) * (ec_fd w 126 16)))) r := by
  have h2 := hb_ecw ((0, 1, 0, 0, 0) :: (5, 1, 126, 196, 0) :: (0, 0, 4, 0, 0) :: (0, 1, 0, 0, 0) :: (5, 0, 126, 15, 0) :: (0, 1, 0, 0, 0) :: (5, 0, 126, 14, 0) :: (0, 1, 0, 0, 0) :: (5, 0, 126, 16, 0) :: (1, 2, 0, 0, 0) :: (1, 0, 0, 0, 0) :: (5, 3, 132, 0, 8) :: (0, 5, 4, 0, 1) :: (4, 0, 0, 0, 0) :: (6, 0, 66, 5, 0) :: []) (by decide +kernel) h
  exact h2
theorem eg107_126_62_0 {n : Nat} {w : px_W} {r : Option Value × px_W} {x1 x2 x3 : Int} (h : ec_E hb_X n 107 62 [(0, .inr (.inl 190)), (1, .inl x1), (2, .inl x2), (3, .inl x3)] [] w r) : True ∧ r = (none, w) ∧ ec_W hb_A w := by
  have h2 := hb_ecw ((6, 4, 0, 0, 0) :: []) (by decide +kernel) h
  exact h2

end

noncomputable section
/-! X11_version -/
theorem eg156_0_0_0 {n : Nat} {w : px_W} {r : Option Value × px_W} {x1 x2 : Int} (h : ec_E hb_X n 156 0 [(0, .inr (.inl 64)), (1, .inl x1), (2, .inl x2)] [] w r) : True ∧ ∃ (v : Option Value) (w1 : px_W), ec_E hb_X n 173 0 [(0, .inl x1), (1, .inl 0), (2, .inl ((ec_fd w 44 0) - 1))] [] w (v, w1) ∧ ∀ zz : Int, v = ec_R zz → ec_W hb_A w1 → ec_E hb_X n 156 14 [(0, .inr (.inl 64)), (1, .inl x1), (2, .inl x2)] [.inl zz] w1 r := by
  have h2 := hb_ecw ((0, 0, 1, 0, 0) :: (0, 2, 0, 0, 0) :: (0, 1, 0, 0, 0) :: (5, 1, 0, 108, 0) :: (5, 0, 44, 0, 0) :: (0, 2, 0, 0, 1) :: (1, 1, 0, 0, 0) :: (6, 1, 173, 3, 14) :: []) (by decide +kernel) h
  exact h2
theorem eg156_0_14_0 {n : Nat} {w : px_W} {r : Option Value × px_W} {x1 x2 s0 : Int} (h : ec_E hb_X n 156 14 [(0, .inr (.inl 64)), (1, .inl x1), (2, .inl x2)] [.inl s0] w r) : ec_tw s0 ≠ ec_tw 0 → ec_tw x2 ≠ ec_tw 0 → ec_tw x2 ≠ ec_tw 1 → (True ∧ 0 ≤ ec_tw x1 ∧ ec_tw x1 < 7) ∧ ∃ (v : Option Value) (w1 : px_W), ec_E hb_X n 173 0 [(0, .inl x2), (1, .inl 10), (2, .inl (9 + (ec_rd w 46 (ec_tw x1))))] [] w (v, w1) ∧ ∀ zz : Int, v = ec_R zz → ec_W hb_A w1 → ec_E hb_X n 156 66 [(0, .inr (.inl 64)), (1, .inl x1), (2, .inl x2)] [.inl zz] w1 r := by
  have h2 := hb_ecw ((4, 1, 1, 1, 0) :: (0, 0, 2, 0, 0) :: (4, 1, 1, 1, 0) :: (0, 0, 2, 0, 0) :: (0, 2, 0, 0, 1) :: (4, 2, 1, 1, 0) :: (0, 0, 2, 0, 0) :: (0, 2, 0, 0, 10) :: (0, 2, 0, 0, 9) :: (0, 1, 0, 0, 0) :: (5, 1, 0, 108, 0) :: (5, 1, 44, 110, 0) :: (0, 0, 1, 0, 0) :: (5, 2, 46, 0, 7) :: (1, 0, 0, 0, 0) :: (6, 1, 173, 3, 66) :: []) (by decide +kernel) h
  exact h2
theorem eg156_0_14_1 {n : Nat} {w : px_W} {r : Option Value × px_W} {x1 x2 s0 : Int} (h : ec_E hb_X n 156 14 [(0, .inr (.inl 64)), (1, .inl x1), (2, .inl x2)] [.inl s0] w r) : ec_tw s0 ≠ ec_tw 0 → ec_tw x2 ≠ ec_tw 0 → ec_tw x2 = ec_tw 1 → (True ∧ 0 ≤ ec_tw x1 ∧ ec_tw x1 < 7) ∧ r = (ec_R (ec_rd w 45 (ec_tw x1)), w) ∧ ec_W hb_A w := by
  have h2 := hb_ecw ((4, 1, 1, 1, 0) :: (0, 0, 2, 0, 0) :: (4, 1, 1, 1, 0) :: (0, 0, 2, 0, 0) :: (0, 2, 0, 0, 1) :: (4, 2, 0, 0, 0) :: (0, 1, 0, 0, 0) :: (5, 1, 0, 108, 0) :: (5, 1, 44, 109, 0) :: (0, 0, 1, 0, 0) :: (5, 2, 45, 0, 7) :: (6, 3, 0, 0, 0) :: []) (by decide +kernel) h
  exact h2
theorem eg156_0_14_2 {n : Nat} {w : px_W} {r : Option Value × px_W} {x1 x2 s0 : Int} (h : ec_E hb_X n 156 14 [(0, .inr (.inl 64)), (1, .inl x1), (2, .inl x2)] [.inl s0] w r) : ec_tw s0 ≠ ec_tw 0 → ec_tw x2 = ec_tw 0 → (True ∧ 0 ≤ ec_tw x1 ∧ ec_tw x1 < 7) ∧ r = (ec_R (ec_rd w 46 (ec_tw x1)), w) ∧ ec_W hb_A w := by
  have h2 := hb_ecw ((4, 1, 1, 1, 0) :: (0, 0, 2, 0, 0) :: (4, 1, 0, 0, 0) :: (0, 1, 0, 0, 0) :: (5, 1, 0, 108, 0) :: (5, 1, 44, 110, 0) :: (0, 0, 1, 0, 0) :: (5, 2, 46, 0, 7) :: (6, 3, 0, 0, 0) :: []) (by decide +kernel) h
  exact h2
theorem eg156_0_14_3 {n : Nat} {w : px_W} {r : Option Value × px_W} {x1 x2 s0 : Int} (h : ec_E hb_X n 156 14 [(0, .inr (.inl 64)), (1, .inl x1), (2, .inl x2)] [.inl s0] w r) : ec_tw s0 = ec_tw 0 → True ∧ r = (ec_R (-1), w) ∧ ec_W hb_A w := by
  have h2 := hb_ecw ((4, 1, 0, 0, 0) :: (0, 2, 0, 0, (-1)) :: (6, 3, 0, 0, 0) :: []) (by decide +kernel) h
  exact h2
theorem eg156_0_66_0 {n : Nat} {w : px_W} {r : Option Value × px_W} {x1 x2 s0 : Int} (h : ec_E hb_X n 156 66 [(0, .inr (.inl 64)), (1, .inl x1), (2, .inl x2)] [.inl s0] w r) : ec_tw s0 = ec_tw 0 → True ∧ r = (ec_R (-1), w) ∧ ec_W hb_A w := by
  have h2 := hb_ecw ((4, 1, 0, 1, 0) :: (0, 2, 0, 0, (-1)) :: (6, 3, 0, 0, 0) :: []) (by decide +kernel) h
  exact h2
theorem eg156_0_66_1 {n : Nat} {w : px_W} {r : Option Value × px_W} {x1 x2 s0 : Int} (h : ec_E hb_X n 156 66 [(0, .inr (.inl 64)), (1, .inl x1), (2, .inl x2)] [.inl s0] w r) : ec_tw s0 ≠ ec_tw 0 → (True ∧ 0 ≤ ec_tw (((x1 * 8) + x2) - 10) ∧ ec_tw (((x1 * 8) + x2) - 10) < 56) ∧ r = (ec_R (ec_rd w 47 (ec_tw (((x1 * 8) + x2) - 10))), w) ∧ ec_W hb_A w := by
  have h2 := hb_ecw ((4, 1, 1, 0, 0) :: (0, 1, 0, 0, 0) :: (5, 1, 0, 108, 0) :: (5, 1, 44, 111, 0) :: (0, 0, 1, 0, 0) :: (0, 2, 0, 0, 8) :: (1, 2, 0, 0, 0) :: (0, 0, 2, 0, 0) :: (1, 0, 0, 0, 0) :: (0, 2, 0, 0, 10) :: (1, 1, 0, 0, 0) :: (5, 2, 47, 0, 56) :: (4, 0, 0, 0, 0) :: (6, 3, 0, 0, 0) :: []) (by decide +kernel) h
  exact h2
/-! X12_version -/
theorem eg262_151_0_0 {n : Nat} {w : px_W} {r : Option Value × px_W} {x1 x2 : Int} (h : ec_E hb_X n 262 0 [(0, .inr (.inl 215)), (1, .inl x1), (2, .inl x2)] [] w r) : (True ∧ 0 ≤ ec_tw 10 ∧ ec_tw 10 < 1580) ∧ ∃ (v : Option Value) (w1 : px_W), ec_E hb_X n 182 0 [(0, .inl x1), (1, .inl 0), (2, .inl ((ec_rd w 152 (ec_tw 10)) - 1))] [] w (v, w1) ∧ ∀ zz : Int, v = ec_R zz → ec_W hb_A w1 → ec_E hb_X n 262 14 [(0, .inr (.inl 215)), (1, .inl x1), (2, .inl x2)] [.inl zz] w1 r := by
  have h2 := hb_ecw ((0, 0, 1, 0, 0) :: (0, 2, 0, 0, 0) :: (0, 1, 0, 0, 0) :: (5, 1, 151, 216, 0) :: (0, 2, 0, 0, 10) :: (5, 2, 152, 0, 1580) :: (0, 2, 0, 0, 1) :: (1, 1, 0, 0, 0) :: (6, 1, 182, 3, 14) :: []) (by decide +kernel) h
  exact h2
theorem eg262_151_14_0 {n : Nat} {w : px_W} {r : Option Value × px_W} {x1 x2 s0 : Int} (h : ec_E hb_X n 262 14 [(0, .inr (.inl 215)), (1, .inl x1), (2, .inl x2)] [.inl s0] w r) : ec_tw s0 ≠ ec_tw 0 → (True ∧ 0 ≤ ec_tw (374 + x1) ∧ ec_tw (374 + x1) < 1580) ∧ ∃ (v : Option Value) (w1 : px_W), ec_E hb_X n 260 0 [(0, .inr (.inl 215)), (1, .inl (380 + (200 * x1))), (2, .inl (ec_rd w 152 (ec_tw (374 + x1))))] [] w (v, w1) ∧ (v = none → ec_W hb_A w1 → ec_E hb_X n 262 42 [(0, .inr (.inl 215)), (1, .inl x1), (2, .inl x2)] [] w1 r) := by
  have h2 := hb_ecw ((4, 1, 1, 1, 0) :: (0, 1, 0, 0, 0) :: (0, 2, 0, 0, 380) :: (0, 2, 0, 0, 200) :: (0, 0, 1, 0, 0) :: (1, 2, 0, 0, 0) :: (1, 0, 0, 0, 0) :: (0, 1, 0, 0, 0) :: (5, 1, 151, 216, 0) :: (0, 2, 0, 0, 374) :: (0, 0, 1, 0, 0) :: (1, 0, 0, 0, 0) :: (5, 2, 152, 0, 1580) :: (6, 2, 260, 3, 42) :: []) (by decide +kernel) h
  exact h2
theorem eg262_151_14_1 {n : Nat} {w : px_W} {r : Option Value × px_W} {x1 x2 s0 : Int} (h : ec_E hb_X n 262 14 [(0, .inr (.inl 215)), (1, .inl x1), (2, .inl x2)] [.inl s0] w r) : ec_tw s0 = ec_tw 0 → True ∧ r = (ec_R (-1), w) ∧ ec_W hb_A w := by
  have h2 := hb_ecw ((4, 1, 0, 0, 0) :: (0, 2, 0, 0, (-1)) :: (6, 3, 0, 0, 0) :: []) (by decide +kernel) h
  exact h2
theorem eg262_151_42_0 {n : Nat} {w : px_W} {r : Option Value × px_W} {x1 x2 : Int} (h : ec_E hb_X n 262 42 [(0, .inr (.inl 215)), (1, .inl x1), (2, .inl x2)] [] w r) : ec_tw x2 = ec_tw 0 → ec_tw x2 ≠ ec_tw 0 → (True ∧ 0 ≤ ec_tw (368 + x1) ∧ ec_tw (368 + x1) < 1580) ∧ r = (ec_R (ec_rd w 152 (ec_tw (368 + x1))), w) ∧ ec_W hb_A w := by
  have h2 := hb_ecw ((0, 0, 2, 0, 0) :: (4, 1, 0, 1, 0) :: (0, 0, 2, 0, 0) :: (4, 1, 1, 1, 0) :: (0, 1, 0, 0, 0) :: (5, 1, 151, 216, 0) :: (0, 2, 0, 0, 368) :: (0, 0, 1, 0, 0) :: (1, 0, 0, 0, 0) :: (5, 2, 152, 0, 1580) :: (6, 3, 0, 0, 0) :: []) (by decide +kernel) h
  exact h2
theorem eg262_151_42_1 {n : Nat} {w : px_W} {r : Option Value × px_W} {x1 x2 : Int} (h : ec_E hb_X n 262 42 [(0, .inr (.inl 215)), (1, .inl x1), (2, .inl x2)] [] w r) : ec_tw x2 = ec_tw 0 → ec_tw x2 = ec_tw 0 → True ∧ r = (ec_R (ec_fd w 151 35), w) ∧ ec_W hb_A w := by
  have h2 := hb_ecw ((0, 0, 2, 0, 0) :: (4, 1, 0, 1, 0) :: (0, 0, 2, 0, 0) :: (4, 1, 0, 0, 0) :: (0, 1, 0, 0, 0) :: (5, 0, 151, 35, 0) :: (4, 0, 0, 0, 0) :: (6, 3, 0, 0, 0) :: []) (by decide +kernel) h
  exact h2
theorem eg262_151_42_2 {n : Nat} {w : px_W} {r : Option Value × px_W} {x1 x2 : Int} (h : ec_E hb_X n 262 42 [(0, .inr (.inl 215)), (1, .inl x1), (2, .inl x2)] [] w r) : ec_tw x2 ≠ ec_tw 0 → ec_tw x2 ≠ ec_tw 1 → True ∧ ∃ (v : Option Value) (w1 : px_W), ec_E hb_X n 182 0 [(0, .inl x2), (1, .inl 10), (2, .inl (9 + (ec_fd w 151 35)))] [] w (v, w1) ∧ ∀ zz : Int, v = ec_R zz → ec_W hb_A w1 → ec_E hb_X n 262 86 [(0, .inr (.inl 215)), (1, .inl x1), (2, .inl x2)] [.inl zz] w1 r := by
  have h2 := hb_ecw ((0, 0, 2, 0, 0) :: (4, 1, 1, 0, 0) :: (0, 0, 2, 0, 0) :: (0, 2, 0, 0, 1) :: (4, 2, 1, 1, 0) :: (0, 0, 2, 0, 0) :: (0, 2, 0, 0, 10) :: (0, 2, 0, 0, 9) :: (0, 1, 0, 0, 0) :: (5, 0, 151, 35, 0) :: (1, 0, 0, 0, 0) :: (6, 1, 182, 3, 86) :: []) (by decide +kernel) h
  exact h2
theorem eg262_151_42_3 {n : Nat} {w : px_W} {r : Option Value × px_W} {x1 x2 : Int} (h : ec_E hb_X n 262 42 [(0, .inr (.inl 215)), (1, .inl x1), (2, .inl x2)] [] w r) : ec_tw x2 ≠ ec_tw 0 → ec_tw x2 = ec_tw 1 → ec_tw x2 ≠ ec_tw 0 → (True ∧ 0 ≤ ec_tw (368 + x1) ∧ ec_tw (368 + x1) < 1580) ∧ r = (ec_R (ec_rd w 152 (ec_tw (368 + x1))), w) ∧ ec_W hb_A w := by
  have h2 := hb_ecw ((0, 0, 2, 0, 0) :: (4, 1, 1, 0, 0) :: (0, 0, 2, 0, 0) :: (0, 2, 0, 0, 1) :: (4, 2, 0, 0, 0) :: (0, 0, 2, 0, 0) :: (4, 1, 1, 1, 0) :: (0, 1, 0, 0, 0) :: (5, 1, 151, 216, 0) :: (0, 2, 0, 0, 368) :: (0, 0, 1, 0, 0) :: (1, 0, 0, 0, 0) :: (5, 2, 152, 0, 1580) :: (6, 3, 0, 0, 0) :: []) (by decide +kernel) h
  exact h2
theorem eg262_151_42_4 {n : Nat} {w : px_W} {r : Option Value × px_W} {x1 x2 : Int} (h : ec_E hb_X n 262 42 [(0, .inr (.inl 215)), (1, .inl x1), (2, .inl x2)] [] w r) : ec_tw x2 ≠ ec_tw 0 → ec_tw x2 = ec_tw 1 → ec_tw x2 = ec_tw 0 → True ∧ r = (ec_R (ec_fd w 151 35), w) ∧ ec_W hb_A w := by
  have h2 := hb_ecw ((0, 0, 2, 0, 0) :: (4, 1, 1, 0, 0) :: (0, 0, 2, 0, 0) :: (0, 2, 0, 0, 1) :: (4, 2, 0, 0, 0) :: (0, 0, 2, 0, 0) :: (4, 1, 0, 0, 0) :: (0, 1, 0, 0, 0) :: (5, 0, 151, 35, 0) :: (4, 0, 0, 0, 0) :: (6, 3, 0, 0, 0) :: []) (by decide +kernel) h
  exact h2
theorem eg262_151_86_0 {n : Nat} {w : px_W} {r : Option Value × px_W} {x1 x2 s0 : Int} (h : ec_E hb_X n 262 86 [(0, .inr (.inl 215)), (1, .inl x1), (2, .inl x2)] [.inl s0] w r) : ec_tw s0 = ec_tw 0 → True ∧ r = (ec_R (-1), w) ∧ ec_W hb_A w := by
  have h2 := hb_ecw ((4, 1, 0, 1, 0) :: (0, 2, 0, 0, (-1)) :: (6, 3, 0, 0, 0) :: []) (by decide +kernel) h
  exact h2
theorem eg262_151_86_1 {n : Nat} {w : px_W} {r : Option Value × px_W} {x1 x2 s0 : Int} (h : ec_E hb_X n 262 86 [(0, .inr (.inl 215)), (1, .inl x1), (2, .inl x2)] [.inl s0] w r) : ec_tw s0 ≠ ec_tw 0 → (True ∧ 0 ≤ ec_tw (x2 - 10) ∧ ec_tw (x2 - 10) < 8) ∧ r = (ec_R (ec_rd w 170 (ec_tw (x2 - 10))), w) ∧ ec_W hb_A w := by
  have h2 := hb_ecw ((4, 1, 1, 0, 0) :: (0, 1, 0, 0, 0) :: (5, 1, 151, 234, 0) :: (0, 0, 2, 0, 0) :: (0, 2, 0, 0, 10) :: (1, 1, 0, 0, 0) :: (5, 2, 170, 0, 8) :: (4, 0, 0, 0, 0) :: (6, 3, 0, 0, 0) :: []) (by decide +kernel) h
  exact h2

end

noncomputable section
/-! X10_add -/
theorem eg118_39_0_0 {n : Nat} {w : px_W} {r : Option Value × px_W} {x1 x2 : Int} (h : ec_E hb_X n 118 0 [(0, .inr (.inl 103)), (1, .inl x1), (2, .inl x2)] [] w r) : (True ∧ 0 ≤ ec_tw (ec_fd w 39 1) ∧ ec_tw (ec_fd w 39 1) < 12) ∧ ec_E hb_X n 118 10 [(0, .inr (.inl 103)), (1, .inl x1), (2, .inl x2)] [] (ec_wr w 41 (ec_tw (ec_fd w 39 1)) x1) r := by
  have h2 := hb_ecw ((0, 1, 0, 0, 0) :: (5, 1, 39, 105, 0) :: (0, 1, 0, 0, 0) :: (5, 0, 39, 1, 0) :: (0, 0, 1, 0, 0) :: (5, 3, 41, 0, 12) :: (6, 0, 10, 3, 0) :: []) (by decide +kernel) h
  exact h2
theorem eg118_39_10_0 {n : Nat} {w : px_W} {r : Option Value × px_W} {x1 x2 : Int} (h : ec_E hb_X n 118 10 [(0, .inr (.inl 103)), (1, .inl x1), (2, .inl x2)] [] w r) : (True ∧ 0 ≤ ec_tw (ec_fd w 39 1) ∧ ec_tw (ec_fd w 39 1) < 12) ∧ ec_E hb_X n 118 20 [(0, .inr (.inl 103)), (1, .inl x1), (2, .inl x2)] [] (ec_wr w 43 (ec_tw (ec_fd w 39 1)) x2) r := by
  have h2 := hb_ecw ((0, 1, 0, 0, 0) :: (5, 1, 39, 107, 0) :: (0, 1, 0, 0, 0) :: (5, 0, 39, 1, 0) :: (0, 0, 2, 0, 0) :: (5, 3, 43, 0, 12) :: (6, 0, 20, 3, 0) :: []) (by decide +kernel) h
  exact h2
theorem eg118_39_20_0 {n : Nat} {w : px_W} {r : Option Value × px_W} {x1 x2 : Int} (h : ec_E hb_X n 118 20 [(0, .inr (.inl 103)), (1, .inl x1), (2, .inl x2)] [] w r) : (True ∧ 0 ≤ ec_tw (ec_fd w 39 1) ∧ ec_tw (ec_fd w 39 1) < 12) ∧ ec_E hb_X n 118 30 [(0, .inr (.inl 103)), (1, .inl x1), (2, .inl x2)] [] (ec_wr w 42 (ec_tw (ec_fd w 39 1)) (-1)) r := by
  have h2 := hb_ecw ((0, 1, 0, 0, 0) :: (5, 1, 39, 106, 0) :: (0, 1, 0, 0, 0) :: (5, 0, 39, 1, 0) :: (0, 2, 0, 0, (-1)) :: (5, 3, 42, 0, 12) :: (6, 0, 30, 3, 0) :: []) (by decide +kernel) h
  exact h2
theorem eg118_39_30_0 {n : Nat} {w : px_W} {r : Option Value × px_W} {x1 x2 : Int} (h : ec_E hb_X n 118 30 [(0, .inr (.inl 103)), (1, .inl x1), (2, .inl x2)] [] w r) : True ∧ r = (ec_R (ec_fd w 39 1), ec_pf w 39 1 ((ec_fd w 39 1) + 1)) ∧ ec_W hb_A (ec_pf w 39 1 ((ec_fd w 39 1) + 1)) := by
  have h2 := hb_ecw ((0, 1, 0, 0, 0) :: (3, 0, 0, 0, 0) :: (5, 0, 39, 1, 0) :: (3, 2, 0, 0, 0) :: (0, 2, 0, 0, 1) :: (1, 0, 0, 0, 0) :: (5, 4, 39, 1, 0) :: (6, 3, 0, 0, 0) :: []) (by decide +kernel) h
  exact h2
/-! X11_sworn -/
theorem eg151_0_0_0 {n : Nat} {w : px_W} {r : Option Value × px_W} {x1 : Int} (h : ec_E hb_X n 151 0 [(0, .inr (.inl 64)), (1, .inl x1)] [] w r) : True ∧ ∃ (v : Option Value) (w1 : px_W), ec_E hb_X n 173 0 [(0, .inl x1), (1, .inl 0), (2, .inl ((ec_shl 1 (ec_fd w 39 1)) - 1))] [] w (v, w1) ∧ ∀ zz : Int, v = ec_R zz → ec_W hb_A w1 → ec_E hb_X n 151 16 [(0, .inr (.inl 64)), (1, .inl x1)] [.inl zz] w1 r := by
  have h2 := hb_ecw ((0, 0, 1, 0, 0) :: (0, 2, 0, 0, 0) :: (0, 2, 0, 0, 1) :: (0, 1, 0, 0, 0) :: (5, 1, 0, 103, 0) :: (5, 0, 39, 1, 0) :: (1, 6, 0, 0, 0) :: (0, 2, 0, 0, 1) :: (1, 1, 0, 0, 0) :: (6, 1, 173, 3, 16) :: []) (by decide +kernel) h
  exact h2
theorem eg151_0_16_0 {n : Nat} {w : px_W} {r : Option Value × px_W} {x1 s0 : Int} (h : ec_E hb_X n 151 16 [(0, .inr (.inl 64)), (1, .inl x1)] [.inl s0] w r) : ec_tw s0 ≠ ec_tw 0 → ec_tw (ec_fd w 39 1) < ec_tw 12 → True ∧ ∃ (v : Option Value) (w1 : px_W), ec_E hb_X n 118 0 [(0, .inr (.inl 103)), (1, .inl x1), (2, .inl (ec_fd w 1 0))] [] w (v, w1) ∧ ∀ zz : Int, v = ec_R zz → ec_W hb_A w1 → ec_E hb_X n 151 53 [(0, .inr (.inl 64)), (1, .inl x1)] [.inl zz] w1 r := by
  have h2 := hb_ecw ((4, 1, 1, 1, 0) :: (0, 1, 0, 0, 0) :: (5, 1, 0, 103, 0) :: (5, 0, 39, 1, 0) :: (0, 2, 0, 0, 12) :: (4, 2, 2, 1, 0) :: (0, 1, 0, 0, 0) :: (5, 1, 0, 103, 0) :: (0, 0, 1, 0, 0) :: (0, 1, 0, 0, 0) :: (5, 1, 0, 65, 0) :: (5, 0, 1, 0, 0) :: (6, 1, 118, 3, 53) :: []) (by decide +kernel) h
  exact h2
theorem eg151_0_16_1 {n : Nat} {w : px_W} {r : Option Value × px_W} {x1 s0 : Int} (h : ec_E hb_X n 151 16 [(0, .inr (.inl 64)), (1, .inl x1)] [.inl s0] w r) : ec_tw s0 ≠ ec_tw 0 → ec_tw 12 ≤ ec_tw (ec_fd w 39 1) → True ∧ r = (ec_R (-2), w) ∧ ec_W hb_A w := by
  have h2 := hb_ecw ((4, 1, 1, 1, 0) :: (0, 1, 0, 0, 0) :: (5, 1, 0, 103, 0) :: (5, 0, 39, 1, 0) :: (0, 2, 0, 0, 12) :: (4, 2, 3, 0, 0) :: (0, 2, 0, 0, (-2)) :: (4, 0, 0, 0, 0) :: (6, 3, 0, 0, 0) :: []) (by decide +kernel) h
  exact h2
theorem eg151_0_16_2 {n : Nat} {w : px_W} {r : Option Value × px_W} {x1 s0 : Int} (h : ec_E hb_X n 151 16 [(0, .inr (.inl 64)), (1, .inl x1)] [.inl s0] w r) : ec_tw s0 = ec_tw 0 → True ∧ r = (ec_R (-1), w) ∧ ec_W hb_A w := by
  have h2 := hb_ecw ((4, 1, 0, 0, 0) :: (0, 2, 0, 0, (-1)) :: (6, 3, 0, 0, 0) :: []) (by decide +kernel) h
  exact h2
theorem eg151_0_53_0 {n : Nat} {w : px_W} {r : Option Value × px_W} {x1 s0 : Int} (h : ec_E hb_X n 151 53 [(0, .inr (.inl 64)), (1, .inl x1)] [.inl s0] w r) : True ∧ r = (ec_R s0, w) ∧ ec_W hb_A w := by
  have h2 := hb_ecw ((6, 3, 0, 0, 0) :: []) (by decide +kernel) h
  exact h2
/-! X12_sworn -/
theorem eg243_151_0_0 {n : Nat} {w : px_W} {r : Option Value × px_W} {x1 : Int} (h : ec_E hb_X n 243 0 [(0, .inr (.inl 215)), (1, .inl x1)] [] w r) : ec_tw x1 < ec_tw 0 → True ∧ r = (ec_R (-1), w) ∧ ec_W hb_A w := by
  have h2 := hb_ecw ((0, 0, 1, 0, 0) :: (4, 1, 2, 1, 0) :: (0, 2, 0, 0, (-1)) :: (6, 3, 0, 0, 0) :: []) (by decide +kernel) h
  exact h2
theorem eg243_151_0_1 {n : Nat} {w : px_W} {r : Option Value × px_W} {x1 : Int} (h : ec_E hb_X n 243 0 [(0, .inr (.inl 215)), (1, .inl x1)] [] w r) : ec_tw 0 ≤ ec_tw x1 → ec_tw (ec_shr x1 (ec_rd w 152 (ec_tw 9))) = ec_tw 0 → ec_tw (ec_rd w 152 (ec_tw 9)) ≠ ec_tw 12 → (((True ∧ 0 ≤ ec_tw 9 ∧ ec_tw 9 < 1580) ∧ 0 ≤ ec_tw 9 ∧ ec_tw 9 < 1580) ∧ 0 ≤ ec_tw 9 ∧ ec_tw 9 < 1580) ∧ ec_E hb_X n 243 47 [(0, .inr (.inl 215)), (1, .inl x1), (2, .inl (318 + (3 * (ec_rd w 152 (ec_tw 9)))))] [] w r := by
  have h2 := hb_ecw ((0, 0, 1, 0, 0) :: (4, 1, 3, 0, 0) :: (0, 0, 1, 0, 0) :: (0, 1, 0, 0, 0) :: (5, 1, 151, 216, 0) :: (0, 2, 0, 0, 9) :: (5, 2, 152, 0, 1580) :: (1, 7, 0, 0, 0) :: (4, 1, 0, 1, 0) :: (0, 1, 0, 0, 0) :: (5, 1, 151, 216, 0) :: (0, 2, 0, 0, 9) :: (5, 2, 152, 0, 1580) :: (0, 2, 0, 0, 12) :: (4, 2, 1, 1, 0) :: (0, 2, 0, 0, 318) :: (0, 2, 0, 0, 3) :: (0, 1, 0, 0, 0) :: (5, 1, 151, 216, 0) :: (0, 2, 0, 0, 9) :: (5, 2, 152, 0, 1580) :: (1, 2, 0, 0, 0) :: (1, 0, 0, 0, 0) :: (0, 3, 2, 0, 0) :: (6, 0, 47, 3, 0) :: []) (by decide +kernel) h
  exact h2
theorem eg243_151_0_2 {n : Nat} {w : px_W} {r : Option Value × px_W} {x1 : Int} (h : ec_E hb_X n 243 0 [(0, .inr (.inl 215)), (1, .inl x1)] [] w r) : ec_tw 0 ≤ ec_tw x1 → ec_tw (ec_shr x1 (ec_rd w 152 (ec_tw 9))) = ec_tw 0 → ec_tw (ec_rd w 152 (ec_tw 9)) = ec_tw 12 → ((True ∧ 0 ≤ ec_tw 9 ∧ ec_tw 9 < 1580) ∧ 0 ≤ ec_tw 9 ∧ ec_tw 9 < 1580) ∧ r = (ec_R (-2), w) ∧ ec_W hb_A w := by
  have h2 := hb_ecw ((0, 0, 1, 0, 0) :: (4, 1, 3, 0, 0) :: (0, 0, 1, 0, 0) :: (0, 1, 0, 0, 0) :: (5, 1, 151, 216, 0) :: (0, 2, 0, 0, 9) :: (5, 2, 152, 0, 1580) :: (1, 7, 0, 0, 0) :: (4, 1, 0, 1, 0) :: (0, 1, 0, 0, 0) :: (5, 1, 151, 216, 0) :: (0, 2, 0, 0, 9) :: (5, 2, 152, 0, 1580) :: (0, 2, 0, 0, 12) :: (4, 2, 0, 0, 0) :: (0, 2, 0, 0, (-2)) :: (6, 3, 0, 0, 0) :: []) (by decide +kernel) h
  exact h2
theorem eg243_151_0_3 {n : Nat} {w : px_W} {r : Option Value × px_W} {x1 : Int} (h : ec_E hb_X n 243 0 [(0, .inr (.inl 215)), (1, .inl x1)] [] w r) : ec_tw 0 ≤ ec_tw x1 → ec_tw (ec_shr x1 (ec_rd w 152 (ec_tw 9))) ≠ ec_tw 0 → (True ∧ 0 ≤ ec_tw 9 ∧ ec_tw 9 < 1580) ∧ r = (ec_R (-1), w) ∧ ec_W hb_A w := by
  have h2 := hb_ecw ((0, 0, 1, 0, 0) :: (4, 1, 3, 0, 0) :: (0, 0, 1, 0, 0) :: (0, 1, 0, 0, 0) :: (5, 1, 151, 216, 0) :: (0, 2, 0, 0, 9) :: (5, 2, 152, 0, 1580) :: (1, 7, 0, 0, 0) :: (4, 1, 1, 0, 0) :: (0, 2, 0, 0, (-1)) :: (6, 3, 0, 0, 0) :: []) (by decide +kernel) h
  exact h2
theorem eg243_151_47_0 {n : Nat} {w : px_W} {r : Option Value × px_W} {x1 x2 : Int} (h : ec_E hb_X n 243 47 [(0, .inr (.inl 215)), (1, .inl x1), (2, .inl x2)] [] w r) : ((True ∧ 0 ≤ ec_tw 0 ∧ ec_tw 0 < 1580) ∧ 0 ≤ ec_tw x2 ∧ ec_tw x2 < 1580) ∧ ec_E hb_X n 243 59 [(0, .inr (.inl 215)), (1, .inl x1), (2, .inl x2)] [] (ec_wr w 152 (ec_tw x2) (ec_rd w 152 (ec_tw 0))) r := by
  have h2 := hb_ecw ((0, 1, 0, 0, 0) :: (5, 1, 151, 216, 0) :: (0, 0, 2, 0, 0) :: (0, 1, 0, 0, 0) :: (5, 1, 151, 216, 0) :: (0, 2, 0, 0, 0) :: (5, 2, 152, 0, 1580) :: (5, 3, 152, 0, 1580) :: (6, 0, 59, 3, 0) :: []) (by decide +kernel) h
  exact h2
theorem eg243_151_59_0 {n : Nat} {w : px_W} {r : Option Value × px_W} {x1 x2 : Int} (h : ec_E hb_X n 243 59 [(0, .inr (.inl 215)), (1, .inl x1), (2, .inl x2)] [] w r) : (True ∧ 0 ≤ ec_tw (x2 + 1) ∧ ec_tw (x2 + 1) < 1580) ∧ ec_E hb_X n 243 68 [(0, .inr (.inl 215)), (1, .inl x1), (2, .inl x2)] [] (ec_wr w 152 (ec_tw (x2 + 1)) x1) r := by
  have h2 := hb_ecw ((0, 1, 0, 0, 0) :: (5, 1, 151, 216, 0) :: (0, 0, 2, 0, 0) :: (0, 2, 0, 0, 1) :: (1, 0, 0, 0, 0) :: (0, 0, 1, 0, 0) :: (5, 3, 152, 0, 1580) :: (6, 0, 68, 3, 0) :: []) (by decide +kernel) h
  exact h2
theorem eg243_151_68_0 {n : Nat} {w : px_W} {r : Option Value × px_W} {x1 x2 : Int} (h : ec_E hb_X n 243 68 [(0, .inr (.inl 215)), (1, .inl x1), (2, .inl x2)] [] w r) : (True ∧ 0 ≤ ec_tw (x2 + 2) ∧ ec_tw (x2 + 2) < 1580) ∧ ec_E hb_X n 243 77 [(0, .inr (.inl 215)), (1, .inl x1), (2, .inl x2)] [] (ec_wr w 152 (ec_tw (x2 + 2)) (-1)) r := by
  have h2 := hb_ecw ((0, 1, 0, 0, 0) :: (5, 1, 151, 216, 0) :: (0, 0, 2, 0, 0) :: (0, 2, 0, 0, 2) :: (1, 0, 0, 0, 0) :: (0, 2, 0, 0, (-1)) :: (5, 3, 152, 0, 1580) :: (6, 0, 77, 3, 0) :: []) (by decide +kernel) h
  exact h2
theorem eg243_151_77_0 {n : Nat} {w : px_W} {r : Option Value × px_W} {x1 x2 : Int} (h : ec_E hb_X n 243 77 [(0, .inr (.inl 215)), (1, .inl x1), (2, .inl x2)] [] w r) : ((True ∧ 0 ≤ ec_tw 9 ∧ ec_tw 9 < 1580) ∧ 0 ≤ ec_tw 9 ∧ ec_tw 9 < 1580) ∧ ec_E hb_X n 243 88 [(0, .inr (.inl 215)), (1, .inl x1), (2, .inl x2)] [] (ec_wr w 152 (ec_tw 9) ((ec_rd w 152 (ec_tw 9)) + 1)) r := by
  have h2 := hb_ecw ((0, 1, 0, 0, 0) :: (5, 1, 151, 216, 0) :: (0, 2, 0, 0, 9) :: (3, 3, 0, 0, 0) :: (5, 2, 152, 0, 1580) :: (0, 2, 0, 0, 1) :: (1, 0, 0, 0, 0) :: (5, 3, 152, 0, 1580) :: (6, 0, 88, 3, 0) :: []) (by decide +kernel) h
  exact h2
theorem eg243_151_88_0 {n : Nat} {w : px_W} {r : Option Value × px_W} {x1 x2 : Int} (h : ec_E hb_X n 243 88 [(0, .inr (.inl 215)), (1, .inl x1), (2, .inl x2)] [] w r) : (True ∧ 0 ≤ ec_tw 9 ∧ ec_tw 9 < 1580) ∧ r = (ec_R ((ec_rd w 152 (ec_tw 9)) - 1), w) ∧ ec_W hb_A w := by
  have h2 := hb_ecw ((0, 1, 0, 0, 0) :: (5, 1, 151, 216, 0) :: (0, 2, 0, 0, 9) :: (5, 2, 152, 0, 1580) :: (0, 2, 0, 0, 1) :: (1, 1, 0, 0, 0) :: (6, 3, 0, 0, 0) :: []) (by decide +kernel) h
  exact h2

end

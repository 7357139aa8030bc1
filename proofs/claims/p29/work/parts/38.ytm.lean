noncomputable section
/-! X11_sure -/
theorem eg148_0_0_0 {n : Nat} {w : px_W} {r : Option Value × px_W} {x1 : Int} (h : ec_E hb_X n 148 0 [(0, .inr (.inl 64)), (1, .inl x1)] [] w r) : True ∧ ∃ (v : Option Value) (w1 : px_W), ec_E hb_X n 173 0 [(0, .inl x1), (1, .inl 0), (2, .inl ((ec_fd w 29 9) - 1))] [] w (v, w1) ∧ ∀ zz : Int, v = ec_R zz → ec_W hb_A w1 → ec_E hb_X n 148 14 [(0, .inr (.inl 64)), (1, .inl x1)] [.inl zz] w1 r := by
  have h2 := hb_ecw ((0, 0, 1, 0, 0) :: (0, 2, 0, 0, 0) :: (0, 1, 0, 0, 0) :: (5, 1, 0, 93, 0) :: (5, 0, 29, 9, 0) :: (0, 2, 0, 0, 1) :: (1, 1, 0, 0, 0) :: (6, 1, 173, 3, 14) :: []) (by decide +kernel) h
  exact h2
theorem eg148_0_14_0 {n : Nat} {w : px_W} {r : Option Value × px_W} {x1 s0 : Int} (h : ec_E hb_X n 148 14 [(0, .inr (.inl 64)), (1, .inl x1)] [.inl s0] w r) : ec_tw s0 ≠ ec_tw 0 → True ∧ ∃ (v : Option Value) (w1 : px_W), ec_E hb_X n 95 0 [(0, .inr (.inl 93)), (1, .inl x1)] [] w (v, w1) ∧ ∀ zz : Int, v = ec_R zz → ec_W hb_A w1 → ec_E hb_X n 148 27 [(0, .inr (.inl 64)), (1, .inl x1)] [.inl zz] w1 r := by
  have h2 := hb_ecw ((4, 1, 1, 1, 0) :: (0, 1, 0, 0, 0) :: (5, 1, 0, 93, 0) :: (0, 0, 1, 0, 0) :: (6, 1, 95, 2, 27) :: []) (by decide +kernel) h
  exact h2
theorem eg148_0_14_1 {n : Nat} {w : px_W} {r : Option Value × px_W} {x1 s0 : Int} (h : ec_E hb_X n 148 14 [(0, .inr (.inl 64)), (1, .inl x1)] [.inl s0] w r) : ec_tw s0 = ec_tw 0 → True ∧ r = (ec_R (-1), w) ∧ ec_W hb_A w := by
  have h2 := hb_ecw ((4, 1, 0, 0, 0) :: (0, 2, 0, 0, (-1)) :: (6, 3, 0, 0, 0) :: []) (by decide +kernel) h
  exact h2
theorem eg148_0_27_0 {n : Nat} {w : px_W} {r : Option Value × px_W} {x1 s0 : Int} (h : ec_E hb_X n 148 27 [(0, .inr (.inl 64)), (1, .inl x1)] [.inl s0] w r) : True ∧ ∃ (v : Option Value) (w1 : px_W), ec_E hb_X n 294 0 [(0, .inl s0)] [] w (v, w1) ∧ ∀ zz : Int, v = ec_R zz → ec_W hb_A w1 → ec_E hb_X n 148 32 [(0, .inr (.inl 64)), (1, .inl x1), (2, .inl s0)] [.inl zz] w1 r := by
  have h2 := hb_ecw ((0, 3, 2, 0, 0) :: (0, 0, 2, 0, 0) :: (6, 1, 294, 1, 32) :: []) (by decide +kernel) h
  exact h2
theorem eg148_0_32_0 {n : Nat} {w : px_W} {r : Option Value × px_W} {x1 x2 s0 : Int} (h : ec_E hb_X n 148 32 [(0, .inr (.inl 64)), (1, .inl x1), (2, .inl x2)] [.inl s0] w r) : ec_tw s0 ≠ ec_tw 1 → True ∧ r = (ec_R (-3), w) ∧ ec_W hb_A w := by
  have h2 := hb_ecw ((0, 2, 0, 0, 1) :: (4, 2, 1, 1, 0) :: (0, 2, 0, 0, (-3)) :: (6, 3, 0, 0, 0) :: []) (by decide +kernel) h
  exact h2
theorem eg148_0_32_1 {n : Nat} {w : px_W} {r : Option Value × px_W} {x1 x2 s0 : Int} (h : ec_E hb_X n 148 32 [(0, .inr (.inl 64)), (1, .inl x1), (2, .inl x2)] [.inl s0] w r) : ec_tw s0 = ec_tw 1 → True ∧ ∃ (v : Option Value) (w1 : px_W), ec_E hb_X n 175 0 [(0, .inl x2)] [] w (v, w1) ∧ ∀ zz : Int, v = ec_R zz → ec_W hb_A w1 → ec_E hb_X n 148 40 [(0, .inr (.inl 64)), (1, .inl x1), (2, .inl x2)] [.inl zz] w1 r := by
  have h2 := hb_ecw ((0, 2, 0, 0, 1) :: (4, 2, 0, 0, 0) :: (0, 0, 2, 0, 0) :: (6, 1, 175, 1, 40) :: []) (by decide +kernel) h
  exact h2
theorem eg148_0_40_0 {n : Nat} {w : px_W} {r : Option Value × px_W} {x1 x2 s0 : Int} (h : ec_E hb_X n 148 40 [(0, .inr (.inl 64)), (1, .inl x1), (2, .inl x2)] [.inl s0] w r) : True ∧ r = (ec_R s0, w) ∧ ec_W hb_A w := by
  have h2 := hb_ecw ((4, 0, 0, 0, 0) :: (6, 3, 0, 0, 0) :: []) (by decide +kernel) h
  exact h2
/-! X12_sure -/
theorem eg240_151_0_0 {n : Nat} {w : px_W} {r : Option Value × px_W} {x1 : Int} (h : ec_E hb_X n 240 0 [(0, .inr (.inl 215)), (1, .inl x1)] [] w r) : True ∧ ∃ (v : Option Value) (w1 : px_W), ec_E hb_X n 237 0 [(0, .inr (.inl 215)), (1, .inl x1)] [] w (v, w1) ∧ ∀ zz : Int, v = ec_R zz → ec_W hb_A w1 → ec_E hb_X n 240 5 [(0, .inr (.inl 215)), (1, .inl x1)] [.inl zz] w1 r := by
  have h2 := hb_ecw ((0, 1, 0, 0, 0) :: (0, 0, 1, 0, 0) :: (6, 1, 237, 2, 5) :: []) (by decide +kernel) h
  exact h2
theorem eg240_151_5_0 {n : Nat} {w : px_W} {r : Option Value × px_W} {x1 s0 : Int} (h : ec_E hb_X n 240 5 [(0, .inr (.inl 215)), (1, .inl x1)] [.inl s0] w r) : ec_tw s0 ≠ ec_tw 0 → True ∧ ∃ (v : Option Value) (w1 : px_W), ec_E hb_X n 238 0 [(0, .inr (.inl 215)), (1, .inl x1)] [] w (v, w1) ∧ ∀ zz : Int, v = ec_R zz → ec_W hb_A w1 → ec_E hb_X n 240 15 [(0, .inr (.inl 215)), (1, .inl x1)] [.inl zz] w1 r := by
  have h2 := hb_ecw ((4, 1, 1, 1, 0) :: (0, 1, 0, 0, 0) :: (0, 0, 1, 0, 0) :: (6, 1, 238, 2, 15) :: []) (by decide +kernel) h
  exact h2
theorem eg240_151_5_1 {n : Nat} {w : px_W} {r : Option Value × px_W} {x1 s0 : Int} (h : ec_E hb_X n 240 5 [(0, .inr (.inl 215)), (1, .inl x1)] [.inl s0] w r) : ec_tw s0 = ec_tw 0 → True ∧ r = (ec_R (-1), w) ∧ ec_W hb_A w := by
  have h2 := hb_ecw ((4, 1, 0, 0, 0) :: (0, 2, 0, 0, (-1)) :: (6, 3, 0, 0, 0) :: []) (by decide +kernel) h
  exact h2
theorem eg240_151_15_0 {n : Nat} {w : px_W} {r : Option Value × px_W} {x1 s0 : Int} (h : ec_E hb_X n 240 15 [(0, .inr (.inl 215)), (1, .inl x1)] [.inl s0] w r) : True ∧ ∃ (v : Option Value) (w1 : px_W), ec_E hb_X n 200 0 [(0, .inl s0)] [] w (v, w1) ∧ ∀ zz : Int, v = ec_R zz → ec_W hb_A w1 → ec_E hb_X n 240 20 [(0, .inr (.inl 215)), (1, .inl x1), (2, .inl s0)] [.inl zz] w1 r := by
  have h2 := hb_ecw ((0, 3, 2, 0, 0) :: (0, 0, 2, 0, 0) :: (6, 1, 200, 1, 20) :: []) (by decide +kernel) h
  exact h2
theorem eg240_151_20_0 {n : Nat} {w : px_W} {r : Option Value × px_W} {x1 x2 s0 : Int} (h : ec_E hb_X n 240 20 [(0, .inr (.inl 215)), (1, .inl x1), (2, .inl x2)] [.inl s0] w r) : ec_tw s0 = ec_tw 1 → True ∧ ec_E hb_X n 240 29 [(0, .inr (.inl 215)), (1, .inl x1), (2, .inl x2), (3, .inl 0)] [] w r := by
  have h2 := hb_ecw ((0, 2, 0, 0, 1) :: (4, 2, 0, 1, 0) :: (0, 2, 0, 0, 0) :: (0, 3, 3, 0, 0) :: (6, 0, 29, 4, 0) :: []) (by decide +kernel) h
  exact h2
theorem eg240_151_20_1 {n : Nat} {w : px_W} {r : Option Value × px_W} {x1 x2 s0 : Int} (h : ec_E hb_X n 240 20 [(0, .inr (.inl 215)), (1, .inl x1), (2, .inl x2)] [.inl s0] w r) : ec_tw s0 ≠ ec_tw 1 → True ∧ r = (ec_R (-3), w) ∧ ec_W hb_A w := by
  have h2 := hb_ecw ((0, 2, 0, 0, 1) :: (4, 2, 1, 0, 0) :: (0, 2, 0, 0, (-3)) :: (6, 3, 0, 0, 0) :: []) (by decide +kernel) h
  exact h2
theorem eg240_151_29_0 {n : Nat} {w : px_W} {r : Option Value × px_W} {x1 x2 x3 : Int} (h : ec_E hb_X n 240 29 [(0, .inr (.inl 215)), (1, .inl x1), (2, .inl x2), (3, .inl x3)] [] w r) : ec_tw (ec_shr x2 x3) = ec_tw 1 → True ∧ r = (ec_R x3, w) ∧ ec_W hb_A w := by
  have h2 := hb_ecw ((0, 0, 2, 0, 0) :: (0, 0, 3, 0, 0) :: (1, 7, 0, 0, 0) :: (0, 2, 0, 0, 1) :: (4, 2, 0, 1, 0) :: (0, 0, 3, 0, 0) :: (6, 3, 0, 0, 0) :: []) (by decide +kernel) h
  exact h2
theorem eg240_151_29_1 {n : Nat} {w : px_W} {r : Option Value × px_W} {x1 x2 x3 : Int} (h : ec_E hb_X n 240 29 [(0, .inr (.inl 215)), (1, .inl x1), (2, .inl x2), (3, .inl x3)] [] w r) : ec_tw (ec_shr x2 x3) ≠ ec_tw 1 → True ∧ ec_E hb_X n 240 29 [(0, .inr (.inl 215)), (1, .inl x1), (2, .inl x2), (3, .inl (x3 + 1))] [] w r := by
  have h2 := hb_ecw ((0, 0, 2, 0, 0) :: (0, 0, 3, 0, 0) :: (1, 7, 0, 0, 0) :: (0, 2, 0, 0, 1) :: (4, 2, 1, 0, 0) :: (0, 5, 3, 0, 1) :: (4, 0, 0, 0, 0) :: (6, 0, 29, 4, 0) :: []) (by decide +kernel) h
  exact h2
/-! X12_ones -/
theorem eg200_0_0 {n : Nat} {w : px_W} {r : Option Value × px_W} {x0 : Int} (h : ec_E hb_X n 200 0 [(0, .inl x0)] [] w r) : True ∧ ec_E hb_X n 200 4 [(0, .inl x0), (1, .inl 0), (2, .inl 0)] [] w r := by
  have h2 := hb_ecw ((0, 2, 0, 0, 0) :: (0, 3, 1, 0, 0) :: (0, 2, 0, 0, 0) :: (0, 3, 2, 0, 0) :: (6, 0, 4, 3, 0) :: []) (by decide +kernel) h
  exact h2
theorem eg200_4_0 {n : Nat} {w : px_W} {r : Option Value × px_W} {x0 x1 x2 : Int} (h : ec_E hb_X n 200 4 [(0, .inl x0), (1, .inl x1), (2, .inl x2)] [] w r) : ec_tw 30 ≤ ec_tw x2 → True ∧ r = (ec_R x1, w) ∧ ec_W hb_A w := by
  have h2 := hb_ecw ((0, 0, 2, 0, 0) :: (0, 2, 0, 0, 30) :: (4, 2, 3, 1, 0) :: (0, 0, 1, 0, 0) :: (6, 3, 0, 0, 0) :: []) (by decide +kernel) h
  exact h2
theorem eg200_4_1 {n : Nat} {w : px_W} {r : Option Value × px_W} {x0 x1 x2 : Int} (h : ec_E hb_X n 200 4 [(0, .inl x0), (1, .inl x1), (2, .inl x2)] [] w r) : ec_tw x2 < ec_tw 30 → True ∧ ec_E hb_X n 200 4 [(0, .inl x0), (1, .inl (x1 + (ec_and (ec_shr x0 x2) 1))), (2, .inl (x2 + 1))] [] w r := by
  have h2 := hb_ecw ((0, 0, 2, 0, 0) :: (0, 2, 0, 0, 30) :: (4, 2, 2, 0, 0) :: (0, 0, 1, 0, 0) :: (0, 0, 0, 0, 0) :: (0, 0, 2, 0, 0) :: (1, 7, 0, 0, 0) :: (0, 2, 0, 0, 1) :: (1, 3, 0, 0, 0) :: (1, 0, 0, 0, 0) :: (0, 3, 1, 0, 0) :: (0, 5, 2, 0, 1) :: (4, 0, 0, 0, 0) :: (6, 0, 4, 3, 0) :: []) (by decide +kernel) h
  exact h2
/-! J6_bitCount_0f7a4 -/
theorem eg294_0_0 {n : Nat} {w : px_W} {r : Option Value × px_W} {x0 : Int} (h : ec_E hb_X n 294 0 [(0, .inl x0)] [] w r) : True ∧ r = (ec_R (ec_and (((ec_and (((ec_and (x0 - (ec_and (ec_ush x0 1) 1431655765)) 858993459) + (ec_and (ec_ush (x0 - (ec_and (ec_ush x0 1) 1431655765)) 2) 858993459)) + (ec_ush ((ec_and (x0 - (ec_and (ec_ush x0 1) 1431655765)) 858993459) + (ec_and (ec_ush (x0 - (ec_and (ec_ush x0 1) 1431655765)) 2) 858993459)) 4)) 252645135) + (ec_ush (ec_and (((ec_and (x0 - (ec_and (ec_ush x0 1) 1431655765)) 858993459) + (ec_and (ec_ush (x0 - (ec_and (ec_ush x0 1) 1431655765)) 2) 858993459)) + (ec_ush ((ec_and (x0 - (ec_and (ec_ush x0 1) 1431655765)) 858993459) + (ec_and (ec_ush (x0 - (ec_and (ec_ush x0 1) 1431655765)) 2) 858993459)) 4)) 252645135) 8)) + (ec_ush ((ec_and (((ec_and (x0 - (ec_and (ec_ush x0 1) 1431655765)) 858993459) + (ec_and (ec_ush (x0 - (ec_and (ec_ush x0 1) 1431655765)) 2) 858993459)) + (ec_ush ((ec_and (x0 - (ec_and (ec_ush x0 1) 1431655765)) 858993459) + (ec_and (ec_ush (x0 - (ec_and (ec_ush x0 1) 1431655765)) 2) 858993459)) 4)) 252645135) + (ec_ush (ec_and (((ec_and (x0 - (ec_and (ec_ush x0 1) 1431655765)) 858993459) + (ec_and (ec_ush (x0 - (ec_and (ec_ush x0 1) 1431655765)) 2) 858993459)) + (ec_ush ((ec_and (x0 - (ec_and (ec_ush x0 1) 1431655765)) 858993459) + (ec_and (ec_ush (x0 - (ec_and (ec_ush x0 1) 1431655765)) 2) 858993459)) 4)) 252645135) 8)) 16)) 63), w) ∧ ec_W hb_A w := by
  have h2 := hb_ecw ((0, 0, 0, 0, 0) :: (0, 0, 0, 0, 0) :: (0, 2, 0, 0, 1) :: (1, 8, 0, 0, 0) :: (0, 2, 0, 0, 1431655765) :: (1, 3, 0, 0, 0) :: (1, 1, 0, 0, 0) :: (0, 3, 0, 0, 0) :: (0, 0, 0, 0, 0) :: (0, 2, 0, 0, 858993459) :: (1, 3, 0, 0, 0) :: (0, 0, 0, 0, 0) :: (0, 2, 0, 0, 2) :: (1, 8, 0, 0, 0) :: (0, 2, 0, 0, 858993459) :: (1, 3, 0, 0, 0) :: (1, 0, 0, 0, 0) :: (0, 3, 0, 0, 0) :: (0, 0, 0, 0, 0) :: (0, 0, 0, 0, 0) :: (0, 2, 0, 0, 4) :: (1, 8, 0, 0, 0) :: (1, 0, 0, 0, 0) :: (0, 2, 0, 0, 252645135) :: (1, 3, 0, 0, 0) :: (0, 3, 0, 0, 0) :: (0, 0, 0, 0, 0) :: (0, 0, 0, 0, 0) :: (0, 2, 0, 0, 8) :: (1, 8, 0, 0, 0) :: (1, 0, 0, 0, 0) :: (0, 3, 0, 0, 0) :: (0, 0, 0, 0, 0) :: (0, 0, 0, 0, 0) :: (0, 2, 0, 0, 16) :: (1, 8, 0, 0, 0) :: (1, 0, 0, 0, 0) :: (0, 3, 0, 0, 0) :: (0, 0, 0, 0, 0) :: (0, 2, 0, 0, 63) :: (1, 3, 0, 0, 0) :: (6, 3, 0, 0, 0) :: []) (by decide +kernel) h
  exact h2
/-! X11_lowestBit -/
theorem eg175_0_0 {n : Nat} {w : px_W} {r : Option Value × px_W} {x0 : Int} (h : ec_E hb_X n 175 0 [(0, .inl x0)] [] w r) : True ∧ ec_E hb_X n 175 2 [(0, .inl x0), (1, .inl 0)] [] w r := by
  have h2 := hb_ecw ((0, 2, 0, 0, 0) :: (0, 3, 1, 0, 0) :: (6, 0, 2, 2, 0) :: []) (by decide +kernel) h
  exact h2
theorem eg175_2_0 {n : Nat} {w : px_W} {r : Option Value × px_W} {x0 x1 : Int} (h : ec_E hb_X n 175 2 [(0, .inl x0), (1, .inl x1)] [] w r) : ec_tw 31 ≤ ec_tw x1 → True ∧ r = (ec_R x1, w) ∧ ec_W hb_A w := by
  have h2 := hb_ecw ((0, 0, 1, 0, 0) :: (0, 2, 0, 0, 31) :: (4, 2, 3, 1, 0) :: (0, 0, 1, 0, 0) :: (6, 3, 0, 0, 0) :: []) (by decide +kernel) h
  exact h2
theorem eg175_2_1 {n : Nat} {w : px_W} {r : Option Value × px_W} {x0 x1 : Int} (h : ec_E hb_X n 175 2 [(0, .inl x0), (1, .inl x1)] [] w r) : ec_tw x1 < ec_tw 31 → ec_tw (ec_and (ec_shr x0 x1) 1) ≠ ec_tw 0 → True ∧ r = (ec_R x1, w) ∧ ec_W hb_A w := by
  have h2 := hb_ecw ((0, 0, 1, 0, 0) :: (0, 2, 0, 0, 31) :: (4, 2, 2, 0, 0) :: (0, 0, 0, 0, 0) :: (0, 0, 1, 0, 0) :: (1, 7, 0, 0, 0) :: (0, 2, 0, 0, 1) :: (1, 3, 0, 0, 0) :: (4, 1, 1, 1, 0) :: (0, 0, 1, 0, 0) :: (6, 3, 0, 0, 0) :: []) (by decide +kernel) h
  exact h2
theorem eg175_2_2 {n : Nat} {w : px_W} {r : Option Value × px_W} {x0 x1 : Int} (h : ec_E hb_X n 175 2 [(0, .inl x0), (1, .inl x1)] [] w r) : ec_tw x1 < ec_tw 31 → ec_tw (ec_and (ec_shr x0 x1) 1) = ec_tw 0 → True ∧ ec_E hb_X n 175 2 [(0, .inl x0), (1, .inl (x1 + 1))] [] w r := by
  have h2 := hb_ecw ((0, 0, 1, 0, 0) :: (0, 2, 0, 0, 31) :: (4, 2, 2, 0, 0) :: (0, 0, 0, 0, 0) :: (0, 0, 1, 0, 0) :: (1, 7, 0, 0, 0) :: (0, 2, 0, 0, 1) :: (1, 3, 0, 0, 0) :: (4, 1, 0, 0, 0) :: (0, 5, 1, 0, 1) :: (4, 0, 0, 0, 0) :: (6, 0, 2, 2, 0) :: []) (by decide +kernel) h
  exact h2

end

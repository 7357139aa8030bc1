noncomputable section
/-! J0_coder_7d493 -/
theorem eg297_t1_0_0 {n : Nat} {w : px_W} {r : Option Value × px_W} (h : ec_E hb_X n 297 0 [(0, .inr (.inl 1))] [] w r) : ec_tw 1 ≠ ec_tw 0 → True ∧ r = (ec_R 0, w) ∧ ec_W hb_A w := by
  have h2 := hb_ecw ((0, 9, 0, 0, 0) :: (4, 1, 1, 0, 0) :: (0, 1, 0, 0, 0) :: (5, 10, 0, 0, 0) :: (4, 0, 0, 0, 0) :: (6, 3, 0, 0, 0) :: []) (by decide +kernel) h
  exact h2
/-! J0_isLatin1_aae02 -/
theorem eg298_t1_0_0 {n : Nat} {w : px_W} {r : Option Value × px_W} (h : ec_E hb_X n 298 0 [(0, .inr (.inl 1))] [] w r) : ec_tw 1 ≠ ec_tw 0 → ec_tw 0 = ec_tw 0 → True ∧ r = (ec_R 1, w) ∧ ec_W hb_A w := by
  have h2 := hb_ecw ((0, 9, 0, 0, 0) :: (4, 1, 1, 0, 0) :: (0, 1, 0, 0, 0) :: (5, 10, 0, 0, 0) :: (4, 1, 0, 0, 0) :: (0, 2, 0, 0, 1) :: (4, 0, 0, 0, 0) :: (6, 3, 0, 0, 0) :: []) (by decide +kernel) h
  exact h2
/-! J0_length_8abf5 -/
theorem eg295_t1_0_0 {n : Nat} {w : px_W} {r : Option Value × px_W} (h : ec_E hb_X n 295 0 [(0, .inr (.inl 1))] [] w r) : True ∧ ∃ (v : Option Value) (w1 : px_W), ec_E hb_X n 297 0 [(0, .inr (.inl 1))] [] w (v, w1) ∧ ∀ zz : Int, v = ec_R zz → ec_W hb_A w1 → ec_E hb_X n 295 9 [(0, .inr (.inl 1))] [.inl zz, .inl 2] w1 r := by
  have h2 := hb_ecw ((0, 1, 0, 0, 0) :: (5, 9, 0, 0, 0) :: (5, 11, 0, 0, 0) :: (0, 1, 0, 0, 0) :: (6, 1, 297, 1, 9) :: []) (by decide +kernel) h
  exact h2
theorem eg295_t1_9_0 {n : Nat} {w : px_W} {r : Option Value × px_W} {s0 s1 : Int} (h : ec_E hb_X n 295 9 [(0, .inr (.inl 1))] [.inl s1, .inl s0] w r) : True ∧ r = (ec_R (ec_shr s0 s1), w) ∧ ec_W hb_A w := by
  have h2 := hb_ecw ((1, 7, 0, 0, 0) :: (6, 3, 0, 0, 0) :: []) (by decide +kernel) h
  exact h2
/-! J1_charAt_3b067 -/
theorem eg300_t1_0_0 {n : Nat} {w : px_W} {r : Option Value × px_W} {x1 : Int} (h : ec_E hb_X n 300 0 [(0, .inr (.inl 17)), (1, .inl x1)] [] w r) : True ∧ ∃ (v : Option Value) (w1 : px_W), ec_E hb_X n 299 0 [(0, .inl x1), (1, .inl 2)] [] w (v, w1) ∧ (v = none → ec_W hb_A w1 → ec_E hb_X n 300 6 [(0, .inr (.inl 17)), (1, .inl x1)] [] w1 r) := by
  have h2 := hb_ecw ((0, 0, 1, 0, 0) :: (0, 1, 0, 0, 0) :: (5, 11, 0, 0, 0) :: (6, 2, 299, 2, 6) :: []) (by decide +kernel) h
  exact h2
theorem eg300_t1_6_0 {n : Nat} {w : px_W} {r : Option Value × px_W} {x1 : Int} (h : ec_E hb_X n 300 6 [(0, .inr (.inl 17)), (1, .inl x1)] [] w r) : True ∧ r = (ec_R (ec_ch (ec_and (((hb_lt.getD 0 []).getD (ec_tw x1).toNat 0).toInt) 255)), w) ∧ ec_W hb_A w := by
  have h2 := hb_ecw ((0, 1, 0, 0, 0) :: (0, 0, 1, 0, 0) :: (5, 12, 0, 0, 0) :: (0, 2, 0, 0, 255) :: (1, 3, 0, 0, 0) :: (3, 14, 0, 0, 0) :: (6, 3, 0, 0, 0) :: []) (by decide +kernel) h
  exact h2
/-! J0_charAt_5068e -/
theorem eg296_t1_0_0 {n : Nat} {w : px_W} {r : Option Value × px_W} {x1 : Int} (h : ec_E hb_X n 296 0 [(0, .inr (.inl 1)), (1, .inl x1)] [] w r) : True ∧ ∃ (v : Option Value) (w1 : px_W), ec_E hb_X n 298 0 [(0, .inr (.inl 1))] [] w (v, w1) ∧ ∀ zz : Int, v = ec_R zz → ec_W hb_A w1 → ec_E hb_X n 296 4 [(0, .inr (.inl 1)), (1, .inl x1)] [.inl zz] w1 r := by
  have h2 := hb_ecw ((0, 1, 0, 0, 0) :: (6, 1, 298, 1, 4) :: []) (by decide +kernel) h
  exact h2
theorem eg296_t1_4_0 {n : Nat} {w : px_W} {r : Option Value × px_W} {x1 s0 : Int} (h : ec_E hb_X n 296 4 [(0, .inr (.inl 1)), (1, .inl x1)] [.inl s0] w r) : ec_tw s0 ≠ ec_tw 0 → True ∧ ∃ (v : Option Value) (w1 : px_W), ec_E hb_X n 300 0 [(0, .inr (.inl 17)), (1, .inl x1)] [] w (v, w1) ∧ ∀ zz : Int, v = ec_R zz → ec_W hb_A w1 → ec_E hb_X n 296 15 [(0, .inr (.inl 1)), (1, .inl x1)] [.inl zz] w1 r := by
  have h2 := hb_ecw ((4, 1, 1, 0, 0) :: (0, 1, 0, 0, 0) :: (5, 9, 0, 0, 0) :: (0, 0, 1, 0, 0) :: (6, 1, 300, 2, 15) :: []) (by decide +kernel) h
  exact h2
theorem eg296_t1_15_0 {n : Nat} {w : px_W} {r : Option Value × px_W} {x1 s0 : Int} (h : ec_E hb_X n 296 15 [(0, .inr (.inl 1)), (1, .inl x1)] [.inl s0] w r) : True ∧ r = (ec_R s0, w) ∧ ec_W hb_A w := by
  have h2 := hb_ecw ((6, 3, 0, 0, 0) :: []) (by decide +kernel) h
  exact h2
/-! J0_coder_7d493 -/
theorem eg297_t2_0_0 {n : Nat} {w : px_W} {r : Option Value × px_W} (h : ec_E hb_X n 297 0 [(0, .inr (.inl 2))] [] w r) : ec_tw 1 ≠ ec_tw 0 → True ∧ r = (ec_R 0, w) ∧ ec_W hb_A w := by
  have h2 := hb_ecw ((0, 9, 0, 0, 0) :: (4, 1, 1, 0, 0) :: (0, 1, 0, 0, 0) :: (5, 10, 0, 0, 0) :: (4, 0, 0, 0, 0) :: (6, 3, 0, 0, 0) :: []) (by decide +kernel) h
  exact h2
/-! J0_isLatin1_aae02 -/
theorem eg298_t2_0_0 {n : Nat} {w : px_W} {r : Option Value × px_W} (h : ec_E hb_X n 298 0 [(0, .inr (.inl 2))] [] w r) : ec_tw 1 ≠ ec_tw 0 → ec_tw 0 = ec_tw 0 → True ∧ r = (ec_R 1, w) ∧ ec_W hb_A w := by
  have h2 := hb_ecw ((0, 9, 0, 0, 0) :: (4, 1, 1, 0, 0) :: (0, 1, 0, 0, 0) :: (5, 10, 0, 0, 0) :: (4, 1, 0, 0, 0) :: (0, 2, 0, 0, 1) :: (4, 0, 0, 0, 0) :: (6, 3, 0, 0, 0) :: []) (by decide +kernel) h
  exact h2
/-! J0_length_8abf5 -/
theorem eg295_t2_0_0 {n : Nat} {w : px_W} {r : Option Value × px_W} (h : ec_E hb_X n 295 0 [(0, .inr (.inl 2))] [] w r) : True ∧ ∃ (v : Option Value) (w1 : px_W), ec_E hb_X n 297 0 [(0, .inr (.inl 2))] [] w (v, w1) ∧ ∀ zz : Int, v = ec_R zz → ec_W hb_A w1 → ec_E hb_X n 295 9 [(0, .inr (.inl 2))] [.inl zz, .inl 2] w1 r := by
  have h2 := hb_ecw ((0, 1, 0, 0, 0) :: (5, 9, 0, 0, 0) :: (5, 11, 0, 0, 0) :: (0, 1, 0, 0, 0) :: (6, 1, 297, 1, 9) :: []) (by decide +kernel) h
  exact h2
theorem eg295_t2_9_0 {n : Nat} {w : px_W} {r : Option Value × px_W} {s0 s1 : Int} (h : ec_E hb_X n 295 9 [(0, .inr (.inl 2))] [.inl s1, .inl s0] w r) : True ∧ r = (ec_R (ec_shr s0 s1), w) ∧ ec_W hb_A w := by
  have h2 := hb_ecw ((1, 7, 0, 0, 0) :: (6, 3, 0, 0, 0) :: []) (by decide +kernel) h
  exact h2
/-! J1_charAt_3b067 -/
theorem eg300_t2_0_0 {n : Nat} {w : px_W} {r : Option Value × px_W} {x1 : Int} (h : ec_E hb_X n 300 0 [(0, .inr (.inl 18)), (1, .inl x1)] [] w r) : True ∧ ∃ (v : Option Value) (w1 : px_W), ec_E hb_X n 299 0 [(0, .inl x1), (1, .inl 2)] [] w (v, w1) ∧ (v = none → ec_W hb_A w1 → ec_E hb_X n 300 6 [(0, .inr (.inl 18)), (1, .inl x1)] [] w1 r) := by
  have h2 := hb_ecw ((0, 0, 1, 0, 0) :: (0, 1, 0, 0, 0) :: (5, 11, 0, 0, 0) :: (6, 2, 299, 2, 6) :: []) (by decide +kernel) h
  exact h2
theorem eg300_t2_6_0 {n : Nat} {w : px_W} {r : Option Value × px_W} {x1 : Int} (h : ec_E hb_X n 300 6 [(0, .inr (.inl 18)), (1, .inl x1)] [] w r) : True ∧ r = (ec_R (ec_ch (ec_and (((hb_lt.getD 1 []).getD (ec_tw x1).toNat 0).toInt) 255)), w) ∧ ec_W hb_A w := by
  have h2 := hb_ecw ((0, 1, 0, 0, 0) :: (0, 0, 1, 0, 0) :: (5, 12, 0, 0, 0) :: (0, 2, 0, 0, 255) :: (1, 3, 0, 0, 0) :: (3, 14, 0, 0, 0) :: (6, 3, 0, 0, 0) :: []) (by decide +kernel) h
  exact h2
/-! J0_charAt_5068e -/
theorem eg296_t2_0_0 {n : Nat} {w : px_W} {r : Option Value × px_W} {x1 : Int} (h : ec_E hb_X n 296 0 [(0, .inr (.inl 2)), (1, .inl x1)] [] w r) : True ∧ ∃ (v : Option Value) (w1 : px_W), ec_E hb_X n 298 0 [(0, .inr (.inl 2))] [] w (v, w1) ∧ ∀ zz : Int, v = ec_R zz → ec_W hb_A w1 → ec_E hb_X n 296 4 [(0, .inr (.inl 2)), (1, .inl x1)] [.inl zz] w1 r := by
  have h2 := hb_ecw ((0, 1, 0, 0, 0) :: (6, 1, 298, 1, 4) :: []) (by decide +kernel) h
  exact h2
theorem eg296_t2_4_0 {n : Nat} {w : px_W} {r : Option Value × px_W} {x1 s0 : Int} (h : ec_E hb_X n 296 4 [(0, .inr (.inl 2)), (1, .inl x1)] [.inl s0] w r) : ec_tw s0 ≠ ec_tw 0 → True ∧ ∃ (v : Option Value) (w1 : px_W), ec_E hb_X n 300 0 [(0, .inr (.inl 18)), (1, .inl x1)] [] w (v, w1) ∧ ∀ zz : Int, v = ec_R zz → ec_W hb_A w1 → ec_E hb_X n 296 15 [(0, .inr (.inl 2)), (1, .inl x1)] [.inl zz] w1 r := by
  have h2 := hb_ecw ((4, 1, 1, 0, 0) :: (0, 1, 0, 0, 0) :: (5, 9, 0, 0, 0) :: (0, 0, 1, 0, 0) :: (6, 1, 300, 2, 15) :: []) (by decide +kernel) h
  exact h2
theorem eg296_t2_15_0 {n : Nat} {w : px_W} {r : Option Value × px_W} {x1 s0 : Int} (h : ec_E hb_X n 296 15 [(0, .inr (.inl 2)), (1, .inl x1)] [.inl s0] w r) : True ∧ r = (ec_R s0, w) ∧ ec_W hb_A w := by
  have h2 := hb_ecw ((6, 3, 0, 0, 0) :: []) (by decide +kernel) h
  exact h2
/-! J0_coder_7d493 -/
theorem eg297_t3_0_0 {n : Nat} {w : px_W} {r : Option Value × px_W} (h : ec_E hb_X n 297 0 [(0, .inr (.inl 3))] [] w r) : ec_tw 1 ≠ ec_tw 0 → True ∧ r = (ec_R 0, w) ∧ ec_W hb_A w := by
  have h2 := hb_ecw ((0, 9, 0, 0, 0) :: (4, 1, 1, 0, 0) :: (0, 1, 0, 0, 0) :: (5, 10, 0, 0, 0) :: (4, 0, 0, 0, 0) :: (6, 3, 0, 0, 0) :: []) (by decide +kernel) h
  exact h2
/-! J0_isLatin1_aae02 -/
theorem eg298_t3_0_0 {n : Nat} {w : px_W} {r : Option Value × px_W} (h : ec_E hb_X n 298 0 [(0, .inr (.inl 3))] [] w r) : ec_tw 1 ≠ ec_tw 0 → ec_tw 0 = ec_tw 0 → True ∧ r = (ec_R 1, w) ∧ ec_W hb_A w := by
  have h2 := hb_ecw ((0, 9, 0, 0, 0) :: (4, 1, 1, 0, 0) :: (0, 1, 0, 0, 0) :: (5, 10, 0, 0, 0) :: (4, 1, 0, 0, 0) :: (0, 2, 0, 0, 1) :: (4, 0, 0, 0, 0) :: (6, 3, 0, 0, 0) :: []) (by decide +kernel) h
  exact h2
/-! J0_length_8abf5 -/
theorem eg295_t3_0_0 {n : Nat} {w : px_W} {r : Option Value × px_W} (h : ec_E hb_X n 295 0 [(0, .inr (.inl 3))] [] w r) : True ∧ ∃ (v : Option Value) (w1 : px_W), ec_E hb_X n 297 0 [(0, .inr (.inl 3))] [] w (v, w1) ∧ ∀ zz : Int, v = ec_R zz → ec_W hb_A w1 → ec_E hb_X n 295 9 [(0, .inr (.inl 3))] [.inl zz, .inl 3] w1 r := by
  have h2 := hb_ecw ((0, 1, 0, 0, 0) :: (5, 9, 0, 0, 0) :: (5, 11, 0, 0, 0) :: (0, 1, 0, 0, 0) :: (6, 1, 297, 1, 9) :: []) (by decide +kernel) h
  exact h2
theorem eg295_t3_9_0 {n : Nat} {w : px_W} {r : Option Value × px_W} {s0 s1 : Int} (h : ec_E hb_X n 295 9 [(0, .inr (.inl 3))] [.inl s1, .inl s0] w r) : True ∧ r = (ec_R (ec_shr s0 s1), w) ∧ ec_W hb_A w := by
  have h2 := hb_ecw ((1, 7, 0, 0, 0) :: (6, 3, 0, 0, 0) :: []) (by decide +kernel) h
  exact h2
/-! J1_charAt_3b067 -/
theorem eg300_t3_0_0 {n : Nat} {w : px_W} {r : Option Value × px_W} {x1 : Int} (h : ec_E hb_X n 300 0 [(0, .inr (.inl 19)), (1, .inl x1)] [] w r) : True ∧ ∃ (v : Option Value) (w1 : px_W), ec_E hb_X n 299 0 [(0, .inl x1), (1, .inl 3)] [] w (v, w1) ∧ (v = none → ec_W hb_A w1 → ec_E hb_X n 300 6 [(0, .inr (.inl 19)), (1, .inl x1)] [] w1 r) := by
  have h2 := hb_ecw ((0, 0, 1, 0, 0) :: (0, 1, 0, 0, 0) :: (5, 11, 0, 0, 0) :: (6, 2, 299, 2, 6) :: []) (by decide +kernel) h
  exact h2
theorem eg300_t3_6_0 {n : Nat} {w : px_W} {r : Option Value × px_W} {x1 : Int} (h : ec_E hb_X n 300 6 [(0, .inr (.inl 19)), (1, .inl x1)] [] w r) : True ∧ r = (ec_R (ec_ch (ec_and (((hb_lt.getD 2 []).getD (ec_tw x1).toNat 0).toInt) 255)), w) ∧ ec_W hb_A w := by
  have h2 := hb_ecw ((0, 1, 0, 0, 0) :: (0, 0, 1, 0, 0) :: (5, 12, 0, 0, 0) :: (0, 2, 0, 0, 255) :: (1, 3, 0, 0, 0) :: (3, 14, 0, 0, 0) :: (6, 3, 0, 0, 0) :: []) (by decide +kernel) h
  exact h2
/-! J0_charAt_5068e -/
theorem eg296_t3_0_0 {n : Nat} {w : px_W} {r : Option Value × px_W} {x1 : Int} (h : ec_E hb_X n 296 0 [(0, .inr (.inl 3)), (1, .inl x1)] [] w r) : True ∧ ∃ (v : Option Value) (w1 : px_W), ec_E hb_X n 298 0 [(0, .inr (.inl 3))] [] w (v, w1) ∧ ∀ zz : Int, v = ec_R zz → ec_W hb_A w1 → ec_E hb_X n 296 4 [(0, .inr (.inl 3)), (1, .inl x1)] [.inl zz] w1 r := by
  have h2 := hb_ecw ((0, 1, 0, 0, 0) :: (6, 1, 298, 1, 4) :: []) (by decide +kernel) h
  exact h2
theorem eg296_t3_4_0 {n : Nat} {w : px_W} {r : Option Value × px_W} {x1 s0 : Int} (h : ec_E hb_X n 296 4 [(0, .inr (.inl 3)), (1, .inl x1)] [.inl s0] w r) : ec_tw s0 ≠ ec_tw 0 → True ∧ ∃ (v : Option Value) (w1 : px_W), ec_E hb_X n 300 0 [(0, .inr (.inl 19)), (1, .inl x1)] [] w (v, w1) ∧ ∀ zz : Int, v = ec_R zz → ec_W hb_A w1 → ec_E hb_X n 296 15 [(0, .inr (.inl 3)), (1, .inl x1)] [.inl zz] w1 r := by
  have h2 := hb_ecw ((4, 1, 1, 0, 0) :: (0, 1, 0, 0, 0) :: (5, 9, 0, 0, 0) :: (0, 0, 1, 0, 0) :: (6, 1, 300, 2, 15) :: []) (by decide +kernel) h
  exact h2
theorem eg296_t3_15_0 {n : Nat} {w : px_W} {r : Option Value × px_W} {x1 s0 : Int} (h : ec_E hb_X n 296 15 [(0, .inr (.inl 3)), (1, .inl x1)] [.inl s0] w r) : True ∧ r = (ec_R s0, w) ∧ ec_W hb_A w := by
  have h2 := hb_ecw ((6, 3, 0, 0, 0) :: []) (by decide +kernel) h
  exact h2
/-! J0_coder_7d493 -/
theorem eg297_t4_0_0 {n : Nat} {w : px_W} {r : Option Value × px_W} (h : ec_E hb_X n 297 0 [(0, .inr (.inl 4))] [] w r) : ec_tw 1 ≠ ec_tw 0 → True ∧ r = (ec_R 0, w) ∧ ec_W hb_A w := by
  have h2 := hb_ecw ((0, 9, 0, 0, 0) :: (4, 1, 1, 0, 0) :: (0, 1, 0, 0, 0) :: (5, 10, 0, 0, 0) :: (4, 0, 0, 0, 0) :: (6, 3, 0, 0, 0) :: []) (by decide +kernel) h
  exact h2
/-! J0_isLatin1_aae02 -/
theorem eg298_t4_0_0 {n : Nat} {w : px_W} {r : Option Value × px_W} (h : ec_E hb_X n 298 0 [(0, .inr (.inl 4))] [] w r) : ec_tw 1 ≠ ec_tw 0 → ec_tw 0 = ec_tw 0 → True ∧ r = (ec_R 1, w) ∧ ec_W hb_A w := by
  have h2 := hb_ecw ((0, 9, 0, 0, 0) :: (4, 1, 1, 0, 0) :: (0, 1, 0, 0, 0) :: (5, 10, 0, 0, 0) :: (4, 1, 0, 0, 0) :: (0, 2, 0, 0, 1) :: (4, 0, 0, 0, 0) :: (6, 3, 0, 0, 0) :: []) (by decide +kernel) h
  exact h2
/-! J0_length_8abf5 -/
theorem eg295_t4_0_0 {n : Nat} {w : px_W} {r : Option Value × px_W} (h : ec_E hb_X n 295 0 [(0, .inr (.inl 4))] [] w r) : True ∧ ∃ (v : Option Value) (w1 : px_W), ec_E hb_X n 297 0 [(0, .inr (.inl 4))] [] w (v, w1) ∧ ∀ zz : Int, v = ec_R zz → ec_W hb_A w1 → ec_E hb_X n 295 9 [(0, .inr (.inl 4))] [.inl zz, .inl 3] w1 r := by
  have h2 := hb_ecw ((0, 1, 0, 0, 0) :: (5, 9, 0, 0, 0) :: (5, 11, 0, 0, 0) :: (0, 1, 0, 0, 0) :: (6, 1, 297, 1, 9) :: []) (by decide +kernel) h
  exact h2
theorem eg295_t4_9_0 {n : Nat} {w : px_W} {r : Option Value × px_W} {s0 s1 : Int} (h : ec_E hb_X n 295 9 [(0, .inr (.inl 4))] [.inl s1, .inl s0] w r) : True ∧ r = (ec_R (ec_shr s0 s1), w) ∧ ec_W hb_A w := by
  have h2 := hb_ecw ((1, 7, 0, 0, 0) :: (6, 3, 0, 0, 0) :: []) (by decide +kernel) h
  exact h2
/-! J1_charAt_3b067 -/
theorem eg300_t4_0_0 {n : Nat} {w : px_W} {r : Option Value × px_W} {x1 : Int} (h : ec_E hb_X n 300 0 [(0, .inr (.inl 20)), (1, .inl x1)] [] w r) : True ∧ ∃ (v : Option Value) (w1 : px_W), ec_E hb_X n 299 0 [(0, .inl x1), (1, .inl 3)] [] w (v, w1) ∧ (v = none → ec_W hb_A w1 → ec_E hb_X n 300 6 [(0, .inr (.inl 20)), (1, .inl x1)] [] w1 r) := by
  have h2 := hb_ecw ((0, 0, 1, 0, 0) :: (0, 1, 0, 0, 0) :: (5, 11, 0, 0, 0) :: (6, 2, 299, 2, 6) :: []) (by decide +kernel) h
  exact h2
theorem eg300_t4_6_0 {n : Nat} {w : px_W} {r : Option Value × px_W} {x1 : Int} (h : ec_E hb_X n 300 6 [(0, .inr (.inl 20)), (1, .inl x1)] [] w r) : True ∧ r = (ec_R (ec_ch (ec_and (((hb_lt.getD 3 []).getD (ec_tw x1).toNat 0).toInt) 255)), w) ∧ ec_W hb_A w := by
  have h2 := hb_ecw ((0, 1, 0, 0, 0) :: (0, 0, 1, 0, 0) :: (5, 12, 0, 0, 0) :: (0, 2, 0, 0, 255) :: (1, 3, 0, 0, 0) :: (3, 14, 0, 0, 0) :: (6, 3, 0, 0, 0) :: []) (by decide +kernel) h
  exact h2
/-! J0_charAt_5068e -/
theorem eg296_t4_0_0 {n : Nat} {w : px_W} {r : Option Value × px_W} {x1 : Int} (h : ec_E hb_X n 296 0 [(0, .inr (.inl 4)), (1, .inl x1)] [] w r) : True ∧ ∃ (v : Option Value) (w1 : px_W), ec_E hb_X n 298 0 [(0, .inr (.inl 4))] [] w (v, w1) ∧ ∀ zz : Int, v = ec_R zz → ec_W hb_A w1 → ec_E hb_X n 296 4 [(0, .inr (.inl 4)), (1, .inl x1)] [.inl zz] w1 r := by
  have h2 := hb_ecw ((0, 1, 0, 0, 0) :: (6, 1, 298, 1, 4) :: []) (by decide +kernel) h
  exact h2
theorem eg296_t4_4_0 {n : Nat} {w : px_W} {r : Option Value × px_W} {x1 s0 : Int} (h : ec_E hb_X n 296 4 [(0, .inr (.inl 4)), (1, .inl x1)] [.inl s0] w r) : ec_tw s0 ≠ ec_tw 0 → True ∧ ∃ (v : Option Value) (w1 : px_W), ec_E hb_X n 300 0 [(0, .inr (.inl 20)), (1, .inl x1)] [] w (v, w1) ∧ ∀ zz : Int, v = ec_R zz → ec_W hb_A w1 → ec_E hb_X n 296 15 [(0, .inr (.inl 4)), (1, .inl x1)] [.inl zz] w1 r := by
  have h2 := hb_ecw ((4, 1, 1, 0, 0) :: (0, 1, 0, 0, 0) :: (5, 9, 0, 0, 0) :: (0, 0, 1, 0, 0) :: (6, 1, 300, 2, 15) :: []) (by decide +kernel) h
  exact h2
theorem eg296_t4_15_0 {n : Nat} {w : px_W} {r : Option Value × px_W} {x1 s0 : Int} (h : ec_E hb_X n 296 15 [(0, .inr (.inl 4)), (1, .inl x1)] [.inl s0] w r) : True ∧ r = (ec_R s0, w) ∧ ec_W hb_A w := by
  have h2 := hb_ecw ((6, 3, 0, 0, 0) :: []) (by decide +kernel) h
  exact h2
/-! J0_coder_7d493 -/
theorem eg297_t5_0_0 {n : Nat} {w : px_W} {r : Option Value × px_W} (h : ec_E hb_X n 297 0 [(0, .inr (.inl 5))] [] w r) : ec_tw 1 ≠ ec_tw 0 → True ∧ r = (ec_R 0, w) ∧ ec_W hb_A w := by
  have h2 := hb_ecw ((0, 9, 0, 0, 0) :: (4, 1, 1, 0, 0) :: (0, 1, 0, 0, 0) :: (5, 10, 0, 0, 0) :: (4, 0, 0, 0, 0) :: (6, 3, 0, 0, 0) :: []) (by decide +kernel) h
  exact h2
/-! J0_isLatin1_aae02 -/
theorem eg298_t5_0_0 {n : Nat} {w : px_W} {r : Option Value × px_W} (h : ec_E hb_X n 298 0 [(0, .inr (.inl 5))] [] w r) : ec_tw 1 ≠ ec_tw 0 → ec_tw 0 = ec_tw 0 → True ∧ r = (ec_R 1, w) ∧ ec_W hb_A w := by
  have h2 := hb_ecw ((0, 9, 0, 0, 0) :: (4, 1, 1, 0, 0) :: (0, 1, 0, 0, 0) :: (5, 10, 0, 0, 0) :: (4, 1, 0, 0, 0) :: (0, 2, 0, 0, 1) :: (4, 0, 0, 0, 0) :: (6, 3, 0, 0, 0) :: []) (by decide +kernel) h
  exact h2
/-! J0_length_8abf5 -/
theorem eg295_t5_0_0 {n : Nat} {w : px_W} {r : Option Value × px_W} (h : ec_E hb_X n 295 0 [(0, .inr (.inl 5))] [] w r) : True ∧ ∃ (v : Option Value) (w1 : px_W), ec_E hb_X n 297 0 [(0, .inr (.inl 5))] [] w (v, w1) ∧ ∀ zz : Int, v = ec_R zz → ec_W hb_A w1 → ec_E hb_X n 295 9 [(0, .inr (.inl 5))] [.inl zz, .inl 3] w1 r := by
  have h2 := hb_ecw ((0, 1, 0, 0, 0) :: (5, 9, 0, 0, 0) :: (5, 11, 0, 0, 0) :: (0, 1, 0, 0, 0) :: (6, 1, 297, 1, 9) :: []) (by decide +kernel) h
  exact h2
theorem eg295_t5_9_0 {n : Nat} {w : px_W} {r : Option Value × px_W} {s0 s1 : Int} (h : ec_E hb_X n 295 9 [(0, .inr (.inl 5))] [.inl s1, .inl s0] w r) : True ∧ r = (ec_R (ec_shr s0 s1), w) ∧ ec_W hb_A w := by
  have h2 := hb_ecw ((1, 7, 0, 0, 0) :: (6, 3, 0, 0, 0) :: []) (by decide +kernel) h
  exact h2
/-! J1_charAt_3b067 -/
theorem eg300_t5_0_0 {n : Nat} {w : px_W} {r : Option Value × px_W} {x1 : Int} (h : ec_E hb_X n 300 0 [(0, .inr (.inl 21)), (1, .inl x1)] [] w r) : True ∧ ∃ (v : Option Value) (w1 : px_W), ec_E hb_X n 299 0 [(0, .inl x1), (1, .inl 3)] [] w (v, w1) ∧ (v = none → ec_W hb_A w1 → ec_E hb_X n 300 6 [(0, .inr (.inl 21)), (1, .inl x1)] [] w1 r) := by
  have h2 := hb_ecw ((0, 0, 1, 0, 0) :: (0, 1, 0, 0, 0) :: (5, 11, 0, 0, 0) :: (6, 2, 299, 2, 6) :: []) (by decide +kernel) h
  exact h2
theorem eg300_t5_6_0 {n : Nat} {w : px_W} {r : Option Value × px_W} {x1 : Int} (h : ec_E hb_X n 300 6 [(0, .inr (.inl 21)), (1, .inl x1)] [] w r) : True ∧ r = (ec_R (ec_ch (ec_and (((hb_lt.getD 4 []).getD (ec_tw x1).toNat 0).toInt) 255)), w) ∧ ec_W hb_A w := by
  have h2 := hb_ecw ((0, 1, 0, 0, 0) :: (0, 0, 1, 0, 0) :: (5, 12, 0, 0, 0) :: (0, 2, 0, 0, 255) :: (1, 3, 0, 0, 0) :: (3, 14, 0, 0, 0) :: (6, 3, 0, 0, 0) :: []) (by decide +kernel) h
  exact h2
/-! J0_charAt_5068e -/
theorem eg296_t5_0_0 {n : Nat} {w : px_W} {r : Option Value × px_W} {x1 : Int} (h : ec_E hb_X n 296 0 [(0, .inr (.inl 5)), (1, .inl x1)] [] w r) : True ∧ ∃ (v : Option Value) (w1 : px_W), ec_E hb_X n 298 0 [(0, .inr (.inl 5))] [] w (v, w1) ∧ ∀ zz : Int, v = ec_R zz → ec_W hb_A w1 → ec_E hb_X n 296 4 [(0, .inr (.inl 5)), (1, .inl x1)] [.inl zz] w1 r := by
  have h2 := hb_ecw ((0, 1, 0, 0, 0) :: (6, 1, 298, 1, 4) :: []) (by decide +kernel) h
  exact h2
theorem eg296_t5_4_0 {n : Nat} {w : px_W} {r : Option Value × px_W} {x1 s0 : Int} (h : ec_E hb_X n 296 4 [(0, .inr (.inl 5)), (1, .inl x1)] [.inl s0] w r) : ec_tw s0 ≠ ec_tw 0 → True ∧ ∃ (v : Option Value) (w1 : px_W), ec_E hb_X n 300 0 [(0, .inr (.inl 21)), (1, .inl x1)] [] w (v, w1) ∧ ∀ zz : Int, v = ec_R zz → ec_W hb_A w1 → ec_E hb_X n 296 15 [(0, .inr (.inl 5)), (1, .inl x1)] [.inl zz] w1 r := by
  have h2 := hb_ecw ((4, 1, 1, 0, 0) :: (0, 1, 0, 0, 0) :: (5, 9, 0, 0, 0) :: (0, 0, 1, 0, 0) :: (6, 1, 300, 2, 15) :: []) (by decide +kernel) h
  exact h2
theorem eg296_t5_15_0 {n : Nat} {w : px_W} {r : Option Value × px_W} {x1 s0 : Int} (h : ec_E hb_X n 296 15 [(0, .inr (.inl 5)), (1, .inl x1)] [.inl s0] w r) : True ∧ r = (ec_R s0, w) ∧ ec_W hb_A w := by
  have h2 := hb_ecw ((6, 3, 0, 0, 0) :: []) (by decide +kernel) h
  exact h2
/-! J0_coder_7d493 -/
theorem eg297_t6_0_0 {n : Nat} {w : px_W} {r : Option Value × px_W} (h : ec_E hb_X n 297 0 [(0, .inr (.inl 6))] [] w r) : ec_tw 1 ≠ ec_tw 0 → True ∧ r = (ec_R 0, w) ∧ ec_W hb_A w := by
  have h2 := hb_ecw ((0, 9, 0, 0, 0) :: (4, 1, 1, 0, 0) :: (0, 1, 0, 0, 0) :: (5, 10, 0, 0, 0) :: (4, 0, 0, 0, 0) :: (6, 3, 0, 0, 0) :: []) (by decide +kernel) h
  exact h2
/-! J0_isLatin1_aae02 -/
theorem eg298_t6_0_0 {n : Nat} {w : px_W} {r : Option Value × px_W} (h : ec_E hb_X n 298 0 [(0, .inr (.inl 6))] [] w r) : ec_tw 1 ≠ ec_tw 0 → ec_tw 0 = ec_tw 0 → True ∧ r = (ec_R 1, w) ∧ ec_W hb_A w := by
  have h2 := hb_ecw ((0, 9, 0, 0, 0) :: (4, 1, 1, 0, 0) :: (0, 1, 0, 0, 0) :: (5, 10, 0, 0, 0) :: (4, 1, 0, 0, 0) :: (0, 2, 0, 0, 1) :: (4, 0, 0, 0, 0) :: (6, 3, 0, 0, 0) :: []) (by decide +kernel) h
  exact h2
/-! J0_length_8abf5 -/
theorem eg295_t6_0_0 {n : Nat} {w : px_W} {r : Option Value × px_W} (h : ec_E hb_X n 295 0 [(0, .inr (.inl 6))] [] w r) : True ∧ ∃ (v : Option Value) (w1 : px_W), ec_E hb_X n 297 0 [(0, .inr (.inl 6))] [] w (v, w1) ∧ ∀ zz : Int, v = ec_R zz → ec_W hb_A w1 → ec_E hb_X n 295 9 [(0, .inr (.inl 6))] [.inl zz, .inl 3] w1 r := by
  have h2 := hb_ecw ((0, 1, 0, 0, 0) :: (5, 9, 0, 0, 0) :: (5, 11, 0, 0, 0) :: (0, 1, 0, 0, 0) :: (6, 1, 297, 1, 9) :: []) (by decide +kernel) h
  exact h2
theorem eg295_t6_9_0 {n : Nat} {w : px_W} {r : Option Value × px_W} {s0 s1 : Int} (h : ec_E hb_X n 295 9 [(0, .inr (.inl 6))] [.inl s1, .inl s0] w r) : True ∧ r = (ec_R (ec_shr s0 s1), w) ∧ ec_W hb_A w := by
  have h2 := hb_ecw ((1, 7, 0, 0, 0) :: (6, 3, 0, 0, 0) :: []) (by decide +kernel) h
  exact h2
/-! J1_charAt_3b067 -/
theorem eg300_t6_0_0 {n : Nat} {w : px_W} {r : Option Value × px_W} {x1 : Int} (h : ec_E hb_X n 300 0 [(0, .inr (.inl 22)), (1, .inl x1)] [] w r) : True ∧ ∃ (v : Option Value) (w1 : px_W), ec_E hb_X n 299 0 [(0, .inl x1), (1, .inl 3)] [] w (v, w1) ∧ (v = none → ec_W hb_A w1 → ec_E hb_X n 300 6 [(0, .inr (.inl 22)), (1, .inl x1)] [] w1 r) := by
  have h2 := hb_ecw ((0, 0, 1, 0, 0) :: (0, 1, 0, 0, 0) :: (5, 11, 0, 0, 0) :: (6, 2, 299, 2, 6) :: []) (by decide +kernel) h
  exact h2
theorem eg300_t6_6_0 {n : Nat} {w : px_W} {r : Option Value × px_W} {x1 : Int} (h : ec_E hb_X n 300 6 [(0, .inr (.inl 22)), (1, .inl x1)] [] w r) : True ∧ r = (ec_R (ec_ch (ec_and (((hb_lt.getD 5 []).getD (ec_tw x1).toNat 0).toInt) 255)), w) ∧ ec_W hb_A w := by
  have h2 := hb_ecw ((0, 1, 0, 0, 0) :: (0, 0, 1, 0, 0) :: (5, 12, 0, 0, 0) :: (0, 2, 0, 0, 255) :: (1, 3, 0, 0, 0) :: (3, 14, 0, 0, 0) :: (6, 3, 0, 0, 0) :: []) (by decide +kernel) h
  exact h2
/-! J0_charAt_5068e -/
theorem eg296_t6_0_0 {n : Nat} {w : px_W} {r : Option Value × px_W} {x1 : Int} (h : ec_E hb_X n 296 0 [(0, .inr (.inl 6)), (1, .inl x1)] [] w r) : True ∧ ∃ (v : Option Value) (w1 : px_W), ec_E hb_X n 298 0 [(0, .inr (.inl 6))] [] w (v, w1) ∧ ∀ zz : Int, v = ec_R zz → ec_W hb_A w1 → ec_E hb_X n 296 4 [(0, .inr (.inl 6)), (1, .inl x1)] [.inl zz] w1 r := by
  have h2 := hb_ecw ((0, 1, 0, 0, 0) :: (6, 1, 298, 1, 4) :: []) (by decide +kernel) h
  exact h2
theorem eg296_t6_4_0 {n : Nat} {w : px_W} {r : Option Value × px_W} {x1 s0 : Int} (h : ec_E hb_X n 296 4 [(0, .inr (.inl 6)), (1, .inl x1)] [.inl s0] w r) : ec_tw s0 ≠ ec_tw 0 → True ∧ ∃ (v : Option Value) (w1 : px_W), ec_E hb_X n 300 0 [(0, .inr (.inl 22)), (1, .inl x1)] [] w (v, w1) ∧ ∀ zz : Int, v = ec_R zz → ec_W hb_A w1 → ec_E hb_X n 296 15 [(0, .inr (.inl 6)), (1, .inl x1)] [.inl zz] w1 r := by
  have h2 := hb_ecw ((4, 1, 1, 0, 0) :: (0, 1, 0, 0, 0) :: (5, 9, 0, 0, 0) :: (0, 0, 1, 0, 0) :: (6, 1, 300, 2, 15) :: []) (by decide +kernel) h
  exact h2
theorem eg296_t6_15_0 {n : Nat} {w : px_W} {r : Option Value × px_W} {x1 s0 : Int} (h : ec_E hb_X n 296 15 [(0, .inr (.inl 6)), (1, .inl x1)] [.inl s0] w r) : True ∧ r = (ec_R s0, w) ∧ ec_W hb_A w := by
  have h2 := hb_ecw ((6, 3, 0, 0, 0) :: []) (by decide +kernel) h
  exact h2
/-! J0_coder_7d493 -/
theorem eg297_t7_0_0 {n : Nat} {w : px_W} {r : Option Value × px_W} (h : ec_E hb_X n 297 0 [(0, .inr (.inl 7))] [] w r) : ec_tw 1 ≠ ec_tw 0 → True ∧ r = (ec_R 0, w) ∧ ec_W hb_A w := by
  have h2 := hb_ecw ((0, 9, 0, 0, 0) :: (4, 1, 1, 0, 0) :: (0, 1, 0, 0, 0) :: (5, 10, 0, 0, 0) :: (4, 0, 0, 0, 0) :: (6, 3, 0, 0, 0) :: []) (by decide +kernel) h
  exact h2
/-! J0_isLatin1_aae02 -/
theorem eg298_t7_0_0 {n : Nat} {w : px_W} {r : Option Value × px_W} (h : ec_E hb_X n 298 0 [(0, .inr (.inl 7))] [] w r) : ec_tw 1 ≠ ec_tw 0 → ec_tw 0 = ec_tw 0 → True ∧ r = (ec_R 1, w) ∧ ec_W hb_A w := by
  have h2 := hb_ecw ((0, 9, 0, 0, 0) :: (4, 1, 1, 0, 0) :: (0, 1, 0, 0, 0) :: (5, 10, 0, 0, 0) :: (4, 1, 0, 0, 0) :: (0, 2, 0, 0, 1) :: (4, 0, 0, 0, 0) :: (6, 3, 0, 0, 0) :: []) (by decide +kernel) h
  exact h2
/-! J0_length_8abf5 -/
theorem eg295_t7_0_0 {n : Nat} {w : px_W} {r : Option Value × px_W} (h : ec_E hb_X n 295 0 [(0, .inr (.inl 7))] [] w r) : True ∧ ∃ (v : Option Value) (w1 : px_W), ec_E hb_X n 297 0 [(0, .inr (.inl 7))] [] w (v, w1) ∧ ∀ zz : Int, v = ec_R zz → ec_W hb_A w1 → ec_E hb_X n 295 9 [(0, .inr (.inl 7))] [.inl zz, .inl 3] w1 r := by
  have h2 := hb_ecw ((0, 1, 0, 0, 0) :: (5, 9, 0, 0, 0) :: (5, 11, 0, 0, 0) :: (0, 1, 0, 0, 0) :: (6, 1, 297, 1, 9) :: []) (by decide +kernel) h
  exact h2
theorem eg295_t7_9_0 {n : Nat} {w : px_W} {r : Option Value × px_W} {s0 s1 : Int} (h : ec_E hb_X n 295 9 [(0, .inr (.inl 7))] [.inl s1, .inl s0] w r) : True ∧ r = (ec_R (ec_shr s0 s1), w) ∧ ec_W hb_A w := by
  have h2 := hb_ecw ((1, 7, 0, 0, 0) :: (6, 3, 0, 0, 0) :: []) (by decide +kernel) h
  exact h2
/-! J1_charAt_3b067 -/
theorem eg300_t7_0_0 {n : Nat} {w : px_W} {r : Option Value × px_W} {x1 : Int} (h : ec_E hb_X n 300 0 [(0, .inr (.inl 23)), (1, .inl x1)] [] w r) : True ∧ ∃ (v : Option Value) (w1 : px_W), ec_E hb_X n 299 0 [(0, .inl x1), (1, .inl 3)] [] w (v, w1) ∧ (v = none → ec_W hb_A w1 → ec_E hb_X n 300 6 [(0, .inr (.inl 23)), (1, .inl x1)] [] w1 r) := by
  have h2 := hb_ecw ((0, 0, 1, 0, 0) :: (0, 1, 0, 0, 0) :: (5, 11, 0, 0, 0) :: (6, 2, 299, 2, 6) :: []) (by decide +kernel) h
  exact h2
theorem eg300_t7_6_0 {n : Nat} {w : px_W} {r : Option Value × px_W} {x1 : Int} (h : ec_E hb_X n 300 6 [(0, .inr (.inl 23)), (1, .inl x1)] [] w r) : True ∧ r = (ec_R (ec_ch (ec_and (((hb_lt.getD 6 []).getD (ec_tw x1).toNat 0).toInt) 255)), w) ∧ ec_W hb_A w := by
  have h2 := hb_ecw ((0, 1, 0, 0, 0) :: (0, 0, 1, 0, 0) :: (5, 12, 0, 0, 0) :: (0, 2, 0, 0, 255) :: (1, 3, 0, 0, 0) :: (3, 14, 0, 0, 0) :: (6, 3, 0, 0, 0) :: []) (by decide +kernel) h
  exact h2
/-! J0_charAt_5068e -/
theorem eg296_t7_0_0 {n : Nat} {w : px_W} {r : Option Value × px_W} {x1 : Int} (h : ec_E hb_X n 296 0 [(0, .inr (.inl 7)), (1, .inl x1)] [] w r) : True ∧ ∃ (v : Option Value) (w1 : px_W), ec_E hb_X n 298 0 [(0, .inr (.inl 7))] [] w (v, w1) ∧ ∀ zz : Int, v = ec_R zz → ec_W hb_A w1 → ec_E hb_X n 296 4 [(0, .inr (.inl 7)), (1, .inl x1)] [.inl zz] w1 r := by
  have h2 := hb_ecw ((0, 1, 0, 0, 0) :: (6, 1, 298, 1, 4) :: []) (by decide +kernel) h
  exact h2
theorem eg296_t7_4_0 {n : Nat} {w : px_W} {r : Option Value × px_W} {x1 s0 : Int} (h : ec_E hb_X n 296 4 [(0, .inr (.inl 7)), (1, .inl x1)] [.inl s0] w r) : ec_tw s0 ≠ ec_tw 0 → True ∧ ∃ (v : Option Value) (w1 : px_W), ec_E hb_X n 300 0 [(0, .inr (.inl 23)), (1, .inl x1)] [] w (v, w1) ∧ ∀ zz : Int, v = ec_R zz → ec_W hb_A w1 → ec_E hb_X n 296 15 [(0, .inr (.inl 7)), (1, .inl x1)] [.inl zz] w1 r := by
  have h2 := hb_ecw ((4, 1, 1, 0, 0) :: (0, 1, 0, 0, 0) :: (5, 9, 0, 0, 0) :: (0, 0, 1, 0, 0) :: (6, 1, 300, 2, 15) :: []) (by decide +kernel) h
  exact h2
theorem eg296_t7_15_0 {n : Nat} {w : px_W} {r : Option Value × px_W} {x1 s0 : Int} (h : ec_E hb_X n 296 15 [(0, .inr (.inl 7)), (1, .inl x1)] [.inl s0] w r) : True ∧ r = (ec_R s0, w) ∧ ec_W hb_A w := by
  have h2 := hb_ecw ((6, 3, 0, 0, 0) :: []) (by decide +kernel) h
  exact h2
/-! J0_coder_7d493 -/
theorem eg297_t8_0_0 {n : Nat} {w : px_W} {r : Option Value × px_W} (h : ec_E hb_X n 297 0 [(0, .inr (.inl 8))] [] w r) : ec_tw 1 ≠ ec_tw 0 → True ∧ r = (ec_R 0, w) ∧ ec_W hb_A w := by
  have h2 := hb_ecw ((0, 9, 0, 0, 0) :: (4, 1, 1, 0, 0) :: (0, 1, 0, 0, 0) :: (5, 10, 0, 0, 0) :: (4, 0, 0, 0, 0) :: (6, 3, 0, 0, 0) :: []) (by decide +kernel) h
  exact h2
/-! J0_isLatin1_aae02 -/
theorem eg298_t8_0_0 {n : Nat} {w : px_W} {r : Option Value × px_W} (h : ec_E hb_X n 298 0 [(0, .inr (.inl 8))] [] w r) : ec_tw 1 ≠ ec_tw 0 → ec_tw 0 = ec_tw 0 → True ∧ r = (ec_R 1, w) ∧ ec_W hb_A w := by
  have h2 := hb_ecw ((0, 9, 0, 0, 0) :: (4, 1, 1, 0, 0) :: (0, 1, 0, 0, 0) :: (5, 10, 0, 0, 0) :: (4, 1, 0, 0, 0) :: (0, 2, 0, 0, 1) :: (4, 0, 0, 0, 0) :: (6, 3, 0, 0, 0) :: []) (by decide +kernel) h
  exact h2
/-! J0_length_8abf5 -/
theorem eg295_t8_0_0 {n : Nat} {w : px_W} {r : Option Value × px_W} (h : ec_E hb_X n 295 0 [(0, .inr (.inl 8))] [] w r) : True ∧ ∃ (v : Option Value) (w1 : px_W), ec_E hb_X n 297 0 [(0, .inr (.inl 8))] [] w (v, w1) ∧ ∀ zz : Int, v = ec_R zz → ec_W hb_A w1 → ec_E hb_X n 295 9 [(0, .inr (.inl 8))] [.inl zz, .inl 4] w1 r := by
  have h2 := hb_ecw ((0, 1, 0, 0, 0) :: (5, 9, 0, 0, 0) :: (5, 11, 0, 0, 0) :: (0, 1, 0, 0, 0) :: (6, 1, 297, 1, 9) :: []) (by decide +kernel) h
  exact h2
theorem eg295_t8_9_0 {n : Nat} {w : px_W} {r : Option Value × px_W} {s0 s1 : Int} (h : ec_E hb_X n 295 9 [(0, .inr (.inl 8))] [.inl s1, .inl s0] w r) : True ∧ r = (ec_R (ec_shr s0 s1), w) ∧ ec_W hb_A w := by
  have h2 := hb_ecw ((1, 7, 0, 0, 0) :: (6, 3, 0, 0, 0) :: []) (by decide +kernel) h
  exact h2
/-! J1_charAt_3b067 -/
theorem eg300_t8_0_0 {n : Nat} {w : px_W} {r : Option Value × px_W} {x1 : Int} (h : ec_E hb_X n 300 0 [(0, .inr (.inl 24)), (1, .inl x1)] [] w r) : True ∧ ∃ (v : Option Value) (w1 : px_W), ec_E hb_X n 299 0 [(0, .inl x1), (1, .inl 4)] [] w (v, w1) ∧ (v = none → ec_W hb_A w1 → ec_E hb_X n 300 6 [(0, .inr (.inl 24)), (1, .inl x1)] [] w1 r) := by
  have h2 := hb_ecw ((0, 0, 1, 0, 0) :: (0, 1, 0, 0, 0) :: (5, 11, 0, 0, 0) :: (6, 2, 299, 2, 6) :: []) (by decide +kernel) h
  exact h2
theorem eg300_t8_6_0 {n : Nat} {w : px_W} {r : Option Value × px_W} {x1 : Int} (h : ec_E hb_X n 300 6 [(0, .inr (.inl 24)), (1, .inl x1)] [] w r) : True ∧ r = (ec_R (ec_ch (ec_and (((hb_lt.getD 7 []).getD (ec_tw x1).toNat 0).toInt) 255)), w) ∧ ec_W hb_A w := by
  have h2 := hb_ecw ((0, 1, 0, 0, 0) :: (0, 0, 1, 0, 0) :: (5, 12, 0, 0, 0) :: (0, 2, 0, 0, 255) :: (1, 3, 0, 0, 0) :: (3, 14, 0, 0, 0) :: (6, 3, 0, 0, 0) :: []) (by decide +kernel) h
  exact h2
/-! J0_charAt_5068e -/
theorem eg296_t8_0_0 {n : Nat} {w : px_W} {r : Option Value × px_W} {x1 : Int} (h : ec_E hb_X n 296 0 [(0, .inr (.inl 8)), (1, .inl x1)] [] w r) : True ∧ ∃ (v : Option Value) (w1 : px_W), ec_E hb_X n 298 0 [(0, .inr (.inl 8))] [] w (v, w1) ∧ ∀ zz : Int, v = ec_R zz → ec_W hb_A w1 → ec_E hb_X n 296 4 [(0, .inr (.inl 8)), (1, .inl x1)] [.inl zz] w1 r := by
  have h2 := hb_ecw ((0, 1, 0, 0, 0) :: (6, 1, 298, 1, 4) :: []) (by decide +kernel) h
  exact h2
theorem eg296_t8_4_0 {n : Nat} {w : px_W} {r : Option Value × px_W} {x1 s0 : Int} (h : ec_E hb_X n 296 4 [(0, .inr (.inl 8)), (1, .inl x1)] [.inl s0] w r) : ec_tw s0 ≠ ec_tw 0 → True ∧ ∃ (v : Option Value) (w1 : px_W), ec_E hb_X n 300 0 [(0, .inr (.inl 24)), (1, .inl x1)] [] w (v, w1) ∧ ∀ zz : Int, v = ec_R zz → ec_W hb_A w1 → ec_E hb_X n 296 15 [(0, .inr (.inl 8)), (1, .inl x1)] [.inl zz] w1 r := by
  have h2 := hb_ecw ((4, 1, 1, 0, 0) :: (0, 1, 0, 0, 0) :: (5, 9, 0, 0, 0) :: (0, 0, 1, 0, 0) :: (6, 1, 300, 2, 15) :: []) (by decide +kernel) h
  exact h2
theorem eg296_t8_15_0 {n : Nat} {w : px_W} {r : Option Value × px_W} {x1 s0 : Int} (h : ec_E hb_X n 296 15 [(0, .inr (.inl 8)), (1, .inl x1)] [.inl s0] w r) : True ∧ r = (ec_R s0, w) ∧ ec_W hb_A w := by
  have h2 := hb_ecw ((6, 3, 0, 0, 0) :: []) (by decide +kernel) h
  exact h2
/-! J0_coder_7d493 -/
theorem eg297_t9_0_0 {n : Nat} {w : px_W} {r : Option Value × px_W} (h : ec_E hb_X n 297 0 [(0, .inr (.inl 9))] [] w r) : ec_tw 1 ≠ ec_tw 0 → True ∧ r = (ec_R 0, w) ∧ ec_W hb_A w := by
  have h2 := hb_ecw ((0, 9, 0, 0, 0) :: (4, 1, 1, 0, 0) :: (0, 1, 0, 0, 0) :: (5, 10, 0, 0, 0) :: (4, 0, 0, 0, 0) :: (6, 3, 0, 0, 0) :: []) (by decide +kernel) h
  exact h2
/-! J0_isLatin1_aae02 -/
theorem eg298_t9_0_0 {n : Nat} {w : px_W} {r : Option Value × px_W} (h : ec_E hb_X n 298 0 [(0, .inr (.inl 9))] [] w r) : ec_tw 1 ≠ ec_tw 0 → ec_tw 0 = ec_tw 0 → True ∧ r = (ec_R 1, w) ∧ ec_W hb_A w := by
  have h2 := hb_ecw ((0, 9, 0, 0, 0) :: (4, 1, 1, 0, 0) :: (0, 1, 0, 0, 0) :: (5, 10, 0, 0, 0) :: (4, 1, 0, 0, 0) :: (0, 2, 0, 0, 1) :: (4, 0, 0, 0, 0) :: (6, 3, 0, 0, 0) :: []) (by decide +kernel) h
  exact h2
/-! J0_length_8abf5 -/
theorem eg295_t9_0_0 {n : Nat} {w : px_W} {r : Option Value × px_W} (h : ec_E hb_X n 295 0 [(0, .inr (.inl 9))] [] w r) : True ∧ ∃ (v : Option Value) (w1 : px_W), ec_E hb_X n 297 0 [(0, .inr (.inl 9))] [] w (v, w1) ∧ ∀ zz : Int, v = ec_R zz → ec_W hb_A w1 → ec_E hb_X n 295 9 [(0, .inr (.inl 9))] [.inl zz, .inl 4] w1 r := by
  have h2 := hb_ecw ((0, 1, 0, 0, 0) :: (5, 9, 0, 0, 0) :: (5, 11, 0, 0, 0) :: (0, 1, 0, 0, 0) :: (6, 1, 297, 1, 9) :: []) (by decide +kernel) h
  exact h2
theorem eg295_t9_9_0 {n : Nat} {w : px_W} {r : Option Value × px_W} {s0 s1 : Int} (h : ec_E hb_X n 295 9 [(0, .inr (.inl 9))] [.inl s1, .inl s0] w r) : True ∧ r = (ec_R (ec_shr s0 s1), w) ∧ ec_W hb_A w := by
  have h2 := hb_ecw ((1, 7, 0, 0, 0) :: (6, 3, 0, 0, 0) :: []) (by decide +kernel) h
  exact h2
/-! J1_charAt_3b067 -/
theorem eg300_t9_0_0 {n : Nat} {w : px_W} {r : Option Value × px_W} {x1 : Int} (h : ec_E hb_X n 300 0 [(0, .inr (.inl 25)), (1, .inl x1)] [] w r) : True ∧ ∃ (v : Option Value) (w1 : px_W), ec_E hb_X n 299 0 [(0, .inl x1), (1, .inl 4)] [] w (v, w1) ∧ (v = none → ec_W hb_A w1 → ec_E hb_X n 300 6 [(0, .inr (.inl 25)), (1, .inl x1)] [] w1 r) := by
  have h2 := hb_ecw ((0, 0, 1, 0, 0) :: (0, 1, 0, 0, 0) :: (5, 11, 0, 0, 0) :: (6, 2, 299, 2, 6) :: []) (by decide +kernel) h
  exact h2
theorem eg300_t9_6_0 {n : Nat} {w : px_W} {r : Option Value × px_W} {x1 : Int} (h : ec_E hb_X n 300 6 [(0, .inr (.inl 25)), (1, .inl x1)] [] w r) : True ∧ r = (ec_R (ec_ch (ec_and (((hb_lt.getD 8 []).getD (ec_tw x1).toNat 0).toInt) 255)), w) ∧ ec_W hb_A w := by
  have h2 := hb_ecw ((0, 1, 0, 0, 0) :: (0, 0, 1, 0, 0) :: (5, 12, 0, 0, 0) :: (0, 2, 0, 0, 255) :: (1, 3, 0, 0, 0) :: (3, 14, 0, 0, 0) :: (6, 3, 0, 0, 0) :: []) (by decide +kernel) h
  exact h2
/-! J0_charAt_5068e -/
theorem eg296_t9_0_0 {n : Nat} {w : px_W} {r : Option Value × px_W} {x1 : Int} (h : ec_E hb_X n 296 0 [(0, .inr (.inl 9)), (1, .inl x1)] [] w r) : True ∧ ∃ (v : Option Value) (w1 : px_W), ec_E hb_X n 298 0 [(0, .inr (.inl 9))] [] w (v, w1) ∧ ∀ zz : Int, v = ec_R zz → ec_W hb_A w1 → ec_E hb_X n 296 4 [(0, .inr (.inl 9)), (1, .inl x1)] [.inl zz] w1 r := by
  have h2 := hb_ecw ((0, 1, 0, 0, 0) :: (6, 1, 298, 1, 4) :: []) (by decide +kernel) h
  exact h2
theorem eg296_t9_4_0 {n : Nat} {w : px_W} {r : Option Value × px_W} {x1 s0 : Int} (h : ec_E hb_X n 296 4 [(0, .inr (.inl 9)), (1, .inl x1)] [.inl s0] w r) : ec_tw s0 ≠ ec_tw 0 → True ∧ ∃ (v : Option Value) (w1 : px_W), ec_E hb_X n 300 0 [(0, .inr (.inl 25)), (1, .inl x1)] [] w (v, w1) ∧ ∀ zz : Int, v = ec_R zz → ec_W hb_A w1 → ec_E hb_X n 296 15 [(0, .inr (.inl 9)), (1, .inl x1)] [.inl zz] w1 r := by
  have h2 := hb_ecw ((4, 1, 1, 0, 0) :: (0, 1, 0, 0, 0) :: (5, 9, 0, 0, 0) :: (0, 0, 1, 0, 0) :: (6, 1, 300, 2, 15) :: []) (by decide +kernel) h
  exact h2
theorem eg296_t9_15_0 {n : Nat} {w : px_W} {r : Option Value × px_W} {x1 s0 : Int} (h : ec_E hb_X n 296 15 [(0, .inr (.inl 9)), (1, .inl x1)] [.inl s0] w r) : True ∧ r = (ec_R s0, w) ∧ ec_W hb_A w := by
  have h2 := hb_ecw ((6, 3, 0, 0, 0) :: []) (by decide +kernel) h
  exact h2
/-! J0_coder_7d493 -/
theorem eg297_t10_0_0 {n : Nat} {w : px_W} {r : Option Value × px_W} (h : ec_E hb_X n 297 0 [(0, .inr (.inl 10))] [] w r) : ec_tw 1 ≠ ec_tw 0 → True ∧ r = (ec_R 0, w) ∧ ec_W hb_A w := by
  have h2 := hb_ecw ((0, 9, 0, 0, 0) :: (4, 1, 1, 0, 0) :: (0, 1, 0, 0, 0) :: (5, 10, 0, 0, 0) :: (4, 0, 0, 0, 0) :: (6, 3, 0, 0, 0) :: []) (by decide +kernel) h
  exact h2
/-! J0_isLatin1_aae02 -/
theorem eg298_t10_0_0 {n : Nat} {w : px_W} {r : Option Value × px_W} (h : ec_E hb_X n 298 0 [(0, .inr (.inl 10))] [] w r) : ec_tw 1 ≠ ec_tw 0 → ec_tw 0 = ec_tw 0 → True ∧ r = (ec_R 1, w) ∧ ec_W hb_A w := by
  have h2 := hb_ecw ((0, 9, 0, 0, 0) :: (4, 1, 1, 0, 0) :: (0, 1, 0, 0, 0) :: (5, 10, 0, 0, 0) :: (4, 1, 0, 0, 0) :: (0, 2, 0, 0, 1) :: (4, 0, 0, 0, 0) :: (6, 3, 0, 0, 0) :: []) (by decide +kernel) h
  exact h2
/-! J0_length_8abf5 -/
theorem eg295_t10_0_0 {n : Nat} {w : px_W} {r : Option Value × px_W} (h : ec_E hb_X n 295 0 [(0, .inr (.inl 10))] [] w r) : True ∧ ∃ (v : Option Value) (w1 : px_W), ec_E hb_X n 297 0 [(0, .inr (.inl 10))] [] w (v, w1) ∧ ∀ zz : Int, v = ec_R zz → ec_W hb_A w1 → ec_E hb_X n 295 9 [(0, .inr (.inl 10))] [.inl zz, .inl 5] w1 r := by
  have h2 := hb_ecw ((0, 1, 0, 0, 0) :: (5, 9, 0, 0, 0) :: (5, 11, 0, 0, 0) :: (0, 1, 0, 0, 0) :: (6, 1, 297, 1, 9) :: []) (by decide +kernel) h
  exact h2
theorem eg295_t10_9_0 {n : Nat} {w : px_W} {r : Option Value × px_W} {s0 s1 : Int} (h : ec_E hb_X n 295 9 [(0, .inr (.inl 10))] [.inl s1, .inl s0] w r) : True ∧ r = (ec_R (ec_shr s0 s1), w) ∧ ec_W hb_A w := by
  have h2 := hb_ecw ((1, 7, 0, 0, 0) :: (6, 3, 0, 0, 0) :: []) (by decide +kernel) h
  exact h2
/-! J1_charAt_3b067 -/
theorem eg300_t10_0_0 {n : Nat} {w : px_W} {r : Option Value × px_W} {x1 : Int} (h : ec_E hb_X n 300 0 [(0, .inr (.inl 26)), (1, .inl x1)] [] w r) : True ∧ ∃ (v : Option Value) (w1 : px_W), ec_E hb_X n 299 0 [(0, .inl x1), (1, .inl 5)] [] w (v, w1) ∧ (v = none → ec_W hb_A w1 → ec_E hb_X n 300 6 [(0, .inr (.inl 26)), (1, .inl x1)] [] w1 r) := by
  have h2 := hb_ecw ((0, 0, 1, 0, 0) :: (0, 1, 0, 0, 0) :: (5, 11, 0, 0, 0) :: (6, 2, 299, 2, 6) :: []) (by decide +kernel) h
  exact h2
theorem eg300_t10_6_0 {n : Nat} {w : px_W} {r : Option Value × px_W} {x1 : Int} (h : ec_E hb_X n 300 6 [(0, .inr (.inl 26)), (1, .inl x1)] [] w r) : True ∧ r = (ec_R (ec_ch (ec_and (((hb_lt.getD 9 []).getD (ec_tw x1).toNat 0).toInt) 255)), w) ∧ ec_W hb_A w := by
  have h2 := hb_ecw ((0, 1, 0, 0, 0) :: (0, 0, 1, 0, 0) :: (5, 12, 0, 0, 0) :: (0, 2, 0, 0, 255) :: (1, 3, 0, 0, 0) :: (3, 14, 0, 0, 0) :: (6, 3, 0, 0, 0) :: []) (by decide +kernel) h
  exact h2
/-! J0_charAt_5068e -/
theorem eg296_t10_0_0 {n : Nat} {w : px_W} {r : Option Value × px_W} {x1 : Int} (h : ec_E hb_X n 296 0 [(0, .inr (.inl 10)), (1, .inl x1)] [] w r) : True ∧ ∃ (v : Option Value) (w1 : px_W), ec_E hb_X n 298 0 [(0, .inr (.inl 10))] [] w (v, w1) ∧ ∀ zz : Int, v = ec_R zz → ec_W hb_A w1 → ec_E hb_X n 296 4 [(0, .inr (.inl 10)), (1, .inl x1)] [.inl zz] w1 r := by
  have h2 := hb_ecw ((0, 1, 0, 0, 0) :: (6, 1, 298, 1, 4) :: []) (by decide +kernel) h
  exact h2
theorem eg296_t10_4_0 {n : Nat} {w : px_W} {r : Option Value × px_W} {x1 s0 : Int} (h : ec_E hb_X n 296 4 [(0, .inr (.inl 10)), (1, .inl x1)] [.inl s0] w r) : ec_tw s0 ≠ ec_tw 0 → True ∧ ∃ (v : Option Value) (w1 : px_W), ec_E hb_X n 300 0 [(0, .inr (.inl 26)), (1, .inl x1)] [] w (v, w1) ∧ ∀ zz : Int, v = ec_R zz → ec_W hb_A w1 → ec_E hb_X n 296 15 [(0, .inr (.inl 10)), (1, .inl x1)] [.inl zz] w1 r := by
  have h2 := hb_ecw ((4, 1, 1, 0, 0) :: (0, 1, 0, 0, 0) :: (5, 9, 0, 0, 0) :: (0, 0, 1, 0, 0) :: (6, 1, 300, 2, 15) :: []) (by decide +kernel) h
  exact h2
theorem eg296_t10_15_0 {n : Nat} {w : px_W} {r : Option Value × px_W} {x1 s0 : Int} (h : ec_E hb_X n 296 15 [(0, .inr (.inl 10)), (1, .inl x1)] [.inl s0] w r) : True ∧ r = (ec_R s0, w) ∧ ec_W hb_A w := by
  have h2 := hb_ecw ((6, 3, 0, 0, 0) :: []) (by decide +kernel) h
  exact h2
/-! J0_coder_7d493 -/
theorem eg297_t11_0_0 {n : Nat} {w : px_W} {r : Option Value × px_W} (h : ec_E hb_X n 297 0 [(0, .inr (.inl 11))] [] w r) : ec_tw 1 ≠ ec_tw 0 → True ∧ r = (ec_R 0, w) ∧ ec_W hb_A w := by
  have h2 := hb_ecw ((0, 9, 0, 0, 0) :: (4, 1, 1, 0, 0) :: (0, 1, 0, 0, 0) :: (5, 10, 0, 0, 0) :: (4, 0, 0, 0, 0) :: (6, 3, 0, 0, 0) :: []) (by decide +kernel) h
  exact h2
/-! J0_isLatin1_aae02 -/
theorem eg298_t11_0_0 {n : Nat} {w : px_W} {r : Option Value × px_W} (h : ec_E hb_X n 298 0 [(0, .inr (.inl 11))] [] w r) : ec_tw 1 ≠ ec_tw 0 → ec_tw 0 = ec_tw 0 → True ∧ r = (ec_R 1, w) ∧ ec_W hb_A w := by
  have h2 := hb_ecw ((0, 9, 0, 0, 0) :: (4, 1, 1, 0, 0) :: (0, 1, 0, 0, 0) :: (5, 10, 0, 0, 0) :: (4, 1, 0, 0, 0) :: (0, 2, 0, 0, 1) :: (4, 0, 0, 0, 0) :: (6, 3, 0, 0, 0) :: []) (by decide +kernel) h
  exact h2
/-! J0_length_8abf5 -/
theorem eg295_t11_0_0 {n : Nat} {w : px_W} {r : Option Value × px_W} (h : ec_E hb_X n 295 0 [(0, .inr (.inl 11))] [] w r) : True ∧ ∃ (v : Option Value) (w1 : px_W), ec_E hb_X n 297 0 [(0, .inr (.inl 11))] [] w (v, w1) ∧ ∀ zz : Int, v = ec_R zz → ec_W hb_A w1 → ec_E hb_X n 295 9 [(0, .inr (.inl 11))] [.inl zz, .inl 5] w1 r := by
  have h2 := hb_ecw ((0, 1, 0, 0, 0) :: (5, 9, 0, 0, 0) :: (5, 11, 0, 0, 0) :: (0, 1, 0, 0, 0) :: (6, 1, 297, 1, 9) :: []) (by decide +kernel) h
  exact h2
theorem eg295_t11_9_0 {n : Nat} {w : px_W} {r : Option Value × px_W} {s0 s1 : Int} (h : ec_E hb_X n 295 9 [(0, .inr (.inl 11))] [.inl s1, .inl s0] w r) : True ∧ r = (ec_R (ec_shr s0 s1), w) ∧ ec_W hb_A w := by
  have h2 := hb_ecw ((1, 7, 0, 0, 0) :: (6, 3, 0, 0, 0) :: []) (by decide +kernel) h
  exact h2
/-! J1_charAt_3b067 -/
theorem eg300_t11_0_0 {n : Nat} {w : px_W} {r : Option Value × px_W} {x1 : Int} (h : ec_E hb_X n 300 0 [(0, .inr (.inl 27)), (1, .inl x1)] [] w r) : True ∧ ∃ (v : Option Value) (w1 : px_W), ec_E hb_X n 299 0 [(0, .inl x1), (1, .inl 5)] [] w (v, w1) ∧ (v = none → ec_W hb_A w1 → ec_E hb_X n 300 6 [(0, .inr (.inl 27)), (1, .inl x1)] [] w1 r) := by
  have h2 := hb_ecw ((0, 0, 1, 0, 0) :: (0, 1, 0, 0, 0) :: (5, 11, 0, 0, 0) :: (6, 2, 299, 2, 6) :: []) (by decide +kernel) h
  exact h2
theorem eg300_t11_6_0 {n : Nat} {w : px_W} {r : Option Value × px_W} {x1 : Int} (h : ec_E hb_X n 300 6 [(0, .inr (.inl 27)), (1, .inl x1)] [] w r) : True ∧ r = (ec_R (ec_ch (ec_and (((hb_lt.getD 10 []).getD (ec_tw x1).toNat 0).toInt) 255)), w) ∧ ec_W hb_A w := by
  have h2 := hb_ecw ((0, 1, 0, 0, 0) :: (0, 0, 1, 0, 0) :: (5, 12, 0, 0, 0) :: (0, 2, 0, 0, 255) :: (1, 3, 0, 0, 0) :: (3, 14, 0, 0, 0) :: (6, 3, 0, 0, 0) :: []) (by decide +kernel) h
  exact h2
/-! J0_charAt_5068e -/
theorem eg296_t11_0_0 {n : Nat} {w : px_W} {r : Option Value × px_W} {x1 : Int} (h : ec_E hb_X n 296 0 [(0, .inr (.inl 11)), (1, .inl x1)] [] w r) : True ∧ ∃ (v : Option Value) (w1 : px_W), ec_E hb_X n 298 0 [(0, .inr (.inl 11))] [] w (v, w1) ∧ ∀ zz : Int, v = ec_R zz → ec_W hb_A w1 → ec_E hb_X n 296 4 [(0, .inr (.inl 11)), (1, .inl x1)] [.inl zz] w1 r := by
  have h2 := hb_ecw ((0, 1, 0, 0, 0) :: (6, 1, 298, 1, 4) :: []) (by decide +kernel) h
  exact h2
theorem eg296_t11_4_0 {n : Nat} {w : px_W} {r : Option Value × px_W} {x1 s0 : Int} (h : ec_E hb_X n 296 4 [(0, .inr (.inl 11)), (1, .inl x1)] [.inl s0] w r) : ec_tw s0 ≠ ec_tw 0 → True ∧ ∃ (v : Option Value) (w1 : px_W), ec_E hb_X n 300 0 [(0, .inr (.inl 27)), (1, .inl x1)] [] w (v, w1) ∧ ∀ zz : Int, v = ec_R zz → ec_W hb_A w1 → ec_E hb_X n 296 15 [(0, .inr (.inl 11)), (1, .inl x1)] [.inl zz] w1 r := by
  have h2 := hb_ecw ((4, 1, 1, 0, 0) :: (0, 1, 0, 0, 0) :: (5, 9, 0, 0, 0) :: (0, 0, 1, 0, 0) :: (6, 1, 300, 2, 15) :: []) (by decide +kernel) h
  exact h2
theorem eg296_t11_15_0 {n : Nat} {w : px_W} {r : Option Value × px_W} {x1 s0 : Int} (h : ec_E hb_X n 296 15 [(0, .inr (.inl 11)), (1, .inl x1)] [.inl s0] w r) : True ∧ r = (ec_R s0, w) ∧ ec_W hb_A w := by
  have h2 := hb_ecw ((6, 3, 0, 0, 0) :: []) (by decide +kernel) h
  exact h2
/-! J0_coder_7d493 -/
theorem eg297_t12_0_0 {n : Nat} {w : px_W} {r : Option Value × px_W} (h : ec_E hb_X n 297 0 [(0, .inr (.inl 12))] [] w r) : ec_tw 1 ≠ ec_tw 0 → True ∧ r = (ec_R 0, w) ∧ ec_W hb_A w := by
  have h2 := hb_ecw ((0, 9, 0, 0, 0) :: (4, 1, 1, 0, 0) :: (0, 1, 0, 0, 0) :: (5, 10, 0, 0, 0) :: (4, 0, 0, 0, 0) :: (6, 3, 0, 0, 0) :: []) (by decide +kernel) h
  exact h2
/-! J0_isLatin1_aae02 -/
theorem eg298_t12_0_0 {n : Nat} {w : px_W} {r : Option Value × px_W} (h : ec_E hb_X n 298 0 [(0, .inr (.inl 12))] [] w r) : ec_tw 1 ≠ ec_tw 0 → ec_tw 0 = ec_tw 0 → True ∧ r = (ec_R 1, w) ∧ ec_W hb_A w := by
  have h2 := hb_ecw ((0, 9, 0, 0, 0) :: (4, 1, 1, 0, 0) :: (0, 1, 0, 0, 0) :: (5, 10, 0, 0, 0) :: (4, 1, 0, 0, 0) :: (0, 2, 0, 0, 1) :: (4, 0, 0, 0, 0) :: (6, 3, 0, 0, 0) :: []) (by decide +kernel) h
  exact h2
/-! J0_length_8abf5 -/
theorem eg295_t12_0_0 {n : Nat} {w : px_W} {r : Option Value × px_W} (h : ec_E hb_X n 295 0 [(0, .inr (.inl 12))] [] w r) : True ∧ ∃ (v : Option Value) (w1 : px_W), ec_E hb_X n 297 0 [(0, .inr (.inl 12))] [] w (v, w1) ∧ ∀ zz : Int, v = ec_R zz → ec_W hb_A w1 → ec_E hb_X n 295 9 [(0, .inr (.inl 12))] [.inl zz, .inl 5] w1 r := by
  have h2 := hb_ecw ((0, 1, 0, 0, 0) :: (5, 9, 0, 0, 0) :: (5, 11, 0, 0, 0) :: (0, 1, 0, 0, 0) :: (6, 1, 297, 1, 9) :: []) (by decide +kernel) h
  exact h2
theorem eg295_t12_9_0 {n : Nat} {w : px_W} {r : Option Value × px_W} {s0 s1 : Int} (h : ec_E hb_X n 295 9 [(0, .inr (.inl 12))] [.inl s1, .inl s0] w r) : True ∧ r = (ec_R (ec_shr s0 s1), w) ∧ ec_W hb_A w := by
  have h2 := hb_ecw ((1, 7, 0, 0, 0) :: (6, 3, 0, 0, 0) :: []) (by decide +kernel) h
  exact h2
/-! J1_charAt_3b067 -/
theorem eg300_t12_0_0 {n : Nat} {w : px_W} {r : Option Value × px_W} {x1 : Int} (h : ec_E hb_X n 300 0 [(0, .inr (.inl 28)), (1, .inl x1)] [] w r) : True ∧ ∃ (v : Option Value) (w1 : px_W), ec_E hb_X n 299 0 [(0, .inl x1), (1, .inl 5)] [] w (v, w1) ∧ (v = none → ec_W hb_A w1 → ec_E hb_X n 300 6 [(0, .inr (.inl 28)), (1, .inl x1)] [] w1 r) := by
  have h2 := hb_ecw ((0, 0, 1, 0, 0) :: (0, 1, 0, 0, 0) :: (5, 11, 0, 0, 0) :: (6, 2, 299, 2, 6) :: []) (by decide +kernel) h
  exact h2
theorem eg300_t12_6_0 {n : Nat} {w : px_W} {r : Option Value × px_W} {x1 : Int} (h : ec_E hb_X n 300 6 [(0, .inr (.inl 28)), (1, .inl x1)] [] w r) : True ∧ r = (ec_R (ec_ch (ec_and (((hb_lt.getD 11 []).getD (ec_tw x1).toNat 0).toInt) 255)), w) ∧ ec_W hb_A w := by
  have h2 := hb_ecw ((0, 1, 0, 0, 0) :: (0, 0, 1, 0, 0) :: (5, 12, 0, 0, 0) :: (0, 2, 0, 0, 255) :: (1, 3, 0, 0, 0) :: (3, 14, 0, 0, 0) :: (6, 3, 0, 0, 0) :: []) (by decide +kernel) h
  exact h2
/-! J0_charAt_5068e -/
theorem eg296_t12_0_0 {n : Nat} {w : px_W} {r : Option Value × px_W} {x1 : Int} (h : ec_E hb_X n 296 0 [(0, .inr (.inl 12)), (1, .inl x1)] [] w r) : True ∧ ∃ (v : Option Value) (w1 : px_W), ec_E hb_X n 298 0 [(0, .inr (.inl 12))] [] w (v, w1) ∧ ∀ zz : Int, v = ec_R zz → ec_W hb_A w1 → ec_E hb_X n 296 4 [(0, .inr (.inl 12)), (1, .inl x1)] [.inl zz] w1 r := by
  have h2 := hb_ecw ((0, 1, 0, 0, 0) :: (6, 1, 298, 1, 4) :: []) (by decide +kernel) h
  exact h2
theorem eg296_t12_4_0 {n : Nat} {w : px_W} {r : Option Value × px_W} {x1 s0 : Int} (h : ec_E hb_X n 296 4 [(0, .inr (.inl 12)), (1, .inl x1)] [.inl s0] w r) : ec_tw s0 ≠ ec_tw 0 → True ∧ ∃ (v : Option Value) (w1 : px_W), ec_E hb_X n 300 0 [(0, .inr (.inl 28)), (1, .inl x1)] [] w (v, w1) ∧ ∀ zz : Int, v = ec_R zz → ec_W hb_A w1 → ec_E hb_X n 296 15 [(0, .inr (.inl 12)), (1, .inl x1)] [.inl zz] w1 r := by
  have h2 := hb_ecw ((4, 1, 1, 0, 0) :: (0, 1, 0, 0, 0) :: (5, 9, 0, 0, 0) :: (0, 0, 1, 0, 0) :: (6, 1, 300, 2, 15) :: []) (by decide +kernel) h
  exact h2
theorem eg296_t12_15_0 {n : Nat} {w : px_W} {r : Option Value × px_W} {x1 s0 : Int} (h : ec_E hb_X n 296 15 [(0, .inr (.inl 12)), (1, .inl x1)] [.inl s0] w r) : True ∧ r = (ec_R s0, w) ∧ ec_W hb_A w := by
  have h2 := hb_ecw ((6, 3, 0, 0, 0) :: []) (by decide +kernel) h
  exact h2
/-! J0_coder_7d493 -/
theorem eg297_t13_0_0 {n : Nat} {w : px_W} {r : Option Value × px_W} (h : ec_E hb_X n 297 0 [(0, .inr (.inl 13))] [] w r) : ec_tw 1 ≠ ec_tw 0 → True ∧ r = (ec_R 0, w) ∧ ec_W hb_A w := by
  have h2 := hb_ecw ((0, 9, 0, 0, 0) :: (4, 1, 1, 0, 0) :: (0, 1, 0, 0, 0) :: (5, 10, 0, 0, 0) :: (4, 0, 0, 0, 0) :: (6, 3, 0, 0, 0) :: []) (by decide +kernel) h
  exact h2
/-! J0_isLatin1_aae02 -/
theorem eg298_t13_0_0 {n : Nat} {w : px_W} {r : Option Value × px_W} (h : ec_E hb_X n 298 0 [(0, .inr (.inl 13))] [] w r) : ec_tw 1 ≠ ec_tw 0 → ec_tw 0 = ec_tw 0 → True ∧ r = (ec_R 1, w) ∧ ec_W hb_A w := by
  have h2 := hb_ecw ((0, 9, 0, 0, 0) :: (4, 1, 1, 0, 0) :: (0, 1, 0, 0, 0) :: (5, 10, 0, 0, 0) :: (4, 1, 0, 0, 0) :: (0, 2, 0, 0, 1) :: (4, 0, 0, 0, 0) :: (6, 3, 0, 0, 0) :: []) (by decide +kernel) h
  exact h2
/-! J0_length_8abf5 -/
theorem eg295_t13_0_0 {n : Nat} {w : px_W} {r : Option Value × px_W} (h : ec_E hb_X n 295 0 [(0, .inr (.inl 13))] [] w r) : True ∧ ∃ (v : Option Value) (w1 : px_W), ec_E hb_X n 297 0 [(0, .inr (.inl 13))] [] w (v, w1) ∧ ∀ zz : Int, v = ec_R zz → ec_W hb_A w1 → ec_E hb_X n 295 9 [(0, .inr (.inl 13))] [.inl zz, .inl 5] w1 r := by
  have h2 := hb_ecw ((0, 1, 0, 0, 0) :: (5, 9, 0, 0, 0) :: (5, 11, 0, 0, 0) :: (0, 1, 0, 0, 0) :: (6, 1, 297, 1, 9) :: []) (by decide +kernel) h
  exact h2
theorem eg295_t13_9_0 {n : Nat} {w : px_W} {r : Option Value × px_W} {s0 s1 : Int} (h : ec_E hb_X n 295 9 [(0, .inr (.inl 13))] [.inl s1, .inl s0] w r) : True ∧ r = (ec_R (ec_shr s0 s1), w) ∧ ec_W hb_A w := by
  have h2 := hb_ecw ((1, 7, 0, 0, 0) :: (6, 3, 0, 0, 0) :: []) (by decide +kernel) h
  exact h2
/-! J1_charAt_3b067 -/
theorem eg300_t13_0_0 {n : Nat} {w : px_W} {r : Option Value × px_W} {x1 : Int} (h : ec_E hb_X n 300 0 [(0, .inr (.inl 29)), (1, .inl x1)] [] w r) : True ∧ ∃ (v : Option Value) (w1 : px_W), ec_E hb_X n 299 0 [(0, .inl x1), (1, .inl 5)] [] w (v, w1) ∧ (v = none → ec_W hb_A w1 → ec_E hb_X n 300 6 [(0, .inr (.inl 29)), (1, .inl x1)] [] w1 r) := by
  have h2 := hb_ecw ((0, 0, 1, 0, 0) :: (0, 1, 0, 0, 0) :: (5, 11, 0, 0, 0) :: (6, 2, 299, 2, 6) :: []) (by decide +kernel) h
  exact h2
theorem eg300_t13_6_0 {n : Nat} {w : px_W} {r : Option Value × px_W} {x1 : Int} (h : ec_E hb_X n 300 6 [(0, .inr (.inl 29)), (1, .inl x1)] [] w r) : True ∧ r = (ec_R (ec_ch (ec_and (((hb_lt.getD 12 []).getD (ec_tw x1).toNat 0).toInt) 255)), w) ∧ ec_W hb_A w := by
  have h2 := hb_ecw ((0, 1, 0, 0, 0) :: (0, 0, 1, 0, 0) :: (5, 12, 0, 0, 0) :: (0, 2, 0, 0, 255) :: (1, 3, 0, 0, 0) :: (3, 14, 0, 0, 0) :: (6, 3, 0, 0, 0) :: []) (by decide +kernel) h
  exact h2
/-! J0_charAt_5068e -/
theorem eg296_t13_0_0 {n : Nat} {w : px_W} {r : Option Value × px_W} {x1 : Int} (h : ec_E hb_X n 296 0 [(0, .inr (.inl 13)), (1, .inl x1)] [] w r) : True ∧ ∃ (v : Option Value) (w1 : px_W), ec_E hb_X n 298 0 [(0, .inr (.inl 13))] [] w (v, w1) ∧ ∀ zz : Int, v = ec_R zz → ec_W hb_A w1 → ec_E hb_X n 296 4 [(0, .inr (.inl 13)), (1, .inl x1)] [.inl zz] w1 r := by
  have h2 := hb_ecw ((0, 1, 0, 0, 0) :: (6, 1, 298, 1, 4) :: []) (by decide +kernel) h
  exact h2
theorem eg296_t13_4_0 {n : Nat} {w : px_W} {r : Option Value × px_W} {x1 s0 : Int} (h : ec_E hb_X n 296 4 [(0, .inr (.inl 13)), (1, .inl x1)] [.inl s0] w r) : ec_tw s0 ≠ ec_tw 0 → True ∧ ∃ (v : Option Value) (w1 : px_W), ec_E hb_X n 300 0 [(0, .inr (.inl 29)), (1, .inl x1)] [] w (v, w1) ∧ ∀ zz : Int, v = ec_R zz → ec_W hb_A w1 → ec_E hb_X n 296 15 [(0, .inr (.inl 13)), (1, .inl x1)] [.inl zz] w1 r := by
  have h2 := hb_ecw ((4, 1, 1, 0, 0) :: (0, 1, 0, 0, 0) :: (5, 9, 0, 0, 0) :: (0, 0, 1, 0, 0) :: (6, 1, 300, 2, 15) :: []) (by decide +kernel) h
  exact h2
theorem eg296_t13_15_0 {n : Nat} {w : px_W} {r : Option Value × px_W} {x1 s0 : Int} (h : ec_E hb_X n 296 15 [(0, .inr (.inl 13)), (1, .inl x1)] [.inl s0] w r) : True ∧ r = (ec_R s0, w) ∧ ec_W hb_A w := by
  have h2 := hb_ecw ((6, 3, 0, 0, 0) :: []) (by decide +kernel) h
  exact h2
/-! J0_coder_7d493 -/
theorem eg297_t14_0_0 {n : Nat} {w : px_W} {r : Option Value × px_W} (h : ec_E hb_X n 297 0 [(0, .inr (.inl 14))] [] w r) : ec_tw 1 ≠ ec_tw 0 → True ∧ r = (ec_R 0, w) ∧ ec_W hb_A w := by
  have h2 := hb_ecw ((0, 9, 0, 0, 0) :: (4, 1, 1, 0, 0) :: (0, 1, 0, 0, 0) :: (5, 10, 0, 0, 0) :: (4, 0, 0, 0, 0) :: (6, 3, 0, 0, 0) :: []) (by decide +kernel) h
  exact h2
/-! J0_isLatin1_aae02 -/
theorem eg298_t14_0_0 {n : Nat} {w : px_W} {r : Option Value × px_W} (h : ec_E hb_X n 298 0 [(0, .inr (.inl 14))] [] w r) : ec_tw 1 ≠ ec_tw 0 → ec_tw 0 = ec_tw 0 → True ∧ r = (ec_R 1, w) ∧ ec_W hb_A w := by
  have h2 := hb_ecw ((0, 9, 0, 0, 0) :: (4, 1, 1, 0, 0) :: (0, 1, 0, 0, 0) :: (5, 10, 0, 0, 0) :: (4, 1, 0, 0, 0) :: (0, 2, 0, 0, 1) :: (4, 0, 0, 0, 0) :: (6, 3, 0, 0, 0) :: []) (by decide +kernel) h
  exact h2
/-! J0_length_8abf5 -/
theorem eg295_t14_0_0 {n : Nat} {w : px_W} {r : Option Value × px_W} (h : ec_E hb_X n 295 0 [(0, .inr (.inl 14))] [] w r) : True ∧ ∃ (v : Option Value) (w1 : px_W), ec_E hb_X n 297 0 [(0, .inr (.inl 14))] [] w (v, w1) ∧ ∀ zz : Int, v = ec_R zz → ec_W hb_A w1 → ec_E hb_X n 295 9 [(0, .inr (.inl 14))] [.inl zz, .inl 5] w1 r := by
  have h2 := hb_ecw ((0, 1, 0, 0, 0) :: (5, 9, 0, 0, 0) :: (5, 11, 0, 0, 0) :: (0, 1, 0, 0, 0) :: (6, 1, 297, 1, 9) :: []) (by decide +kernel) h
  exact h2
theorem eg295_t14_9_0 {n : Nat} {w : px_W} {r : Option Value × px_W} {s0 s1 : Int} (h : ec_E hb_X n 295 9 [(0, .inr (.inl 14))] [.inl s1, .inl s0] w r) : True ∧ r = (ec_R (ec_shr s0 s1), w) ∧ ec_W hb_A w := by
  have h2 := hb_ecw ((1, 7, 0, 0, 0) :: (6, 3, 0, 0, 0) :: []) (by decide +kernel) h
  exact h2
/-! J1_charAt_3b067 -/
theorem eg300_t14_0_0 {n : Nat} {w : px_W} {r : Option Value × px_W} {x1 : Int} (h : ec_E hb_X n 300 0 [(0, .inr (.inl 30)), (1, .inl x1)] [] w r) : True ∧ ∃ (v : Option Value) (w1 : px_W), ec_E hb_X n 299 0 [(0, .inl x1), (1, .inl 5)] [] w (v, w1) ∧ (v = none → ec_W hb_A w1 → ec_E hb_X n 300 6 [(0, .inr (.inl 30)), (1, .inl x1)] [] w1 r) := by
  have h2 := hb_ecw ((0, 0, 1, 0, 0) :: (0, 1, 0, 0, 0) :: (5, 11, 0, 0, 0) :: (6, 2, 299, 2, 6) :: []) (by decide +kernel) h
  exact h2
theorem eg300_t14_6_0 {n : Nat} {w : px_W} {r : Option Value × px_W} {x1 : Int} (h : ec_E hb_X n 300 6 [(0, .inr (.inl 30)), (1, .inl x1)] [] w r) : True ∧ r = (ec_R (ec_ch (ec_and (((hb_lt.getD 13 []).getD (ec_tw x1).toNat 0).toInt) 255)), w) ∧ ec_W hb_A w := by
  have h2 := hb_ecw ((0, 1, 0, 0, 0) :: (0, 0, 1, 0, 0) :: (5, 12, 0, 0, 0) :: (0, 2, 0, 0, 255) :: (1, 3, 0, 0, 0) :: (3, 14, 0, 0, 0) :: (6, 3, 0, 0, 0) :: []) (by decide +kernel) h
  exact h2
/-! J0_charAt_5068e -/
theorem eg296_t14_0_0 {n : Nat} {w : px_W} {r : Option Value × px_W} {x1 : Int} (h : ec_E hb_X n 296 0 [(0, .inr (.inl 14)), (1, .inl x1)] [] w r) : True ∧ ∃ (v : Option Value) (w1 : px_W), ec_E hb_X n 298 0 [(0, .inr (.inl 14))] [] w (v, w1) ∧ ∀ zz : Int, v = ec_R zz → ec_W hb_A w1 → ec_E hb_X n 296 4 [(0, .inr (.inl 14)), (1, .inl x1)] [.inl zz] w1 r := by
  have h2 := hb_ecw ((0, 1, 0, 0, 0) :: (6, 1, 298, 1, 4) :: []) (by decide +kernel) h
  exact h2
theorem eg296_t14_4_0 {n : Nat} {w : px_W} {r : Option Value × px_W} {x1 s0 : Int} (h : ec_E hb_X n 296 4 [(0, .inr (.inl 14)), (1, .inl x1)] [.inl s0] w r) : ec_tw s0 ≠ ec_tw 0 → True ∧ ∃ (v : Option Value) (w1 : px_W), ec_E hb_X n 300 0 [(0, .inr (.inl 30)), (1, .inl x1)] [] w (v, w1) ∧ ∀ zz : Int, v = ec_R zz → ec_W hb_A w1 → ec_E hb_X n 296 15 [(0, .inr (.inl 14)), (1, .inl x1)] [.inl zz] w1 r := by
  have h2 := hb_ecw ((4, 1, 1, 0, 0) :: (0, 1, 0, 0, 0) :: (5, 9, 0, 0, 0) :: (0, 0, 1, 0, 0) :: (6, 1, 300, 2, 15) :: []) (by decide +kernel) h
  exact h2
theorem eg296_t14_15_0 {n : Nat} {w : px_W} {r : Option Value × px_W} {x1 s0 : Int} (h : ec_E hb_X n 296 15 [(0, .inr (.inl 14)), (1, .inl x1)] [.inl s0] w r) : True ∧ r = (ec_R s0, w) ∧ ec_W hb_A w := by
  have h2 := hb_ecw ((6, 3, 0, 0, 0) :: []) (by decide +kernel) h
  exact h2
/-! J0_coder_7d493 -/
theorem eg297_t15_0_0 {n : Nat} {w : px_W} {r : Option Value × px_W} (h : ec_E hb_X n 297 0 [(0, .inr (.inl 15))] [] w r) : ec_tw 1 ≠ ec_tw 0 → True ∧ r = (ec_R 0, w) ∧ ec_W hb_A w := by
  have h2 := hb_ecw ((0, 9, 0, 0, 0) :: (4, 1, 1, 0, 0) :: (0, 1, 0, 0, 0) :: (5, 10, 0, 0, 0) :: (4, 0, 0, 0, 0) :: (6, 3, 0, 0, 0) :: []) (by decide +kernel) h
  exact h2
/-! J0_isLatin1_aae02 -/
theorem eg298_t15_0_0 {n : Nat} {w : px_W} {r : Option Value × px_W} (h : ec_E hb_X n 298 0 [(0, .inr (.inl 15))] [] w r) : ec_tw 1 ≠ ec_tw 0 → ec_tw 0 = ec_tw 0 → True ∧ r = (ec_R 1, w) ∧ ec_W hb_A w := by
  have h2 := hb_ecw ((0, 9, 0, 0, 0) :: (4, 1, 1, 0, 0) :: (0, 1, 0, 0, 0) :: (5, 10, 0, 0, 0) :: (4, 1, 0, 0, 0) :: (0, 2, 0, 0, 1) :: (4, 0, 0, 0, 0) :: (6, 3, 0, 0, 0) :: []) (by decide +kernel) h
  exact h2
/-! J0_length_8abf5 -/
theorem eg295_t15_0_0 {n : Nat} {w : px_W} {r : Option Value × px_W} (h : ec_E hb_X n 295 0 [(0, .inr (.inl 15))] [] w r) : True ∧ ∃ (v : Option Value) (w1 : px_W), ec_E hb_X n 297 0 [(0, .inr (.inl 15))] [] w (v, w1) ∧ ∀ zz : Int, v = ec_R zz → ec_W hb_A w1 → ec_E hb_X n 295 9 [(0, .inr (.inl 15))] [.inl zz, .inl 6] w1 r := by
  have h2 := hb_ecw ((0, 1, 0, 0, 0) :: (5, 9, 0, 0, 0) :: (5, 11, 0, 0, 0) :: (0, 1, 0, 0, 0) :: (6, 1, 297, 1, 9) :: []) (by decide +kernel) h
  exact h2
theorem eg295_t15_9_0 {n : Nat} {w : px_W} {r : Option Value × px_W} {s0 s1 : Int} (h : ec_E hb_X n 295 9 [(0, .inr (.inl 15))] [.inl s1, .inl s0] w r) : True ∧ r = (ec_R (ec_shr s0 s1), w) ∧ ec_W hb_A w := by
  have h2 := hb_ecw ((1, 7, 0, 0, 0) :: (6, 3, 0, 0, 0) :: []) (by decide +kernel) h
  exact h2
/-! J1_charAt_3b067 -/
theorem eg300_t15_0_0 {n : Nat} {w : px_W} {r : Option Value × px_W} {x1 : Int} (h : ec_E hb_X n 300 0 [(0, .inr (.inl 31)), (1, .inl x1)] [] w r) : True ∧ ∃ (v : Option Value) (w1 : px_W), ec_E hb_X n 299 0 [(0, .inl x1), (1, .inl 6)] [] w (v, w1) ∧ (v = none → ec_W hb_A w1 → ec_E hb_X n 300 6 [(0, .inr (.inl 31)), (1, .inl x1)] [] w1 r) := by
  have h2 := hb_ecw ((0, 0, 1, 0, 0) :: (0, 1, 0, 0, 0) :: (5, 11, 0, 0, 0) :: (6, 2, 299, 2, 6) :: []) (by decide +kernel) h
  exact h2
theorem eg300_t15_6_0 {n : Nat} {w : px_W} {r : Option Value × px_W} {x1 : Int} (h : ec_E hb_X n 300 6 [(0, .inr (.inl 31)), (1, .inl x1)] [] w r) : True ∧ r = (ec_R (ec_ch (ec_and (((hb_lt.getD 14 []).getD (ec_tw x1).toNat 0).toInt) 255)), w) ∧ ec_W hb_A w := by
  have h2 := hb_ecw ((0, 1, 0, 0, 0) :: (0, 0, 1, 0, 0) :: (5, 12, 0, 0, 0) :: (0, 2, 0, 0, 255) :: (1, 3, 0, 0, 0) :: (3, 14, 0, 0, 0) :: (6, 3, 0, 0, 0) :: []) (by decide +kernel) h
  exact h2
/-! J0_charAt_5068e -/
theorem eg296_t15_0_0 {n : Nat} {w : px_W} {r : Option Value × px_W} {x1 : Int} (h : ec_E hb_X n 296 0 [(0, .inr (.inl 15)), (1, .inl x1)] [] w r) : True ∧ ∃ (v : Option Value) (w1 : px_W), ec_E hb_X n 298 0 [(0, .inr (.inl 15))] [] w (v, w1) ∧ ∀ zz : Int, v = ec_R zz → ec_W hb_A w1 → ec_E hb_X n 296 4 [(0, .inr (.inl 15)), (1, .inl x1)] [.inl zz] w1 r := by
  have h2 := hb_ecw ((0, 1, 0, 0, 0) :: (6, 1, 298, 1, 4) :: []) (by decide +kernel) h
  exact h2
theorem eg296_t15_4_0 {n : Nat} {w : px_W} {r : Option Value × px_W} {x1 s0 : Int} (h : ec_E hb_X n 296 4 [(0, .inr (.inl 15)), (1, .inl x1)] [.inl s0] w r) : ec_tw s0 ≠ ec_tw 0 → True ∧ ∃ (v : Option Value) (w1 : px_W), ec_E hb_X n 300 0 [(0, .inr (.inl 31)), (1, .inl x1)] [] w (v, w1) ∧ ∀ zz : Int, v = ec_R zz → ec_W hb_A w1 → ec_E hb_X n 296 15 [(0, .inr (.inl 15)), (1, .inl x1)] [.inl zz] w1 r := by
  have h2 := hb_ecw ((4, 1, 1, 0, 0) :: (0, 1, 0, 0, 0) :: (5, 9, 0, 0, 0) :: (0, 0, 1, 0, 0) :: (6, 1, 300, 2, 15) :: []) (by decide +kernel) h
  exact h2
theorem eg296_t15_15_0 {n : Nat} {w : px_W} {r : Option Value × px_W} {x1 s0 : Int} (h : ec_E hb_X n 296 15 [(0, .inr (.inl 15)), (1, .inl x1)] [.inl s0] w r) : True ∧ r = (ec_R s0, w) ∧ ec_W hb_A w := by
  have h2 := hb_ecw ((6, 3, 0, 0, 0) :: []) (by decide +kernel) h
  exact h2
/-! J0_coder_7d493 -/
theorem eg297_t16_0_0 {n : Nat} {w : px_W} {r : Option Value × px_W} (h : ec_E hb_X n 297 0 [(0, .inr (.inl 16))] [] w r) : ec_tw 1 ≠ ec_tw 0 → True ∧ r = (ec_R 0, w) ∧ ec_W hb_A w := by
  have h2 := hb_ecw ((0, 9, 0, 0, 0) :: (4, 1, 1, 0, 0) :: (0, 1, 0, 0, 0) :: (5, 10, 0, 0, 0) :: (4, 0, 0, 0, 0) :: (6, 3, 0, 0, 0) :: []) (by decide +kernel) h
  exact h2
/-! J0_isLatin1_aae02 -/
theorem eg298_t16_0_0 {n : Nat} {w : px_W} {r : Option Value × px_W} (h : ec_E hb_X n 298 0 [(0, .inr (.inl 16))] [] w r) : ec_tw 1 ≠ ec_tw 0 → ec_tw 0 = ec_tw 0 → True ∧ r = (ec_R 1, w) ∧ ec_W hb_A w := by
  have h2 := hb_ecw ((0, 9, 0, 0, 0) :: (4, 1, 1, 0, 0) :: (0, 1, 0, 0, 0) :: (5, 10, 0, 0, 0) :: (4, 1, 0, 0, 0) :: (0, 2, 0, 0, 1) :: (4, 0, 0, 0, 0) :: (6, 3, 0, 0, 0) :: []) (by decide +kernel) h
  exact h2
/-! J0_length_8abf5 -/
theorem eg295_t16_0_0 {n : Nat} {w : px_W} {r : Option Value × px_W} (h : ec_E hb_X n 295 0 [(0, .inr (.inl 16))] [] w r) : True ∧ ∃ (v : Option Value) (w1 : px_W), ec_E hb_X n 297 0 [(0, .inr (.inl 16))] [] w (v, w1) ∧ ∀ zz : Int, v = ec_R zz → ec_W hb_A w1 → ec_E hb_X n 295 9 [(0, .inr (.inl 16))] [.inl zz, .inl 8] w1 r := by
  have h2 := hb_ecw ((0, 1, 0, 0, 0) :: (5, 9, 0, 0, 0) :: (5, 11, 0, 0, 0) :: (0, 1, 0, 0, 0) :: (6, 1, 297, 1, 9) :: []) (by decide +kernel) h
  exact h2
theorem eg295_t16_9_0 {n : Nat} {w : px_W} {r : Option Value × px_W} {s0 s1 : Int} (h : ec_E hb_X n 295 9 [(0, .inr (.inl 16))] [.inl s1, .inl s0] w r) : True ∧ r = (ec_R (ec_shr s0 s1), w) ∧ ec_W hb_A w := by
  have h2 := hb_ecw ((1, 7, 0, 0, 0) :: (6, 3, 0, 0, 0) :: []) (by decide +kernel) h
  exact h2
/-! J1_charAt_3b067 -/
theorem eg300_t16_0_0 {n : Nat} {w : px_W} {r : Option Value × px_W} {x1 : Int} (h : ec_E hb_X n 300 0 [(0, .inr (.inl 32)), (1, .inl x1)] [] w r) : True ∧ ∃ (v : Option Value) (w1 : px_W), ec_E hb_X n 299 0 [(0, .inl x1), (1, .inl 8)] [] w (v, w1) ∧ (v = none → ec_W hb_A w1 → ec_E hb_X n 300 6 [(0, .inr (.inl 32)), (1, .inl x1)] [] w1 r) := by
  have h2 := hb_ecw ((0, 0, 1, 0, 0) :: (0, 1, 0, 0, 0) :: (5, 11, 0, 0, 0) :: (6, 2, 299, 2, 6) :: []) (by decide +kernel) h
  exact h2
theorem eg300_t16_6_0 {n : Nat} {w : px_W} {r : Option Value × px_W} {x1 : Int} (h : ec_E hb_X n 300 6 [(0, .inr (.inl 32)), (1, .inl x1)] [] w r) : True ∧ r = (ec_R (ec_ch (ec_and (((hb_lt.getD 15 []).getD (ec_tw x1).toNat 0).toInt) 255)), w) ∧ ec_W hb_A w := by
  have h2 := hb_ecw ((0, 1, 0, 0, 0) :: (0, 0, 1, 0, 0) :: (5, 12, 0, 0, 0) :: (0, 2, 0, 0, 255) :: (1, 3, 0, 0, 0) :: (3, 14, 0, 0, 0) :: (6, 3, 0, 0, 0) :: []) (by decide +kernel) h
  exact h2
/-! J0_charAt_5068e -/
theorem eg296_t16_0_0 {n : Nat} {w : px_W} {r : Option Value × px_W} {x1 : Int} (h : ec_E hb_X n 296 0 [(0, .inr (.inl 16)), (1, .inl x1)] [] w r) : True ∧ ∃ (v : Option Value) (w1 : px_W), ec_E hb_X n 298 0 [(0, .inr (.inl 16))] [] w (v, w1) ∧ ∀ zz : Int, v = ec_R zz → ec_W hb_A w1 → ec_E hb_X n 296 4 [(0, .inr (.inl 16)), (1, .inl x1)] [.inl zz] w1 r := by
  have h2 := hb_ecw ((0, 1, 0, 0, 0) :: (6, 1, 298, 1, 4) :: []) (by decide +kernel) h
  exact h2
theorem eg296_t16_4_0 {n : Nat} {w : px_W} {r : Option Value × px_W} {x1 s0 : Int} (h : ec_E hb_X n 296 4 [(0, .inr (.inl 16)), (1, .inl x1)] [.inl s0] w r) : ec_tw s0 ≠ ec_tw 0 → True ∧ ∃ (v : Option Value) (w1 : px_W), ec_E hb_X n 300 0 [(0, .inr (.inl 32)), (1, .inl x1)] [] w (v, w1) ∧ ∀ zz : Int, v = ec_R zz → ec_W hb_A w1 → ec_E hb_X n 296 15 [(0, .inr (.inl 16)), (1, .inl x1)] [.inl zz] w1 r := by
  have h2 := hb_ecw ((4, 1, 1, 0, 0) :: (0, 1, 0, 0, 0) :: (5, 9, 0, 0, 0) :: (0, 0, 1, 0, 0) :: (6, 1, 300, 2, 15) :: []) (by decide +kernel) h
  exact h2
theorem eg296_t16_15_0 {n : Nat} {w : px_W} {r : Option Value × px_W} {x1 s0 : Int} (h : ec_E hb_X n 296 15 [(0, .inr (.inl 16)), (1, .inl x1)] [.inl s0] w r) : True ∧ r = (ec_R s0, w) ∧ ec_W hb_A w := by
  have h2 := hb_ecw ((6, 3, 0, 0, 0) :: []) (by decide +kernel) h
  exact h2
/-! J3_checkIndex_8e157 -/
theorem eg301_0_0 {n : Nat} {w : px_W} {r : Option Value × px_W} {x0 x1 : Int} (h : ec_E hb_X n 301 0 [(0, .inl x0), (1, .inl x1), (2, .inr (.inl 33))] [] w r) : ec_tw 0 ≤ ec_tw x0 → ec_tw x0 < ec_tw x1 → True ∧ r = (ec_R x0, w) ∧ ec_W hb_A w := by
  have h2 := hb_ecw ((0, 0, 0, 0, 0) :: (4, 1, 3, 0, 0) :: (0, 0, 0, 0, 0) :: (0, 0, 1, 0, 0) :: (4, 2, 2, 1, 0) :: (0, 0, 0, 0, 0) :: (6, 3, 0, 0, 0) :: []) (by decide +kernel) h
  exact h2
/-! J0_checkIndex_df160 -/
theorem eg299_0_0 {n : Nat} {w : px_W} {r : Option Value × px_W} {x0 x1 : Int} (h : ec_E hb_X n 299 0 [(0, .inl x0), (1, .inl x1)] [] w r) : True ∧ ∃ (v : Option Value) (w1 : px_W), ec_E hb_X n 301 0 [(0, .inl x0), (1, .inl x1), (2, .inr (.inl 33))] [] w (v, w1) ∧ ∀ zz : Int, v = ec_R zz → ec_W hb_A w1 → ec_E hb_X n 299 8 [(0, .inl x0), (1, .inl x1)] [.inl zz] w1 r := by
  have h2 := hb_ecw ((0, 0, 0, 0, 0) :: (0, 0, 1, 0, 0) :: (0, 10, 0, 0, 0) :: (6, 1, 301, 3, 8) :: []) (by decide +kernel) h
  exact h2
theorem eg299_8_0 {n : Nat} {w : px_W} {r : Option Value × px_W} {x0 x1 s0 : Int} (h : ec_E hb_X n 299 8 [(0, .inl x0), (1, .inl x1)] [.inl s0] w r) : True ∧ r = (none, w) ∧ ec_W hb_A w := by
  have h2 := hb_ecw ((3, 1, 0, 0, 0) :: (6, 4, 0, 0, 0) :: []) (by decide +kernel) h
  exact h2

end

noncomputable section
theorem egk20_130 {n : Nat} {w : px_W} {r : Option Value × px_W} (h : ec_E hb_X n 176 0 [(0, .inr (.inl 84)), (1, .inr (.inl 194))] [] w r) : True ∧ r = (none, ec_cp w 20 130 (ec_tw 0) (ec_tw 0) (ec_tw (ec_mn 10 10))) ∧ ec_W hb_A (ec_cp w 20 130 (ec_tw 0) (ec_tw 0) (ec_tw (ec_mn 10 10))) := by
  have h2 := hb_ecw ((0, 1, 0, 0, 0) :: (0, 2, 0, 0, 0) :: (0, 1, 1, 0, 0) :: (0, 2, 0, 0, 0) :: (0, 1, 0, 0, 0) :: (5, 5, 20, 0, 10) :: (0, 1, 1, 0, 0) :: (5, 5, 130, 0, 10) :: (3, 6, 0, 0, 0) :: (5, 6, 20, 130, 0) :: (6, 4, 0, 0, 0) :: []) (by decide +kernel) h
  exact h2
theorem ew_cp20_130 {n : Nat} {w : px_W} {r : Option Value × px_W} (h : ec_E hb_X n 176 0 [(0, .inr (.inl 84)), (1, .inr (.inl 194))] [] w r) : ∃ w' : px_W, r = (none, w') ∧ ec_W hb_A w' ∧ ef_s [130] w w' ∧ ef_a w' 130 = ef_a w 20 := by
  obtain ⟨_, hr, hW⟩ := egk20_130 h
  have e : ec_cp w 20 130 (ec_tw 0) (ec_tw 0) (ec_tw (ec_mn 10 10)) = ec_cp w 20 130 0 0 ((10 : Nat) : Int) := rfl
  rw [e] at hr hW
  have k := ef_cp_ok (w := w) (a := 20) (b := 130) (n := 10) h.1 rfl rfl
  exact ⟨_, hr, hW, k.1, k.2⟩
theorem egk24_131 {n : Nat} {w : px_W} {r : Option Value × px_W} (h : ec_E hb_X n 176 0 [(0, .inr (.inl 88)), (1, .inr (.inl 195))] [] w r) : True ∧ r = (none, ec_cp w 24 131 (ec_tw 0) (ec_tw 0) (ec_tw (ec_mn 8 8))) ∧ ec_W hb_A (ec_cp w 24 131 (ec_tw 0) (ec_tw 0) (ec_tw (ec_mn 8 8))) := by
  have h2 := hb_ecw ((0, 1, 0, 0, 0) :: (0, 2, 0, 0, 0) :: (0, 1, 1, 0, 0) :: (0, 2, 0, 0, 0) :: (0, 1, 0, 0, 0) :: (5, 5, 24, 0, 8) :: (0, 1, 1, 0, 0) :: (5, 5, 131, 0, 8) :: (3, 6, 0, 0, 0) :: (5, 6, 24, 131, 0) :: (6, 4, 0, 0, 0) :: []) (by decide +kernel) h
  exact h2
theorem ew_cp24_131 {n : Nat} {w : px_W} {r : Option Value × px_W} (h : ec_E hb_X n 176 0 [(0, .inr (.inl 88)), (1, .inr (.inl 195))] [] w r) : ∃ w' : px_W, r = (none, w') ∧ ec_W hb_A w' ∧ ef_s [131] w w' ∧ ef_a w' 131 = ef_a w 24 := by
  obtain ⟨_, hr, hW⟩ := egk24_131 h
  have e : ec_cp w 24 131 (ec_tw 0) (ec_tw 0) (ec_tw (ec_mn 8 8)) = ec_cp w 24 131 0 0 ((8 : Nat) : Int) := rfl
  rw [e] at hr hW
  have k := ef_cp_ok (w := w) (a := 24) (b := 131) (n := 8) h.1 rfl rfl
  exact ⟨_, hr, hW, k.1, k.2⟩
theorem egk26_132 {n : Nat} {w : px_W} {r : Option Value × px_W} (h : ec_E hb_X n 176 0 [(0, .inr (.inl 90)), (1, .inr (.inl 196))] [] w r) : True ∧ r = (none, ec_cp w 26 132 (ec_tw 0) (ec_tw 0) (ec_tw (ec_mn 8 8))) ∧ ec_W hb_A (ec_cp w 26 132 (ec_tw 0) (ec_tw 0) (ec_tw (ec_mn 8 8))) := by
  have h2 := hb_ecw ((0, 1, 0, 0, 0) :: (0, 2, 0, 0, 0) :: (0, 1, 1, 0, 0) :: (0, 2, 0, 0, 0) :: (0, 1, 0, 0, 0) :: (5, 5, 26, 0, 8) :: (0, 1, 1, 0, 0) :: (5, 5, 132, 0, 8) :: (3, 6, 0, 0, 0) :: (5, 6, 26, 132, 0) :: (6, 4, 0, 0, 0) :: []) (by decide +kernel) h
  exact h2
theorem ew_cp26_132 {n : Nat} {w : px_W} {r : Option Value × px_W} (h : ec_E hb_X n 176 0 [(0, .inr (.inl 90)), (1, .inr (.inl 196))] [] w r) : ∃ w' : px_W, r = (none, w') ∧ ec_W hb_A w' ∧ ef_s [132] w w' ∧ ef_a w' 132 = ef_a w 26 := by
  obtain ⟨_, hr, hW⟩ := egk26_132 h
  have e : ec_cp w 26 132 (ec_tw 0) (ec_tw 0) (ec_tw (ec_mn 8 8)) = ec_cp w 26 132 0 0 ((8 : Nat) : Int) := rfl
  rw [e] at hr hW
  have k := ef_cp_ok (w := w) (a := 26) (b := 132) (n := 8) h.1 rfl rfl
  exact ⟨_, hr, hW, k.1, k.2⟩
theorem egk136_129 {n : Nat} {w : px_W} {r : Option Value × px_W} (h : ec_E hb_X n 176 0 [(0, .inr (.inl 200)), (1, .inr (.inl 193))] [] w r) : True ∧ r = (none, ec_cp w 136 129 (ec_tw 0) (ec_tw 0) (ec_tw (ec_mn 6 6))) ∧ ec_W hb_A (ec_cp w 136 129 (ec_tw 0) (ec_tw 0) (ec_tw (ec_mn 6 6))) := by
  have h2 := hb_ecw ((0, 1, 0, 0, 0) :: (0, 2, 0, 0, 0) :: (0, 1, 1, 0, 0) :: (0, 2, 0, 0, 0) :: (0, 1, 0, 0, 0) :: (5, 5, 136, 0, 6) :: (0, 1, 1, 0, 0) :: (5, 5, 129, 0, 6) :: (3, 6, 0, 0, 0) :: (5, 6, 136, 129, 0) :: (6, 4, 0, 0, 0) :: []) (by decide +kernel) h
  exact h2
theorem ew_cp136_129 {n : Nat} {w : px_W} {r : Option Value × px_W} (h : ec_E hb_X n 176 0 [(0, .inr (.inl 200)), (1, .inr (.inl 193))] [] w r) : ∃ w' : px_W, r = (none, w') ∧ ec_W hb_A w' ∧ ef_s [129] w w' ∧ ef_a w' 129 = ef_a w 136 := by
  obtain ⟨_, hr, hW⟩ := egk136_129 h
  have e : ec_cp w 136 129 (ec_tw 0) (ec_tw 0) (ec_tw (ec_mn 6 6)) = ec_cp w 136 129 0 0 ((6 : Nat) : Int) := rfl
  rw [e] at hr hW
  have k := ef_cp_ok (w := w) (a := 136) (b := 129) (n := 6) h.1 rfl rfl
  exact ⟨_, hr, hW, k.1, k.2⟩

end

noncomputable section
theorem egk56_53 {n : Nat} {w : px_W} {r : Option Value × px_W} (h : ec_E hb_X n 176 0 [(0, .inr (.inl 120)), (1, .inr (.inl 117))] [] w r) : True ∧ r = (none, ec_cp w 56 53 (ec_tw 0) (ec_tw 0) (ec_tw (ec_mn 7 7))) ∧ ec_W hb_A (ec_cp w 56 53 (ec_tw 0) (ec_tw 0) (ec_tw (ec_mn 7 7))) := by
  have h2 := hb_ecw ((0, 1, 0, 0, 0) :: (0, 2, 0, 0, 0) :: (0, 1, 1, 0, 0) :: (0, 2, 0, 0, 0) :: (0, 1, 0, 0, 0) :: (5, 5, 56, 0, 7) :: (0, 1, 1, 0, 0) :: (5, 5, 53, 0, 7) :: (3, 6, 0, 0, 0) :: (5, 6, 56, 53, 0) :: (6, 4, 0, 0, 0) :: []) (by decide +kernel) h
  exact h2
theorem ew_cp56_53 {n : Nat} {w : px_W} {r : Option Value × px_W} (h : ec_E hb_X n 176 0 [(0, .inr (.inl 120)), (1, .inr (.inl 117))] [] w r) : ∃ w' : px_W, r = (none, w') ∧ ec_W hb_A w' ∧ ef_s [53] w w' ∧ ef_a w' 53 = ef_a w 56 := by
  obtain ⟨_, hr, hW⟩ := egk56_53 h
  have e : ec_cp w 56 53 (ec_tw 0) (ec_tw 0) (ec_tw (ec_mn 7 7)) = ec_cp w 56 53 0 0 ((7 : Nat) : Int) := rfl
  rw [e] at hr hW
  have k := ef_cp_ok (w := w) (a := 56) (b := 53) (n := 7) h.1 rfl rfl
  exact ⟨_, hr, hW, k.1, k.2⟩

end

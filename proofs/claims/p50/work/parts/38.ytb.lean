noncomputable section
theorem ew_isPlaceA {n : Nat} {w : px_W} {r : Option Value × px_W} {x0 : Int} (h : ec_E hb_X n 13 0 [(0, .inl x0)] [] w r) : r = (ec_R (if 0 ≤ ec_tw x0 ∧ ec_tw x0 ≤ 7 then 1 else 0), w) ∧ ec_W hb_A w := by
  have e0 : ec_tw 0 = 0 := rfl
  have e8 : ec_tw 8 = 8 := rfl
  by_cases h1 : 0 ≤ ec_tw x0
  · by_cases h2 : ec_tw x0 ≤ 7
    · rw [if_pos ⟨h1, h2⟩]
      exact (eg13_0_2 h (by omega) (by omega)).2
    · rw [if_neg (fun e => h2 e.2)]
      exact (eg13_0_1 h (by omega) (by omega)).2
  · rw [if_neg (fun e => h1 e.1)]
    exact (eg13_0_0 h (by omega)).2
theorem ew_isPlaceB {n : Nat} {w : px_W} {r : Option Value × px_W} {x0 : Int} (h : ec_E hb_X n 205 0 [(0, .inl x0)] [] w r) : r = (ec_R (if 0 ≤ ec_tw x0 ∧ ec_tw x0 ≤ 7 then 1 else 0), w) ∧ ec_W hb_A w := by
  obtain ⟨_, v, w1, h1, h2⟩ := eg205_0_0 h
  obtain ⟨h3, h4⟩ := ew_in h1
  injection h3 with h3 h5
  subst h5
  exact (eg205_7_0 (h2 _ h3 h4)).2

end

noncomputable section
/-! is it a MINUTE, on both sides -/
section ES0
variable {n : Nat} {w w1 : px_W} {v : Option Value}
theorem ew_ismA {x0 : Int} (h : ec_E hb_X n 174 0 [(0, .inl x0)] [] w (v, w1)) : w = w1 ∧ ec_W hb_A w1 ∧ v = ec_R (if 0 ≤ ec_tw x0 ∧ ec_tw x0 ≤ 999 then 1 else 0) := by
  have t0 : ec_tw 0 = 0 := rfl
  have t9 : ec_tw 999 = 999 := rfl
  have k0 := eg174_0_0 h
  have k1 := eg174_0_1 h
  have k2 := eg174_0_2 h
  rw [t0] at k0 k1 k2
  rw [t9] at k1 k2
  have fin : ∀ z : Int, (v, w1) = (ec_R z, w) → ec_W hb_A w → w = w1 ∧ ec_W hb_A w1 ∧ v = ec_R z := by
    intro z hr hW
    injection hr with f1 f2
    rw [f2]
    exact ⟨rfl, hW, f1⟩
  by_cases p : 0 ≤ ec_tw x0
  · by_cases q : ec_tw x0 ≤ 999
    · rw [if_pos ⟨p, q⟩]
      obtain ⟨_, hr, hW⟩ := k2 p q
      exact fin _ hr hW
    · rw [if_neg (fun z => q z.2)]
      obtain ⟨_, hr, hW⟩ := k1 p (by omega)
      exact fin _ hr hW
  · rw [if_neg (fun z => p z.1)]
    obtain ⟨_, hr, hW⟩ := k0 (by omega)
    exact fin _ hr hW
theorem ew_ismB {x0 : Int} (h : ec_E hb_X n 183 0 [(0, .inl x0)] [] w (v, w1)) : w = w1 ∧ ec_W hb_A w1 ∧ v = ec_R (if 0 ≤ ec_tw x0 ∧ ec_tw x0 ≤ 999 then 1 else 0) := by
  have t0 : ec_tw 0 = 0 := rfl
  have t9 : ec_tw 999 = 999 := rfl
  obtain ⟨_, u, w2, a1, a2⟩ := eg183_0_0 h
  obtain ⟨e1, W1⟩ := ew_in a1
  rw [t0, t9] at e1
  injection e1 with e1 i1
  rw [i1] at a2
  obtain ⟨_, hr, hW⟩ := eg183_8_0 (a2 _ e1 W1)
  injection hr with f1 f2
  rw [f2]
  exact ⟨rfl, hW, f1⟩
end ES0

end

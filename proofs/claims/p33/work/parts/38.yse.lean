noncomputable section
/-! TAKEBACK: the answer -/
theorem ed_bc0 : ∀ m : Nat, m < 1024 → eq_bc (m : Int) = (eo_cn m 30 : Int) := by decide +kernel
theorem ed_bc1 : ∀ m : Nat, m < 1024 → eq_bc ((1024 + m : Nat) : Int) = (eo_cn (1024 + m) 30 : Int) := by decide +kernel
theorem ed_bc2 : ∀ m : Nat, m < 1024 → eq_bc ((2048 + m : Nat) : Int) = (eo_cn (2048 + m) 30 : Int) := by decide +kernel
theorem ed_bc3 : ∀ m : Nat, m < 1024 → eq_bc ((3072 + m : Nat) : Int) = (eo_cn (3072 + m) 30 : Int) := by decide +kernel
theorem ed_bc (m : Nat) (h : m < 4096) : eq_bc (m : Int) = (eo_cn m 30 : Int) := by
  by_cases c0 : m < 1024
  · exact ed_bc0 m c0
  · by_cases c1 : m < 2048
    · have e : 1024 + (m - 1024) = m := by omega
      have z := ed_bc1 (m - 1024) (by omega)
      rw [e] at z
      exact z
    · by_cases c2 : m < 3072
      · have e : 2048 + (m - 2048) = m := by omega
        have z := ed_bc2 (m - 2048) (by omega)
        rw [e] at z
        exact z
      · have e : 3072 + (m - 3072) = m := by omega
        have z := ed_bc3 (m - 3072) (by omega)
        rw [e] at z
        exact z
theorem ed_take2 {xs : List Int32} {n : Nat} {w wA wB : px_W} {vA vB : Option Value} {x1 : Int} (hR : ed_RR w) (r1 : -2147483648 ≤ x1 ∧ x1 ≤ 2147483647) (hA : ec_F (hb_XL xs) n 152 [.inr (.inl 64), .inl x1] w (vA, wA)) (hB : ec_F (hb_XL xs) n 245 [.inr (.inl 215), .inl x1] wA (vB, wB)) : vA = vB ∧ ed_RR wB := by
  obtain ⟨h, hB'⟩ := ed_takeX hR r1 hA hB
  refine ⟨?_, hB'⟩
  rcases h with e | ⟨q, hq, e1, e2⟩
  · exact e
  · rw [e1, e2, ed_bc q hq]

end

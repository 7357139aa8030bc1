noncomputable section
/-! two words of p17 that the order needs -/
theorem et_bf {b : Bool} (h : ¬ b = true) : b = false := by
  cases b with
  | false => rfl
  | true => exact absurd rfl h
theorem et_clear : ∀ b : Nat, b < 8 → ∀ m : Nat, m < 256 → ec_and (m : Int) (ec_xor (ec_shl 1 (b : Int)) (-1)) = ((eq_mk (fun j => Nat.testBit m j && !(decide (j = b))) 8 : Nat) : Int) := by decide +kernel

end

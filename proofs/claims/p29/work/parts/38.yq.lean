noncomputable section
theorem ec_dv_tw (a b : Int) : ec_dv (ec_tw a) b = ec_dv a b := by
  unfold ec_dv
  rw [ec_of_tw]
theorem ec_tw_dv (a b : Int) : ec_tw (ec_dv a b) = ec_dv a b := by
  unfold ec_tw ec_dv
  rw [Int32.ofInt_toInt]
theorem ec_dv_ct {a b : Int} (h1 : -2147483648 ≤ a) (h2 : a ≤ 2147483647) (h3 : 0 < b) (h4 : b ≤ 2147483647) : ec_dv a b = a.tdiv b := by
  have e1 : (Int32.ofInt a).toInt = a := ec_tw_id h1 h2
  have e2 : (Int32.ofInt b).toInt = b := ec_tw_id (by omega) h4
  have e3 : Int32.ofInt b ≠ -1 := by
    intro e
    rw [e] at e2
    have e4 : (-1 : Int32).toInt = -1 := by decide
    omega
  unfold ec_dv
  rw [Int32.toInt_div_of_ne_right _ _ e3, e1, e2]
theorem ec_dv_nn {a b : Int} (h1 : 0 ≤ a) (h2 : a ≤ 2147483647) (h3 : 0 < b) (h4 : b ≤ 2147483647) : ec_dv a b = a / b := by
  rw [ec_dv_ct (by omega) h2 h3 h4, Int.tdiv_eq_ediv_of_nonneg h1]

end

noncomputable section
/-! BITS OF NUMBERS -/
theorem ec_andO (a b : Nat) : Int32.ofInt (a : Int) &&& Int32.ofInt (b : Int) = Int32.ofInt ((a &&& b : Nat) : Int) := by
  apply Int32.toBitVec.inj
  show BitVec.ofInt 32 (a : Int) &&& BitVec.ofInt 32 (b : Int) = BitVec.ofInt 32 ((a &&& b : Nat) : Int)
  rw [BitVec.ofInt_natCast, BitVec.ofInt_natCast, BitVec.ofInt_natCast, BitVec.ofNat_and]
theorem ec_orO (a b : Nat) : Int32.ofInt (a : Int) ||| Int32.ofInt (b : Int) = Int32.ofInt ((a ||| b : Nat) : Int) := by
  apply Int32.toBitVec.inj
  show BitVec.ofInt 32 (a : Int) ||| BitVec.ofInt 32 (b : Int) = BitVec.ofInt 32 ((a ||| b : Nat) : Int)
  rw [BitVec.ofInt_natCast, BitVec.ofInt_natCast, BitVec.ofInt_natCast, BitVec.ofNat_or]
theorem ec_andN {a b : Nat} (h : a < 2147483648) : ec_and (a : Int) (b : Int) = ((a &&& b : Nat) : Int) := by
  show (Int32.ofInt (a : Int) &&& Int32.ofInt (b : Int)).toInt = _
  rw [ec_andO]
  exact ec_twn (Nat.lt_of_le_of_lt Nat.and_le_left h)
theorem ec_orN {a b : Nat} (ha : a < 2147483648) (hb : b < 2147483648) : ec_or (a : Int) (b : Int) = ((a ||| b : Nat) : Int) := by
  show (Int32.ofInt (a : Int) ||| Int32.ofInt (b : Int)).toInt = _
  rw [ec_orO]
  exact ec_twn (Nat.or_lt_two_pow (n := 31) ha hb)
theorem ec_tw_and (a b : Int) : ec_tw (ec_and a b) = ec_and a b := by
  unfold ec_tw ec_and
  rw [Int32.ofInt_toInt]
theorem ec_tw_or (a b : Int) : ec_tw (ec_or a b) = ec_or a b := by
  unfold ec_tw ec_or
  rw [Int32.ofInt_toInt]
theorem ec_tw_shl (a b : Int) : ec_tw (ec_shl a b) = ec_shl a b := by
  unfold ec_tw ec_shl
  rw [Int32.ofInt_toInt]
theorem ec_tw_shr (a b : Int) : ec_tw (ec_shr a b) = ec_shr a b := by
  unfold ec_tw ec_shr
  rw [Int32.ofInt_toInt]
theorem ec_shr_k : ∀ k : Nat, k < 32 → ((Int32.ofInt (k : Int) &&& 31).toBitVec.smod 32).toNat = k := by decide +kernel
theorem ec_shrI (a : Int) {k : Nat} (hk : k < 32) : ec_shr a (k : Int) = ec_tw ((ec_tw a) >>> k) := by
  show (BitVec.sshiftRight' (Int32.ofInt a).toBitVec ((Int32.ofInt (k : Int) &&& 31).toBitVec.smod 32)).toInt = (BitVec.ofInt 32 ((Int32.ofInt a).toBitVec.toInt >>> k)).toInt
  rw [BitVec.sshiftRight_eq', ec_shr_k k hk, BitVec.sshiftRight_eq]
theorem ec_shrN {a k : Nat} (ha : a < 2147483648) (hk : k < 32) : ec_shr (a : Int) (k : Int) = ((a / 2 ^ k : Nat) : Int) := by
  rw [ec_shrI _ hk, ec_twn ha]
  have e : ((a : Int) >>> k) = ((a >>> k : Nat) : Int) := rfl
  rw [e, Nat.shiftRight_eq_div_pow]
  exact ec_twn (Nat.lt_of_le_of_lt (Nat.div_le_self _ _) ha)
theorem ec_bit {a k : Nat} (ha : a < 2147483648) (hk : k < 32) : ec_and (ec_shr (a : Int) (k : Int)) 1 = if Nat.testBit a k = true then 1 else 0 := by
  rw [ec_shrN ha hk]
  show ec_and ((a / 2 ^ k : Nat) : Int) ((1 : Nat) : Int) = _
  rw [ec_andN (Nat.lt_of_le_of_lt (Nat.div_le_self _ _) ha), Nat.and_one_is_mod, Nat.testBit_eq_decide_div_mod_eq]
  rcases Nat.mod_two_eq_zero_or_one (a / 2 ^ k) with q | q
  · rw [q]
    rfl
  · rw [q]
    rfl
theorem ec_bitT {a k : Nat} (ha : a < 2147483648) (hk : k < 32) : ec_tw (ec_and (ec_shr (a : Int) (k : Int)) 1) = if Nat.testBit a k = true then 1 else 0 := by
  rw [ec_tw_and, ec_bit ha hk]

end

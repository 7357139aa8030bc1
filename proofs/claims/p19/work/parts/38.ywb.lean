noncomputable section
/-! BITS OF NUMBERS: some within others -/
theorem ec_ones : BitVec.ofInt 32 (-1) = BitVec.allOnes 32 := by decide +kernel
/-- none of these but those -/
theorem ec_andnot {m x : Nat} (hm : m < 4294967296) : ec_and (m : Int) (ec_xor (x : Int) (-1)) = 0 ↔ eq_in m x = true := by
  have e1 : ec_and (m : Int) (ec_xor (x : Int) (-1)) = (BitVec.ofNat 32 m &&& ~~~ (BitVec.ofNat 32 x)).toInt := by
    unfold ec_and ec_xor
    rw [Int32.ofInt_toInt]
    show (BitVec.ofInt 32 (m : Int) &&& (BitVec.ofInt 32 (x : Int) ^^^ BitVec.ofInt 32 (-1))).toInt = _
    rw [ec_ones, BitVec.ofInt_natCast, BitVec.ofInt_natCast, BitVec.xor_allOnes]
  have e2 : (BitVec.ofNat 32 m &&& ~~~ (BitVec.ofNat 32 x)).toInt = 0 ↔ (BitVec.ofNat 32 m &&& ~~~ (BitVec.ofNat 32 x)) = 0#32 := by
    constructor
    · intro h
      exact BitVec.toInt_inj.mp (h.trans (by decide +kernel))
    · intro h
      rw [h]
      decide +kernel
  rw [e1, e2]
  constructor
  · intro h
    refine eq_in_ok.mpr (fun b hb => ?_)
    have hb32 : b < 32 := by
      by_cases q : b < 32
      · exact q
      · have h1 := Nat.ge_two_pow_of_testBit hb
        have h2 : 2 ^ 32 ≤ 2 ^ b := Nat.pow_le_pow_right (by decide) (by omega)
        have h3 : (2 : Nat) ^ 32 = 4294967296 := rfl
        omega
    have h1 := congrArg (fun z => BitVec.getLsbD z b) h
    have h2 : BitVec.getLsbD (BitVec.ofNat 32 m &&& ~~~ (BitVec.ofNat 32 x)) b = BitVec.getLsbD (0#32) b := h1
    rw [BitVec.getLsbD_and, BitVec.getLsbD_not, BitVec.getLsbD_ofNat, BitVec.getLsbD_ofNat, BitVec.getLsbD_zero, hb, decide_eq_true hb32] at h2
    cases t : Nat.testBit x b with
    | true => rfl
    | false =>
      rw [t] at h2
      cases h2
  · intro h
    refine BitVec.eq_of_getLsbD_eq (fun i hi => ?_)
    rw [BitVec.getLsbD_and, BitVec.getLsbD_not, BitVec.getLsbD_ofNat, BitVec.getLsbD_ofNat, BitVec.getLsbD_zero, decide_eq_true hi]
    cases t : Nat.testBit m i with
    | false => rfl
    | true =>
      rw [eq_in_ok.mp h i t]
      rfl
theorem ec_andnotT {m x : Nat} (hm : m < 4294967296) : ec_tw (ec_and (m : Int) (ec_xor (x : Int) (-1))) = 0 ↔ eq_in m x = true := by
  rw [ec_tw_and]
  exact ec_andnot hm
/-- the boats that a group can, as bits -/
theorem ef_cb_mk {E L : Nat → Int} : ∀ (k b : Nat), b + k ≤ 8 → ef_cb E L k b ((eq_mk (fun j => decide (E j ≤ L j)) b : Nat) : Int) = ((eq_mk (fun j => decide (E j ≤ L j)) (b + k) : Nat) : Int)
  | 0, b, _ => rfl
  | k + 1, b, h => by
    have hl := eq_mk_lt (c := fun j => decide (E j ≤ L j)) b
    show ef_cb E L k (b + 1) (if E b ≤ L b then ec_or ((eq_mk (fun j => decide (E j ≤ L j)) b : Nat) : Int) (ec_shl 1 (b : Int)) else ((eq_mk (fun j => decide (E j ≤ L j)) b : Nat) : Int)) = _
    have e : (if E b ≤ L b then ec_or ((eq_mk (fun j => decide (E j ≤ L j)) b : Nat) : Int) (ec_shl 1 (b : Int)) else ((eq_mk (fun j => decide (E j ≤ L j)) b : Nat) : Int)) = ((eq_mk (fun j => decide (E j ≤ L j)) (b + 1) : Nat) : Int) := by
      have e2 : eq_mk (fun j => decide (E j ≤ L j)) (b + 1) = eq_mk (fun j => decide (E j ≤ L j)) b + (if decide (E b ≤ L b) = true then 2 ^ b else 0) := rfl
      by_cases q : E b ≤ L b
      · rw [if_pos q, ec_shl1 b (by omega), ec_or1 b (by omega) _ hl, e2, if_pos (decide_eq_true q)]
      · rw [if_neg q, e2, if_neg (fun e => q (of_decide_eq_true e)), Nat.add_zero]
    rw [e, ef_cb_mk k (b + 1) (by omega)]
    congr 2
    omega
def eq_M (E L : Nat → Int) (bn : Nat) : Nat := eq_mk (fun j => decide (E j ≤ L j)) bn
theorem ef_cb_M {E L : Nat → Int} {bn : Nat} (h : bn ≤ 8) : ef_cb E L bn 0 0 = (eq_M E L bn : Int) := by
  have := ef_cb_mk (E := E) (L := L) bn 0 (by omega)
  rw [Nat.zero_add] at this
  exact this
theorem eq_M_lt {E L : Nat → Int} {bn : Nat} : eq_M E L bn < 2 ^ bn := eq_mk_lt bn
theorem eq_M_bit {E L : Nat → Int} {bn b : Nat} (h : b < bn) : Nat.testBit (eq_M E L bn) b = decide (E b ≤ L b) := eq_mk_bit bn b h
theorem eq_pw {bn : Nat} (h : bn ≤ 8) : 2 ^ bn ≤ 256 := Nat.pow_le_pow_right (n := 2) (by decide) (i := bn) (j := 8) h
theorem eq_pw10 {gn : Nat} (h : gn ≤ 10) : 2 ^ gn ≤ 1024 := Nat.pow_le_pow_right (n := 2) (by decide) (i := gn) (j := 10) h
theorem eq_sm_in {p : Nat → Int} {c : Nat → Bool} : ∀ k, (∀ g, g < k → 0 ≤ p g ∧ p g ≤ 50) → 0 ≤ eq_sm p c k ∧ eq_sm p c k ≤ 50 * (k : Int)
  | 0, _ => ⟨Int.le_refl _, Int.le_refl _⟩
  | k + 1, h => by
    have h1 := eq_sm_in (c := c) k (fun g hg => h g (by omega))
    have h2 := h k (by omega)
    show 0 ≤ eq_sm p c k + (if c k = true then p k else 0) ∧ eq_sm p c k + (if c k = true then p k else 0) ≤ 50 * ((k + 1 : Nat) : Int)
    split <;> omega
theorem eq_ss_in {Se : Nat → Int} {x : Nat} : ∀ k, (∀ b, b < k → 0 ≤ Se b ∧ Se b ≤ 65) → 0 ≤ ef_ss Se k x ∧ ef_ss Se k x ≤ 65 * (k : Int)
  | 0, _ => ⟨Int.le_refl _, Int.le_refl _⟩
  | k + 1, h => by
    have h1 := eq_ss_in (x := x) k (fun g hg => h g (by omega))
    have h2 := h k (by omega)
    show 0 ≤ ef_ss Se k x + (if Nat.testBit x k then Se k else 0) ∧ ef_ss Se k x + (if Nat.testBit x k then Se k else 0) ≤ 65 * ((k + 1 : Nat) : Int)
    split <;> omega
theorem eq_un_lt {M : Nat → Nat} {s bn : Nat} : ∀ k, (∀ g, g < k → M g < 2 ^ bn) → eq_un M s k < 2 ^ bn
  | 0, _ => Nat.two_pow_pos bn
  | k + 1, h => by
    show eq_un M s k ||| (if Nat.testBit s k then M k else 0) < 2 ^ bn
    refine Nat.or_lt_two_pow (eq_un_lt k (fun g hg => h g (by omega))) ?_
    split
    · exact h k (by omega)
    · exact Nat.two_pow_pos bn
theorem eq_sm_cg {p p' : Nat → Int} {c c' : Nat → Bool} : ∀ k, (∀ g, g < k → p g = p' g ∧ c g = c' g) → eq_sm p c k = eq_sm p' c' k
  | 0, _ => rfl
  | k + 1, h => by
    show eq_sm p c k + (if c k = true then p k else 0) = eq_sm p' c' k + (if c' k = true then p' k else 0)
    rw [eq_sm_cg k (fun g hg => h g (by omega)), (h k (by omega)).1, (h k (by omega)).2]
theorem ef_ss_cg {Se Se' : Nat → Int} {x : Nat} : ∀ k, (∀ b, b < k → Se b = Se' b) → ef_ss Se k x = ef_ss Se' k x
  | 0, _ => rfl
  | k + 1, h => by
    show ef_ss Se k x + (if Nat.testBit x k then Se k else 0) = ef_ss Se' k x + (if Nat.testBit x k then Se' k else 0)
    rw [ef_ss_cg k (fun g hg => h g (by omega)), h k (by omega)]
theorem eq_un_cg {M M' : Nat → Nat} {s : Nat} : ∀ k, (∀ g, g < k → M g = M' g) → eq_un M s k = eq_un M' s k
  | 0, _ => rfl
  | k + 1, h => by
    show (eq_un M s k ||| (if Nat.testBit s k then M k else 0)) = (eq_un M' s k ||| (if Nat.testBit s k then M' k else 0))
    rw [eq_un_cg k (fun g hg => h g (by omega)), h k (by omega)]
theorem eq_mn_cg {f f' : Nat → Int} {a : Int} : ∀ k, (∀ x, x < k → f x = f' x) → eq_mn f a k = eq_mn f' a k
  | 0, _ => rfl
  | k + 1, h => by
    show min (eq_mn f a k) (f k) = min (eq_mn f' a k) (f' k)
    rw [eq_mn_cg k (fun g hg => h g (by omega)), h k (by omega)]
theorem eq_D_cg {Se Se' p p' : Nat → Int} {M M' : Nat → Nat} {bn gn s : Nat} (hS : ∀ b, b < bn → Se b = Se' b) (hp : ∀ g, g < gn → p g = p' g) (hM : ∀ g, g < gn → M g = M' g) : eq_D Se p M bn gn s = eq_D Se' p' M' bn gn s := by
  unfold eq_D
  rw [eq_un_cg gn hM, ef_ss_cg bn hS, eq_sm_cg gn (fun g hg => ⟨hp g hg, rfl⟩)]
theorem eq_C_cg {Se Se' p p' : Nat → Int} {M M' : Nat → Nat} {bn gn x : Nat} (hS : ∀ b, b < bn → Se b = Se' b) (hp : ∀ g, g < gn → p g = p' g) (hM : ∀ g, g < gn → M g = M' g) : eq_C Se p M bn gn x = eq_C Se' p' M' bn gn x := by
  unfold eq_C
  rw [ef_ss_cg bn hS, eq_sm_cg gn (fun g hg => ⟨hp g hg, by rw [hM g hg]⟩)]
theorem eq_C_in {Se p : Nat → Int} {M : Nat → Nat} {bn gn x : Nat} (hb : bn ≤ 8) (hg : gn ≤ 10) (hS : ∀ b, b < bn → 0 ≤ Se b ∧ Se b ≤ 65) (hp : ∀ g, g < gn → 0 ≤ p g ∧ p g ≤ 50) : 0 ≤ eq_C Se p M bn gn x ∧ eq_C Se p M bn gn x ≤ 1020 := by
  have h1 := eq_ss_in (x := x) bn hS
  have h2 := eq_sm_in (c := fun g => !(eq_in (M g) x)) gn hp
  unfold eq_C
  omega
theorem eq_D_in {Se p : Nat → Int} {M : Nat → Nat} {bn gn s : Nat} (hb : bn ≤ 8) (hg : gn ≤ 10) (hS : ∀ b, b < bn → 0 ≤ Se b ∧ Se b ≤ 65) (hp : ∀ g, g < gn → 0 ≤ p g ∧ p g ≤ 50) : 0 ≤ eq_D Se p M bn gn s ∧ eq_D Se p M bn gn s ≤ 1020 := by
  have h1 := eq_ss_in (x := eq_un M s gn) bn hS
  have h2 := eq_sm_in (c := fun g => !(Nat.testBit s g)) gn hp
  unfold eq_D
  omega
/-- all boats: no group lacks one -/
theorem eq_C_all {Se p : Nat → Int} {M : Nat → Nat} {bn gn : Nat} (hM : ∀ g, g < gn → M g < 2 ^ bn) : eq_C Se p M bn gn (2 ^ bn - 1) = ef_ss Se bn (2 ^ bn - 1) := by
  have h : eq_sm p (fun g => !(eq_in (M g) (2 ^ bn - 1))) gn = eq_sm p (fun _ => false) gn := eq_sm_cg gn (fun g hg => ⟨rfl, by
    have : eq_in (M g) (2 ^ bn - 1) = true := eq_in_ok.mpr (fun b hb => by
      rw [Nat.testBit_two_pow_sub_one]
      refine decide_eq_true ?_
      by_cases q : b < bn
      · exact q
      · have h1 := Nat.ge_two_pow_of_testBit hb
        have h2 : 2 ^ bn ≤ 2 ^ b := Nat.pow_le_pow_right (by decide) (by omega)
        have h3 := hM g hg
        omega)
    show (!(eq_in (M g) (2 ^ bn - 1))) = false
    rw [this]
    rfl⟩)
  have z : ∀ k, eq_sm p (fun _ => false) k = 0 := by
    intro k
    induction k with
    | zero => rfl
    | succ k ih =>
      show eq_sm p (fun _ => false) k + (if false = true then p k else 0) = 0
      rw [ih, if_neg (by decide)]
      rfl
  unfold eq_C
  rw [h, z]
  omega
/-- class and reference find the same -/
theorem eq_same {Se p : Nat → Int} {M : Nat → Nat} {bn gn : Nat} (hb : bn ≤ 8) (hg : gn ≤ 10) (hS : ∀ b, b < bn → 0 ≤ Se b ∧ Se b ≤ 65) (hp : ∀ g, g < gn → 0 ≤ p g ∧ p g ≤ 50) (hM : ∀ g, g < gn → M g < 2 ^ bn) : eq_mn (eq_C Se p M bn gn) (ef_ss Se bn (2 ^ bn - 1)) (2 ^ bn) = eq_mn (eq_D Se p M bn gn) 1000000 (2 ^ gn) := by
  refine eq_cut (fun b h => (hS b h).1) (fun g h => (hp g h).1) (fun s => eq_un_lt gn hM) (by rw [eq_C_all hM]; exact Int.le_refl _) ?_
  have := eq_D_in (s := 0) (M := M) hb hg hS hp
  omega

end

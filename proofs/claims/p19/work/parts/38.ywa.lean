noncomputable section
/-! THE LEAST CUT OVER BOATS IS THE LEAST CUT OVER GROUPS -/
def eq_mn (f : Nat → Int) (a : Int) : Nat → Int
  | 0 => a
  | k + 1 => min (eq_mn f a k) (f k)
theorem eq_mn_le {f : Nat → Int} {a : Int} : ∀ k, eq_mn f a k ≤ a ∧ ∀ x, x < k → eq_mn f a k ≤ f x
  | 0 => ⟨Int.le_refl _, fun x hx => absurd hx (Nat.not_lt_zero _)⟩
  | k + 1 => by
    obtain ⟨h1, h2⟩ := eq_mn_le (f := f) (a := a) k
    refine ⟨?_, fun x hx => ?_⟩
    · show min (eq_mn f a k) (f k) ≤ a
      omega
    · show min (eq_mn f a k) (f k) ≤ f x
      by_cases e : x = k
      · rw [e]
        omega
      · have := h2 x (by omega)
        omega
theorem eq_mn_ge {f : Nat → Int} {a z : Int} : ∀ k, z ≤ a → (∀ x, x < k → z ≤ f x) → z ≤ eq_mn f a k
  | 0, h, _ => h
  | k + 1, h, h2 => by
    have h1 := eq_mn_ge (f := f) k h (fun x hx => h2 x (by omega))
    have h3 := h2 k (by omega)
    show z ≤ min (eq_mn f a k) (f k)
    omega
def eq_sm (p : Nat → Int) (c : Nat → Bool) : Nat → Int
  | 0 => 0
  | k + 1 => eq_sm p c k + (if c k = true then p k else 0)
theorem eq_sm_le {p : Nat → Int} {c c' : Nat → Bool} : ∀ k, (∀ g, g < k → 0 ≤ p g) → (∀ g, g < k → c g = true → c' g = true) → eq_sm p c k ≤ eq_sm p c' k
  | 0, _, _ => Int.le_refl _
  | k + 1, h1, h2 => by
    have h3 := eq_sm_le k (fun g hg => h1 g (by omega)) (fun g hg => h2 g (by omega))
    have h4 := h1 k (by omega)
    have h5 := h2 k (by omega)
    show eq_sm p c k + (if c k = true then p k else 0) ≤ eq_sm p c' k + (if c' k = true then p k else 0)
    by_cases e : c k = true
    · rw [if_pos e, if_pos (h5 e)]
      omega
    · rw [if_neg e]
      split <;> omega
theorem ef_ss_le {Se : Nat → Int} {x y : Nat} : ∀ k, (∀ b, b < k → 0 ≤ Se b) → (∀ b, b < k → Nat.testBit x b = true → Nat.testBit y b = true) → ef_ss Se k x ≤ ef_ss Se k y
  | 0, _, _ => Int.le_refl _
  | k + 1, h1, h2 => by
    have h3 := ef_ss_le k (fun g hg => h1 g (by omega)) (fun g hg => h2 g (by omega))
    have h4 := h1 k (by omega)
    have h5 := h2 k (by omega)
    show ef_ss Se k x + (if Nat.testBit x k then Se k else 0) ≤ ef_ss Se k y + (if Nat.testBit y k then Se k else 0)
    by_cases e : Nat.testBit x k = true
    · rw [if_pos e, if_pos (h5 e)]
      omega
    · rw [if_neg e]
      split <;> omega
/-- some are within others -/
def eq_in (m x : Nat) : Bool := (m &&& x) == m
theorem eq_in_ok {m x : Nat} : eq_in m x = true ↔ ∀ b, Nat.testBit m b = true → Nat.testBit x b = true := by
  unfold eq_in
  rw [beq_iff_eq]
  constructor
  · intro h b hb
    have e := congrArg (fun z => Nat.testBit z b) h
    have e2 : (Nat.testBit m b && Nat.testBit x b) = Nat.testBit m b := (Nat.testBit_and m x b).symm.trans e
    rw [hb, Bool.true_and] at e2
    exact e2
  · intro h
    apply Nat.eq_of_testBit_eq
    intro b
    rw [Nat.testBit_and]
    cases e : Nat.testBit m b with
    | false => rfl
    | true => rw [h b e, Bool.true_and]
def eq_un (M : Nat → Nat) (s : Nat) : Nat → Nat
  | 0 => 0
  | k + 1 => eq_un M s k ||| (if Nat.testBit s k then M k else 0)
theorem eq_un_has {M : Nat → Nat} {s b : Nat} : ∀ k, Nat.testBit (eq_un M s k) b = true ↔ ∃ g, g < k ∧ Nat.testBit s g = true ∧ Nat.testBit (M g) b = true
  | 0 => by
    constructor
    · intro h
      have h2 : Nat.testBit 0 b = true := h
      rw [Nat.zero_testBit] at h2
      cases h2
    · intro ⟨g, hg, _⟩
      exact absurd hg (Nat.not_lt_zero _)
  | k + 1 => by
    show Nat.testBit (eq_un M s k ||| (if Nat.testBit s k then M k else 0)) b = true ↔ _
    rw [Nat.testBit_or, Bool.or_eq_true, eq_un_has k]
    constructor
    · intro h
      rcases h with ⟨g, h1, h2, h3⟩ | h
      · exact ⟨g, by omega, h2, h3⟩
      · by_cases e : Nat.testBit s k = true
        · rw [if_pos e] at h
          exact ⟨k, by omega, e, h⟩
        · rw [if_neg e, Nat.zero_testBit] at h
          cases h
    · intro ⟨g, h1, h2, h3⟩
      by_cases e : g = k
      · rw [e] at h2 h3
        rw [if_pos h2]
        exact .inr h3
      · exact .inl ⟨g, by omega, h2, h3⟩
def eq_mk (c : Nat → Bool) : Nat → Nat
  | 0 => 0
  | k + 1 => eq_mk c k + (if c k = true then 2 ^ k else 0)
theorem eq_mk_lt {c : Nat → Bool} : ∀ k, eq_mk c k < 2 ^ k
  | 0 => Nat.zero_lt_one
  | k + 1 => by
    have h := eq_mk_lt (c := c) k
    show eq_mk c k + (if c k = true then 2 ^ k else 0) < 2 ^ (k + 1)
    rw [Nat.pow_succ]
    split <;> omega
theorem eq_mk_bit {c : Nat → Bool} : ∀ k g, g < k → Nat.testBit (eq_mk c k) g = c g
  | 0, g, h => absurd h (Nat.not_lt_zero _)
  | k + 1, g, h => by
    have hl := eq_mk_lt (c := c) k
    show Nat.testBit (eq_mk c k + (if c k = true then 2 ^ k else 0)) g = c g
    by_cases e : c k = true
    · rw [if_pos e, Nat.add_comm]
      by_cases q : g = k
      · rw [q, Nat.testBit_two_pow_add_eq, Nat.testBit_lt_two_pow hl, e]
        rfl
      · rw [Nat.testBit_two_pow_add_gt (by omega)]
        exact eq_mk_bit k g (by omega)
    · rw [if_neg e, Nat.add_zero]
      by_cases q : g = k
      · rw [q, Nat.testBit_lt_two_pow hl]
        cases e2 : c k with
        | false => rfl
        | true => exact absurd e2 e
      · exact eq_mk_bit k g (by omega)
/-- a cut by boats, a cut by groups -/
def eq_C (Se p : Nat → Int) (M : Nat → Nat) (bn gn x : Nat) : Int := ef_ss Se bn x + eq_sm p (fun g => !(eq_in (M g) x)) gn
def eq_D (Se p : Nat → Int) (M : Nat → Nat) (bn gn s : Nat) : Int := eq_sm p (fun g => !(Nat.testBit s g)) gn + ef_ss Se bn (eq_un M s gn)
theorem eq_CD {Se p : Nat → Int} {M : Nat → Nat} {bn gn s : Nat} (hS : ∀ b, b < bn → 0 ≤ Se b) (hp : ∀ g, g < gn → 0 ≤ p g) : eq_C Se p M bn gn (eq_un M s gn) ≤ eq_D Se p M bn gn s := by
  unfold eq_C eq_D
  have h := eq_sm_le (p := p) (c := fun g => !(eq_in (M g) (eq_un M s gn))) (c' := fun g => !(Nat.testBit s g)) gn hp (fun g hg e => by
    have e1 : (!(eq_in (M g) (eq_un M s gn))) = true := e
    show (!(Nat.testBit s g)) = true
    cases t : Nat.testBit s g with
    | false => rfl
    | true =>
      have : eq_in (M g) (eq_un M s gn) = true := eq_in_ok.mpr (fun b hb => (eq_un_has gn).mpr ⟨g, hg, t, hb⟩)
      rw [this] at e1
      cases e1)
  omega
theorem eq_DC {Se p : Nat → Int} {M : Nat → Nat} {bn gn x : Nat} (hS : ∀ b, b < bn → 0 ≤ Se b) (hp : ∀ g, g < gn → 0 ≤ p g) : eq_D Se p M bn gn (eq_mk (fun g => eq_in (M g) x) gn) ≤ eq_C Se p M bn gn x := by
  unfold eq_C eq_D
  have h1 := eq_sm_le (p := p) (c := fun g => !(Nat.testBit (eq_mk (fun g => eq_in (M g) x) gn) g)) (c' := fun g => !(eq_in (M g) x)) gn hp (fun g hg e => by
    have e1 : (!(Nat.testBit (eq_mk (fun g => eq_in (M g) x) gn) g)) = true := e
    rw [eq_mk_bit gn g hg] at e1
    exact e1)
  have h2 := ef_ss_le (Se := Se) (x := eq_un M (eq_mk (fun g => eq_in (M g) x) gn) gn) (y := x) bn hS (fun b _ hb => by
    obtain ⟨g, g1, g2, g3⟩ := (eq_un_has gn).mp hb
    rw [eq_mk_bit gn g g1] at g2
    exact eq_in_ok.mp g2 b g3)
  omega
theorem eq_cut {Se p : Nat → Int} {M : Nat → Nat} {bn gn : Nat} {a a' : Int} (hS : ∀ b, b < bn → 0 ≤ Se b) (hp : ∀ g, g < gn → 0 ≤ p g) (hM : ∀ s, eq_un M s gn < 2 ^ bn) (ha : eq_C Se p M bn gn (2 ^ bn - 1) ≤ a) (ha' : eq_D Se p M bn gn 0 ≤ a') : eq_mn (eq_C Se p M bn gn) a (2 ^ bn) = eq_mn (eq_D Se p M bn gn) a' (2 ^ gn) := by
  have l1 := eq_mn_le (f := eq_C Se p M bn gn) (a := a) (2 ^ bn)
  have l2 := eq_mn_le (f := eq_D Se p M bn gn) (a := a') (2 ^ gn)
  have p1 : 0 < 2 ^ bn := Nat.two_pow_pos bn
  have p2 : 0 < 2 ^ gn := Nat.two_pow_pos gn
  have g1 : eq_mn (eq_C Se p M bn gn) a (2 ^ bn) ≤ eq_mn (eq_D Se p M bn gn) a' (2 ^ gn) := by
    refine eq_mn_ge (2 ^ gn) ?_ (fun s hs => Int.le_trans (l1.2 _ (hM s)) (eq_CD hS hp))
    exact Int.le_trans (Int.le_trans (l1.2 _ (hM 0)) (eq_CD hS hp)) ha'
  have g2 : eq_mn (eq_D Se p M bn gn) a' (2 ^ gn) ≤ eq_mn (eq_C Se p M bn gn) a (2 ^ bn) := by
    refine eq_mn_ge (2 ^ bn) ?_ (fun x hx => Int.le_trans (l2.2 _ (eq_mk_lt gn)) (eq_DC hS hp))
    exact Int.le_trans (Int.le_trans (l2.2 _ (eq_mk_lt gn)) (eq_DC hS hp)) ha
  omega

end

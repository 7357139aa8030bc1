noncomputable section
/-! SEATING: how many of a GROUP can be in a BOAT, by cuts; pairs that are done count no more -/
def et_su (f : Nat → Int) : Nat → Int
  | 0 => 0
  | k + 1 => et_su f k + f k
theorem et_su_le {f h : Nat → Int} : ∀ k, (∀ g, g < k → f g ≤ h g) → et_su f k ≤ et_su h k
  | 0, _ => Int.le_refl _
  | k + 1, q => by
    have h1 := et_su_le k (fun g hg => q g (by omega))
    have h2 := q k (by omega)
    show et_su f k + f k ≤ et_su h k + h k
    omega
theorem et_su_cg {f h : Nat → Int} : ∀ k, (∀ g, g < k → f g = h g) → et_su f k = et_su h k
  | 0, _ => rfl
  | k + 1, q => by
    have h1 := et_su_cg k (fun g hg => q g (by omega))
    have h2 := q k (by omega)
    show et_su f k + f k = et_su h k + h k
    omega
theorem et_su_add {f h : Nat → Int} : ∀ k, et_su (fun g => f g + h g) k = et_su f k + et_su h k
  | 0 => rfl
  | k + 1 => by
    have h1 := et_su_add (f := f) (h := h) k
    show et_su (fun g => f g + h g) k + (f k + h k) = (et_su f k + f k) + (et_su h k + h k)
    omega
def et_1 (g0 : Nat) (v : Int) (g : Nat) : Int := if g = g0 then v else 0
theorem et_su_z {v : Int} {g0 : Nat} : ∀ k, k ≤ g0 → et_su (et_1 g0 v) k = 0
  | 0, _ => rfl
  | k + 1, h => by
    have h1 := et_su_z (v := v) (g0 := g0) k (by omega)
    show et_su (et_1 g0 v) k + et_1 g0 v k = 0
    unfold et_1 at h1 ⊢
    rw [h1, if_neg (by omega)]
    rfl
theorem et_su_one {v : Int} {g0 : Nat} : ∀ k, g0 < k → et_su (et_1 g0 v) k = v
  | 0, h => absurd h (Nat.not_lt_zero _)
  | k + 1, h => by
    show et_su (et_1 g0 v) k + et_1 g0 v k = v
    by_cases q : k = g0
    · rw [et_su_z k (by omega)]
      unfold et_1
      rw [if_pos q]
      omega
    · rw [et_su_one k (by omega)]
      unfold et_1
      rw [if_neg q]
      omega
def et_t (p : Nat → Int) (M : Nat → Nat) (x g : Nat) : Int := if eq_in (M g) x = true then 0 else p g
/-- a cut -/
def et_c (Se p : Nat → Int) (M : Nat → Nat) (bn gn x : Nat) : Int := ef_ss Se bn x + et_su (et_t p M x) gn
theorem et_sm {p : Nat → Int} {M : Nat → Nat} {x : Nat} : ∀ k, eq_sm p (fun g => !(eq_in (M g) x)) k = et_su (et_t p M x) k
  | 0 => rfl
  | k + 1 => by
    show eq_sm p (fun g => !(eq_in (M g) x)) k + (if (!(eq_in (M k) x)) = true then p k else 0) = et_su (et_t p M x) k + et_t p M x k
    rw [et_sm k]
    unfold et_t
    cases eq_in (M k) x <;> rfl
theorem et_C {Se p : Nat → Int} {M : Nat → Nat} {bn gn x : Nat} : eq_C Se p M bn gn x = et_c Se p M bn gn x := by
  unfold eq_C et_c
  rw [et_sm]
theorem et_or_l {m x y : Nat} (h : eq_in m x = true) : eq_in m (x ||| y) = true := eq_in_ok.mpr (fun b hb => by rw [Nat.testBit_or, eq_in_ok.mp h b hb]; rfl)
theorem et_or_r {m x y : Nat} (h : eq_in m y = true) : eq_in m (x ||| y) = true := eq_in_ok.mpr (fun b hb => by rw [Nat.testBit_or, eq_in_ok.mp h b hb, Bool.or_true])
theorem et_and_i {m x y : Nat} (h1 : eq_in m x = true) (h2 : eq_in m y = true) : eq_in m (x &&& y) = true := eq_in_ok.mpr (fun b hb => by rw [Nat.testBit_and, eq_in_ok.mp h1 b hb, eq_in_ok.mp h2 b hb]; rfl)
theorem et_and_l {m x y : Nat} (h : eq_in m (x &&& y) = true) : eq_in m x = true := eq_in_ok.mpr (fun b hb => by
  have := eq_in_ok.mp h b hb
  rw [Nat.testBit_and, Bool.and_eq_true] at this
  exact this.1)
theorem et_bf {b : Bool} (h : ¬ b = true) : b = false := by
  cases b with
  | false => rfl
  | true => exact absurd rfl h
theorem et_ss_mod {Se : Nat → Int} {x y : Nat} : ∀ k, ef_ss Se k (x ||| y) + ef_ss Se k (x &&& y) = ef_ss Se k x + ef_ss Se k y
  | 0 => rfl
  | k + 1 => by
    have h := et_ss_mod (Se := Se) (x := x) (y := y) k
    show (ef_ss Se k (x ||| y) + (if Nat.testBit (x ||| y) k then Se k else 0)) + (ef_ss Se k (x &&& y) + (if Nat.testBit (x &&& y) k then Se k else 0)) = (ef_ss Se k x + (if Nat.testBit x k then Se k else 0)) + (ef_ss Se k y + (if Nat.testBit y k then Se k else 0))
    rw [Nat.testBit_or, Nat.testBit_and]
    cases Nat.testBit x k <;> cases Nat.testBit y k <;> simp <;> omega
theorem et_t_in {p : Nat → Int} {M : Nat → Nat} {x g : Nat} (hp : 0 ≤ p g) : 0 ≤ et_t p M x g ∧ et_t p M x g ≤ p g := by
  unfold et_t
  split <;> omega
theorem et_t_sub {p : Nat → Int} {M : Nat → Nat} {x y g : Nat} (hp : 0 ≤ p g) : et_t p M (x ||| y) g + et_t p M (x &&& y) g ≤ et_t p M x g + et_t p M y g := by
  by_cases h1 : eq_in (M g) x = true
  · by_cases h2 : eq_in (M g) y = true
    · unfold et_t
      rw [if_pos h1, if_pos h2, if_pos (et_or_l h1), if_pos (et_and_i h1 h2)]
      omega
    · have h3 := (et_t_in (M := M) (x := x &&& y) hp).2
      unfold et_t at h3 ⊢
      rw [if_pos h1, if_neg h2, if_pos (et_or_l h1)]
      omega
  · by_cases h2 : eq_in (M g) y = true
    · have h3 := (et_t_in (M := M) (x := x &&& y) hp).2
      unfold et_t at h3 ⊢
      rw [if_neg h1, if_pos h2, if_pos (et_or_r h2)]
      omega
    · have h3 := (et_t_in (M := M) (x := x &&& y) hp).2
      have h4 := (et_t_in (M := M) (x := x ||| y) hp).2
      have e1 : et_t p M x g = p g := by
        unfold et_t
        rw [if_neg h1]
      have e2 : et_t p M y g = p g := by
        unfold et_t
        rw [if_neg h2]
      omega
/-- who lacks a boat on both, and on none together -/
theorem et_t_sub1 {p : Nat → Int} {M : Nat → Nat} {x y g : Nat} (hp : 0 ≤ p g) (h1 : eq_in (M g) x = false) (h2 : eq_in (M g) y = false) (h3 : eq_in (M g) (x ||| y) = true) : et_t p M (x ||| y) g + et_t p M (x &&& y) g + p g ≤ et_t p M x g + et_t p M y g := by
  have h4 := (et_t_in (M := M) (x := x &&& y) hp).2
  have e0 : et_t p M (x ||| y) g = 0 := by
    unfold et_t
    rw [if_pos h3]
  have e1 : et_t p M x g = p g := by
    unfold et_t
    rw [h1]
    rfl
  have e2 : et_t p M y g = p g := by
    unfold et_t
    rw [h2]
    rfl
  omega
section ET1
variable {Se p : Nat → Int} {M M' : Nat → Nat} {bn gn : Nat} {L : Int}
def et_min (Se p : Nat → Int) (M : Nat → Nat) (bn gn : Nat) (L : Int) : Prop := (∀ x, L ≤ et_c Se p M bn gn x) ∧ ∃ x, et_c Se p M bn gn x = L
def et_ok (Se p : Nat → Int) (M : Nat → Nat) (bn gn : Nat) (L : Int) (g b : Nat) (n : Int) : Prop := n ≤ p g ∧ n ≤ Se b ∧ ∀ x, Nat.testBit x b = true → eq_in (M g) x = false → n ≤ et_c Se p M bn gn x - L
def et_dead (Se p : Nat → Int) (M : Nat → Nat) (bn gn : Nat) (L : Int) (g b : Nat) : Prop := p g = 0 ∨ Se b = 0 ∨ ∃ y, et_c Se p M bn gn y = L ∧ Nat.testBit y b = true ∧ eq_in (M g) y = false
theorem et_sub0 {x y : Nat} (hp : ∀ g, g < gn → 0 ≤ p g) : et_c Se p M bn gn (x ||| y) + et_c Se p M bn gn (x &&& y) ≤ et_c Se p M bn gn x + et_c Se p M bn gn y := by
  have h1 := et_ss_mod (Se := Se) (x := x) (y := y) bn
  have h2 := et_su_le (f := fun g => et_t p M (x ||| y) g + et_t p M (x &&& y) g) (h := fun g => et_t p M x g + et_t p M y g) gn (fun g hg => et_t_sub (hp g hg))
  rw [et_su_add, et_su_add] at h2
  unfold et_c
  omega
theorem et_sub1 {x y g0 : Nat} (hp : ∀ g, g < gn → 0 ≤ p g) (hg : g0 < gn) (h1 : eq_in (M g0) x = false) (h2 : eq_in (M g0) y = false) (h3 : eq_in (M g0) (x ||| y) = true) : et_c Se p M bn gn (x ||| y) + et_c Se p M bn gn (x &&& y) + p g0 ≤ et_c Se p M bn gn x + et_c Se p M bn gn y := by
  have m1 := et_ss_mod (Se := Se) (x := x) (y := y) bn
  have m2 := et_su_le (f := fun g => (et_t p M (x ||| y) g + et_t p M (x &&& y) g) + et_1 g0 (p g0) g) (h := fun g => et_t p M x g + et_t p M y g) gn (fun g hg' => by
    show (et_t p M (x ||| y) g + et_t p M (x &&& y) g) + et_1 g0 (p g0) g ≤ et_t p M x g + et_t p M y g
    by_cases q : g = g0
    · have e : et_1 g0 (p g0) g = p g := by
        unfold et_1
        rw [if_pos q, q]
      rw [e]
      rw [q]
      exact et_t_sub1 (hp g0 hg) h1 h2 h3
    · have e : et_1 g0 (p g0) g = 0 := by
        unfold et_1
        rw [if_neg q]
      have := et_t_sub (M := M) (x := x) (y := y) (hp g hg')
      omega)
  have e1 : et_su (fun g => (et_t p M (x ||| y) g + et_t p M (x &&& y) g) + et_1 g0 (p g0) g) gn = (et_su (et_t p M (x ||| y)) gn + et_su (et_t p M (x &&& y)) gn) + p g0 := by
    rw [et_su_add (f := fun g => et_t p M (x ||| y) g + et_t p M (x &&& y) g), et_su_add, et_su_one gn hg]
  rw [e1, et_su_add] at m2
  unfold et_c
  omega
theorem et_sub2 {x y g0 g1 : Nat} (hp : ∀ g, g < gn → 0 ≤ p g) (hg : g0 < gn) (hg1 : g1 < gn) (hne : g1 ≠ g0) (h1 : eq_in (M g0) x = false) (h2 : eq_in (M g0) y = false) (h3 : eq_in (M g0) (x ||| y) = true) (k1 : eq_in (M g1) x = false) (k2 : eq_in (M g1) y = false) (k3 : eq_in (M g1) (x ||| y) = true) : et_c Se p M bn gn (x ||| y) + et_c Se p M bn gn (x &&& y) + p g0 + p g1 ≤ et_c Se p M bn gn x + et_c Se p M bn gn y := by
  have m1 := et_ss_mod (Se := Se) (x := x) (y := y) bn
  have m2 := et_su_le (f := fun g => ((et_t p M (x ||| y) g + et_t p M (x &&& y) g) + et_1 g0 (p g0) g) + et_1 g1 (p g1) g) (h := fun g => et_t p M x g + et_t p M y g) gn (fun g hg' => by
    show ((et_t p M (x ||| y) g + et_t p M (x &&& y) g) + et_1 g0 (p g0) g) + et_1 g1 (p g1) g ≤ et_t p M x g + et_t p M y g
    by_cases q : g = g0
    · have e : et_1 g0 (p g0) g = p g := by
        unfold et_1
        rw [if_pos q, q]
      have e' : et_1 g1 (p g1) g = 0 := by
        unfold et_1
        rw [if_neg (fun z => hne (z.symm.trans q))]
      rw [e, e']
      rw [q]
      have := et_t_sub1 (M := M) (hp g0 hg) h1 h2 h3
      omega
    · have e : et_1 g0 (p g0) g = 0 := by
        unfold et_1
        rw [if_neg q]
      by_cases q1 : g = g1
      · have e' : et_1 g1 (p g1) g = p g := by
          unfold et_1
          rw [if_pos q1, q1]
        rw [e, e']
        rw [q1]
        have := et_t_sub1 (M := M) (hp g1 hg1) k1 k2 k3
        omega
      · have e' : et_1 g1 (p g1) g = 0 := by
          unfold et_1
          rw [if_neg q1]
        have := et_t_sub (M := M) (x := x) (y := y) (hp g hg')
        omega)
  have e1 : et_su (fun g => ((et_t p M (x ||| y) g + et_t p M (x &&& y) g) + et_1 g0 (p g0) g) + et_1 g1 (p g1) g) gn = ((et_su (et_t p M (x ||| y)) gn + et_su (et_t p M (x &&& y)) gn) + p g0) + p g1 := by
    rw [et_su_add (f := fun g => (et_t p M (x ||| y) g + et_t p M (x &&& y) g) + et_1 g0 (p g0) g), et_su_add (f := fun g => et_t p M (x ||| y) g + et_t p M (x &&& y) g), et_su_add, et_su_one gn hg, et_su_one gn hg1]
  rw [e1, et_su_add] at m2
  unfold et_c
  omega
/-- a pair is taken away -/
def et_rm (M M' : Nat → Nat) (g0 b0 : Nat) : Prop := (∀ g, g ≠ g0 → M' g = M g) ∧ ∀ b, Nat.testBit (M' g0) b = (Nat.testBit (M g0) b && !(decide (b = b0)))
theorem et_rm_in {g0 b0 x g : Nat} (hr : et_rm M M' g0 b0) (h : eq_in (M g) x = true) : eq_in (M' g) x = true := by
  by_cases q : g = g0
  · rw [q] at h ⊢
    refine eq_in_ok.mpr (fun b hb => ?_)
    rw [hr.2 b, Bool.and_eq_true] at hb
    exact eq_in_ok.mp h b hb.1
  · rw [hr.1 g q]
    exact h
theorem et_rm_or {g0 b0 x y g : Nat} (hr : et_rm M M' g0 b0) (h : eq_in (M' g) x = true) (hy : Nat.testBit y b0 = true) : eq_in (M g) (x ||| y) = true := by
  refine eq_in_ok.mpr (fun b hb => ?_)
  rw [Nat.testBit_or]
  by_cases q : g = g0
  · by_cases q2 : b = b0
    · rw [q2, hy, Bool.or_true]
    · have h1 : Nat.testBit (M' g0) b = true := by
        rw [hr.2 b, ← q, hb, decide_eq_false q2]
        rfl
      rw [← q] at h1
      rw [eq_in_ok.mp h b h1]
      rfl
  · have h1 : Nat.testBit (M' g) b = true := by
      rw [hr.1 g q]
      exact hb
    rw [eq_in_ok.mp h b h1]
    rfl
theorem et_rm_t {g0 b0 x g : Nat} (hr : et_rm M M' g0 b0) (hp : 0 ≤ p g) : et_t p M' x g ≤ et_t p M x g := by
  by_cases h : eq_in (M g) x = true
  · have h2 := et_rm_in hr h
    unfold et_t
    rw [if_pos h, if_pos h2]
    omega
  · have e : et_t p M x g = p g := by
      unfold et_t
      rw [if_neg h]
    rw [e]
    exact (et_t_in hp).2
theorem et_rm_le {g0 b0 x : Nat} (hr : et_rm M M' g0 b0) (hp : ∀ g, g < gn → 0 ≤ p g) : et_c Se p M' bn gn x ≤ et_c Se p M bn gn x := by
  have := et_su_le (f := et_t p M' x) (h := et_t p M x) gn (fun g hg => et_rm_t hr (hp g hg))
  unfold et_c
  omega
theorem et_rm_eq {g0 b0 x : Nat} (hr : et_rm M M' g0 b0) (h : eq_in (M' g0) x = eq_in (M g0) x) : et_c Se p M' bn gn x = et_c Se p M bn gn x := by
  have := et_su_cg (f := et_t p M' x) (h := et_t p M x) gn (fun g hg => by
    unfold et_t
    by_cases q : g = g0
    · rw [q, h]
    · rw [hr.1 g q])
  unfold et_c
  omega
theorem et_rm_lt {g0 b0 x : Nat} (hr : et_rm M M' g0 b0) (hg : g0 < gn) (h1 : eq_in (M' g0) x = true) (h2 : eq_in (M g0) x = false) : et_c Se p M' bn gn x + p g0 = et_c Se p M bn gn x := by
  have e1 := et_su_cg (f := fun g => et_t p M' x g + et_1 g0 (p g0) g) (h := et_t p M x) gn (fun g hg' => by
    show et_t p M' x g + et_1 g0 (p g0) g = et_t p M x g
    unfold et_t et_1
    by_cases q : g = g0
    · rw [q, h1, h2]
      simp
    · rw [if_neg q, hr.1 g q, Int.add_zero])
  rw [et_su_add, et_su_one gn hg] at e1
  unfold et_c
  omega
/-- with no seats left in the boat: it may as well be within -/
theorem et_ss_b {b0 x : Nat} (h : Se b0 = 0) : ∀ k, ef_ss Se k (x ||| 2 ^ b0) = ef_ss Se k x
  | 0 => rfl
  | k + 1 => by
    show ef_ss Se k (x ||| 2 ^ b0) + (if Nat.testBit (x ||| 2 ^ b0) k then Se k else 0) = ef_ss Se k x + (if Nat.testBit x k then Se k else 0)
    rw [et_ss_b h k, Nat.testBit_or, Nat.testBit_two_pow]
    by_cases q : b0 = k
    · rw [← q, h]
      split <;> split <;> rfl
    · rw [decide_eq_false q, Bool.or_false]
theorem et_b0 {b0 : Nat} : Nat.testBit (2 ^ b0) b0 = true := by
  rw [Nat.testBit_two_pow]
  exact decide_eq_true (rfl : b0 = b0)
theorem et_rm_s {g0 b0 x : Nat} (hr : et_rm M M' g0 b0) (hp : ∀ g, g < gn → 0 ≤ p g) (h : Se b0 = 0) : et_c Se p M bn gn (x ||| 2 ^ b0) ≤ et_c Se p M' bn gn x := by
  have e := et_ss_b (Se := Se) (x := x) h bn
  have m := et_su_le (f := et_t p M (x ||| 2 ^ b0)) (h := et_t p M' x) gn (fun g hg => by
    by_cases q : eq_in (M' g) x = true
    · unfold et_t
      rw [if_pos q, if_pos (et_rm_or hr q et_b0)]
      omega
    · have e2 : et_t p M' x g = p g := by
        unfold et_t
        rw [if_neg q]
      rw [e2]
      exact (et_t_in (hp g hg)).2)
  unfold et_c
  omega
theorem et_rm_s1 {g0 b0 x g1 : Nat} (hr : et_rm M M' g0 b0) (hp : ∀ g, g < gn → 0 ≤ p g) (h : Se b0 = 0) (hg : g1 < gn) (h1 : eq_in (M' g1) x = false) (h2 : eq_in (M g1) (x ||| 2 ^ b0) = true) : et_c Se p M bn gn (x ||| 2 ^ b0) + p g1 ≤ et_c Se p M' bn gn x := by
  have e := et_ss_b (Se := Se) (x := x) h bn
  have m := et_su_le (f := fun g => et_t p M (x ||| 2 ^ b0) g + et_1 g1 (p g1) g) (h := et_t p M' x) gn (fun g hg' => by
    show et_t p M (x ||| 2 ^ b0) g + et_1 g1 (p g1) g ≤ et_t p M' x g
    by_cases q1 : g = g1
    · rw [q1]
      unfold et_t et_1
      rw [if_pos h2, if_pos rfl, h1]
      simp
    · have e3 : et_1 g1 (p g1) g = 0 := by
        unfold et_1
        rw [if_neg q1]
      rw [e3]
      by_cases q : eq_in (M' g) x = true
      · unfold et_t
        rw [if_pos q, if_pos (et_rm_or hr q et_b0)]
        omega
      · have e2 : et_t p M' x g = p g := by
          unfold et_t
          rw [if_neg q]
        have := (et_t_in (M := M) (x := x ||| 2 ^ b0) (hp g hg')).2
        omega)
  rw [et_su_add, et_su_one gn hg] at m
  unfold et_c
  omega
/-- of a dead pair nothing is missed: the least cut -/
theorem et_rm_min {g0 b0 : Nat} (hr : et_rm M M' g0 b0) (hp : ∀ g, g < gn → 0 ≤ p g) (hg : g0 < gn) (hm : et_min Se p M bn gn L) (hd : et_dead Se p M bn gn L g0 b0) : et_min Se p M' bn gn L := by
  have lo : ∀ x, L ≤ et_c Se p M' bn gn x := by
    intro x
    by_cases h1 : eq_in (M g0) x = true
    · rw [et_rm_eq hr ((et_rm_in hr h1).trans h1.symm)]
      exact hm.1 x
    · have h1 := et_bf h1
      by_cases h2 : eq_in (M' g0) x = true
      · have e := et_rm_lt (Se := Se) (p := p) (bn := bn) hr hg h2 h1
        rcases hd with d | d | ⟨y, y1, y2, y3⟩
        · have := hm.1 x
          omega
        · exact Int.le_trans (hm.1 _) (et_rm_s hr hp d)
        · have s := et_sub1 (Se := Se) (bn := bn) (x := x) (y := y) hp hg h1 y3 (et_rm_or hr h2 y2)
          have m1 := hm.1 (x ||| y)
          have m2 := hm.1 (x &&& y)
          omega
      · rw [et_rm_eq hr ((et_bf h2).trans h1.symm)]
        exact hm.1 x
  refine ⟨lo, ?_⟩
  obtain ⟨x, hx⟩ := hm.2
  have h1 := et_rm_le (Se := Se) (bn := bn) (x := x) hr hp
  have h2 := lo x
  exact ⟨x, by omega⟩
/-- what a pair can have -/
theorem et_rm_ok {g0 b0 g b : Nat} {n : Int} (hr : et_rm M M' g0 b0) (hp : ∀ g, g < gn → 0 ≤ p g) (hg : g0 < gn) (hg1 : g < gn) (hb : Nat.testBit (M' g) b = true) (hm : et_min Se p M bn gn L) (hd : et_dead Se p M bn gn L g0 b0) : et_ok Se p M bn gn L g b n ↔ et_ok Se p M' bn gn L g b n := by
  have hm' := et_rm_min hr hp hg hm hd
  have hbM : Nat.testBit (M g) b = true := by
    by_cases q : g = g0
    · rw [q, hr.2 b, Bool.and_eq_true] at hb
      rw [q]
      exact hb.1
    · rw [hr.1 g q] at hb
      exact hb
  constructor
  · intro ⟨o1, o2, o3⟩
    refine ⟨o1, o2, fun x hx hn => ?_⟩
    have hnM : eq_in (M g) x = false := et_bf (fun e => by rw [et_rm_in hr e] at hn; cases hn)
    by_cases h1 : eq_in (M g0) x = true
    · rw [et_rm_eq hr ((et_rm_in hr h1).trans h1.symm)]
      exact o3 x hx hnM
    · have h1 := et_bf h1
      by_cases h2 : eq_in (M' g0) x = true
      · have hne : g ≠ g0 := fun e => by
          rw [e, h2] at hn
          cases hn
        have e := et_rm_lt (Se := Se) (p := p) (bn := bn) hr hg h2 h1
        rcases hd with d | d | ⟨y, y1, y2, y3⟩
        · have := o3 x hx hnM
          omega
        · by_cases h3 : eq_in (M g) (x ||| 2 ^ b0) = true
          · have s := et_rm_s1 (Se := Se) (bn := bn) hr hp d hg1 hn h3
            have := hm.1 (x ||| 2 ^ b0)
            omega
          · have s := et_rm_s (Se := Se) (bn := bn) (x := x) hr hp d
            have := o3 (x ||| 2 ^ b0) (by rw [Nat.testBit_or, hx]; rfl) (et_bf h3)
            omega
        · have s := et_sub1 (Se := Se) (bn := bn) (x := x) (y := y) hp hg h1 y3 (et_rm_or hr h2 y2)
          have m1 := hm.1 (x ||| y)
          have m2 := hm.1 (x &&& y)
          by_cases h3 : eq_in (M g) (x ||| y) = true
          · by_cases h4 : Nat.testBit y b = true
            · have := o3 (x &&& y) (by rw [Nat.testBit_and, hx, h4]; rfl) (et_bf (fun e => by rw [et_and_l e] at hnM; cases hnM))
              omega
            · have ny : eq_in (M g) y = false := et_bf (fun e => h4 (eq_in_ok.mp e b hbM))
              have s2 := et_sub2 (Se := Se) (bn := bn) (x := x) (y := y) hp hg hg1 hne h1 y3 (et_rm_or hr h2 y2) hnM ny h3
              omega
          · have := o3 (x ||| y) (by rw [Nat.testBit_or, hx]; rfl) (et_bf h3)
            omega
      · rw [et_rm_eq hr ((et_bf h2).trans h1.symm)]
        exact o3 x hx hnM
  · intro ⟨o1, o2, o3⟩
    refine ⟨o1, o2, fun x hx hn => ?_⟩
    by_cases h1 : eq_in (M' g) x = true
    · by_cases q : g = g0
      · rw [q] at h1 hn o1
        have e := et_rm_lt (Se := Se) (p := p) (bn := bn) hr hg h1 hn
        have := hm'.1 x
        omega
      · rw [hr.1 g q, hn] at h1
        cases h1
    · have := o3 x hx (et_bf h1)
      have := et_rm_le (Se := Se) (bn := bn) (x := x) hr hp
      omega
theorem et_rm_dead {g0 b0 g b : Nat} (hr : et_rm M M' g0 b0) (hp : ∀ g, g < gn → 0 ≤ p g) (hg : g0 < gn) (hm : et_min Se p M bn gn L) (hd0 : et_dead Se p M bn gn L g0 b0) (hd : et_dead Se p M bn gn L g b) : et_dead Se p M' bn gn L g b := by
  have hm' := et_rm_min hr hp hg hm hd0
  rcases hd with d | d | ⟨y, y1, y2, y3⟩
  · exact .inl d
  · exact .inr (.inl d)
  · have l1 := et_rm_le (Se := Se) (bn := bn) (x := y) hr hp
    have l2 := hm'.1 y
    by_cases h1 : eq_in (M' g) y = true
    · by_cases q : g = g0
      · rw [q] at h1 y3 ⊢
        have e := et_rm_lt (Se := Se) (p := p) (bn := bn) hr hg h1 y3
        have := hp g0 hg
        exact .inl (by omega)
      · rw [hr.1 g q, y3] at h1
        cases h1
    · exact .inr (.inr ⟨y, by omega, y2, et_bf h1⟩)
end ET1

end

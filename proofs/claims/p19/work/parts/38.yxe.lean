noncomputable section
/-! SEATING, pair by pair, as a function -/
def et_nn (Se p : Nat → Int) (M : Nat → Nat) (bn gn : Nat) (L : Int) (g b : Nat) : Nat → Int
  | 0 => min (p g) (Se b)
  | x + 1 => if Nat.testBit x b = true ∧ eq_in (M g) x = false then min (et_nn Se p M bn gn L g b x) (et_c Se p M bn gn x - L) else et_nn Se p M bn gn L g b x
section ET4
variable {Se p : Nat → Int} {M : Nat → Nat} {bn gn : Nat} {L : Int} {g b : Nat}
theorem et_nn_le : ∀ k, (et_nn Se p M bn gn L g b k ≤ p g ∧ et_nn Se p M bn gn L g b k ≤ Se b) ∧ ∀ x, x < k → Nat.testBit x b = true → eq_in (M g) x = false → et_nn Se p M bn gn L g b k ≤ et_c Se p M bn gn x - L := by
  intro k
  induction k with
  | zero =>
    refine ⟨?_, fun x hx => absurd hx (Nat.not_lt_zero _)⟩
    show min (p g) (Se b) ≤ p g ∧ min (p g) (Se b) ≤ Se b
    omega
  | succ k ih =>
    obtain ⟨h1, h2⟩ := ih
    have e : et_nn Se p M bn gn L g b (k + 1) = if Nat.testBit k b = true ∧ eq_in (M g) k = false then min (et_nn Se p M bn gn L g b k) (et_c Se p M bn gn k - L) else et_nn Se p M bn gn L g b k := rfl
    by_cases c : Nat.testBit k b = true ∧ eq_in (M g) k = false
    · rw [if_pos c] at e
      rw [e]
      refine ⟨by omega, fun x hx q1 q2 => ?_⟩
      by_cases q : x = k
      · rw [q]
        omega
      · have := h2 x (by omega) q1 q2
        omega
    · rw [if_neg c] at e
      rw [e]
      refine ⟨h1, fun x hx q1 q2 => ?_⟩
      by_cases q : x = k
      · rw [q] at q1 q2
        exact absurd ⟨q1, q2⟩ c
      · exact h2 x (by omega) q1 q2
theorem et_nn_at : ∀ k, (et_nn Se p M bn gn L g b k = p g ∨ et_nn Se p M bn gn L g b k = Se b) ∨ ∃ x, x < k ∧ Nat.testBit x b = true ∧ eq_in (M g) x = false ∧ et_nn Se p M bn gn L g b k = et_c Se p M bn gn x - L := by
  intro k
  induction k with
  | zero =>
    refine .inl ?_
    show min (p g) (Se b) = p g ∨ min (p g) (Se b) = Se b
    omega
  | succ k ih =>
    have e : et_nn Se p M bn gn L g b (k + 1) = if Nat.testBit k b = true ∧ eq_in (M g) k = false then min (et_nn Se p M bn gn L g b k) (et_c Se p M bn gn k - L) else et_nn Se p M bn gn L g b k := rfl
    by_cases c : Nat.testBit k b = true ∧ eq_in (M g) k = false
    · rw [if_pos c] at e
      by_cases q : et_nn Se p M bn gn L g b k ≤ et_c Se p M bn gn k - L
      · rw [Int.min_eq_left q] at e
        rw [e]
        rcases ih with h | ⟨x, h1, h2⟩
        · exact .inl h
        · exact .inr ⟨x, by omega, h2⟩
      · rw [Int.min_eq_right (by omega)] at e
        exact .inr ⟨k, by omega, c.1, c.2, e⟩
    · rw [if_neg c] at e
      rw [e]
      rcases ih with h | ⟨x, h1, h2⟩
      · exact .inl h
      · exact .inr ⟨x, by omega, h2⟩
def et_n (Se p : Nat → Int) (M : Nat → Nat) (bn gn : Nat) (L : Int) (g b : Nat) : Int := et_nn Se p M bn gn L g b (2 ^ bn)
theorem et_n_ok (hM : ∀ g, M g < 2 ^ bn) (hb : b < bn) : et_ok Se p M bn gn L g b (et_n Se p M bn gn L g b) := by
  have h := et_nn_le (Se := Se) (p := p) (M := M) (bn := bn) (gn := gn) (L := L) (g := g) (b := b) (2 ^ bn)
  refine ⟨h.1.1, h.1.2, fun x hx hn => ?_⟩
  have h2 := h.2 (x % 2 ^ bn) (Nat.mod_lt _ (Nat.two_pow_pos bn)) (by rw [Nat.testBit_mod_two_pow, hx, decide_eq_true hb]; rfl) (by rw [et_lo_in (hM g)]; exact hn)
  rw [et_lo hM] at h2
  exact h2
theorem et_n_mx : ¬ et_ok Se p M bn gn L g b (et_n Se p M bn gn L g b + 1) := by
  intro ⟨o1, o2, o3⟩
  rcases et_nn_at (Se := Se) (p := p) (M := M) (bn := bn) (gn := gn) (L := L) (g := g) (b := b) (2 ^ bn) with (h | h) | ⟨x, _, h1, h2, h3⟩
  · have e : et_n Se p M bn gn L g b = p g := h
    omega
  · have e : et_n Se p M bn gn L g b = Se b := h
    omega
  · have e : et_n Se p M bn gn L g b = et_c Se p M bn gn x - L := h3
    have := o3 x h1 h2
    omega
theorem et_n_0 (hp : 0 ≤ p g) (hs : 0 ≤ Se b) (hm : et_min Se p M bn gn L) : 0 ≤ et_n Se p M bn gn L g b := by
  rcases et_nn_at (Se := Se) (p := p) (M := M) (bn := bn) (gn := gn) (L := L) (g := g) (b := b) (2 ^ bn) with (h | h) | ⟨x, _, h1, h2, h3⟩
  · have e : et_n Se p M bn gn L g b = p g := h
    omega
  · have e : et_n Se p M bn gn L g b = Se b := h
    omega
  · have e : et_n Se p M bn gn L g b = et_c Se p M bn gn x - L := h3
    have := hm.1 x
    omega
theorem et_c_in {x : Nat} (hb : bn ≤ 8) (hg : gn ≤ 10) (hS : ∀ b, b < bn → 0 ≤ Se b ∧ Se b ≤ 65) (hp : ∀ g, g < gn → 0 ≤ p g ∧ p g ≤ 50) : 0 ≤ et_c Se p M bn gn x ∧ et_c Se p M bn gn x ≤ 1020 := by
  rw [← et_C]
  exact eq_C_in hb hg hS hp
end ET4
/-- persons, seats, how many are left, how many rows, rows -/
abbrev et_S : Type := (Nat → Int) × (Nat → Int) × Int × Nat × (Nat → Int)
def et_row (R : Nat → Int) (k : Nat) (a b c : Int) (i : Nat) : Int := if i = 3 * k then a else if i = 3 * k + 1 then b else if i = 3 * k + 2 then c else R i
def et_put (g b : Nat) (n : Int) (S : et_S) : et_S := (ef_u S.1 g (S.1 g - n), ef_u S.2.1 b (S.2.1 b - n), S.2.2.1 - n, if 0 < n then S.2.2.2.1 + 1 else S.2.2.2.1, if 0 < n then et_row S.2.2.2.2 S.2.2.2.1 (g : Int) (b : Int) n else S.2.2.2.2)
def et_st (M : Nat → Nat) (bn gn g b : Nat) (S : et_S) : et_S := if Nat.testBit (M g) b = true then et_put g b (et_n S.2.1 S.1 M bn gn S.2.2.1 g b) S else S
def et_sb (M : Nat → Nat) (bn gn g : Nat) : Nat → et_S → et_S
  | 0, S => S
  | j + 1, S => et_st M bn gn g j (et_sb M bn gn g j S)
def et_sg (M : Nat → Nat) (bn gn : Nat) : Nat → et_S → et_S
  | 0, S => S
  | j + 1, S => et_sb M bn gn j bn (et_sg M bn gn j S)
/-- what holds on the way, t pairs done -/
def et_I (M : Nat → Nat) (bn gn : Nat) (S : et_S) (t : Nat) : Prop := et_ch S.2.1 S.1 M bn gn S.2.2.1 t ∧ (∀ g, g < gn → 0 ≤ S.1 g ∧ S.1 g ≤ 50) ∧ (∀ b, b < bn → 0 ≤ S.2.1 b ∧ S.2.1 b ≤ 65) ∧ S.2.2.2.1 ≤ t
theorem et_put_tk {g b : Nat} {n : Int} {S : et_S} : et_tk S.2.1 S.1 (et_put g b n S).2.1 (et_put g b n S).1 g b n := by
  refine ⟨⟨fun j hj => ?_, ?_⟩, fun i hi => ?_, ?_⟩
  · show ef_u S.2.1 b (S.2.1 b - n) j = S.2.1 j
    unfold ef_u
    rw [if_neg hj]
  · show ef_u S.2.1 b (S.2.1 b - n) b = S.2.1 b - n
    unfold ef_u
    rw [if_pos rfl]
  · show ef_u S.1 g (S.1 g - n) i = S.1 i
    unfold ef_u
    rw [if_neg hi]
  · show ef_u S.1 g (S.1 g - n) g = S.1 g - n
    unfold ef_u
    rw [if_pos rfl]
theorem et_I_st {M : Nat → Nat} {bn gn g b : Nat} {S : et_S} (hM : ∀ g, M g < 2 ^ bn) (h8 : bn ≤ 8) (hg : g < gn) (hb : b < bn) (h : et_I M bn gn S (g * 8 + b)) : et_I M bn gn (et_st M bn gn g b S) (g * 8 + b + 1) := by
  have p8 := eq_pw h8
  have hM' : ∀ g, M g < 256 := fun g => Nat.lt_of_lt_of_le (hM g) p8
  obtain ⟨h1, h2, h3, h4⟩ := h
  have e1 : (g * 8 + b) / 8 = g := by omega
  have e2 : (g * 8 + b) % 8 = b := by omega
  by_cases q : Nat.testBit (M g) b = true
  · have es : et_st M bn gn g b S = et_put g b (et_n S.2.1 S.1 M bn gn S.2.2.1 g b) S := by
      unfold et_st
      rw [if_pos q]
    rw [es]
    have n0 := et_n_0 (M := M) (gn := gn) (bn := bn) (h2 g hg).1 (h3 b hb).1 h1.1
    have no := et_n_ok (Se := S.2.1) (p := S.1) (gn := gn) (L := S.2.2.1) (g := g) hM hb
    have nx := et_n_mx (Se := S.2.1) (p := S.1) (M := M) (bn := bn) (gn := gn) (L := S.2.2.1) (g := g) (b := b)
    refine ⟨et_ch_st hM' (fun g hg => (h2 g hg).1) hg (by omega) hb q n0 et_put_tk no nx h1, fun i hi => ?_, fun j hj => ?_, ?_⟩
    · show 0 ≤ ef_u S.1 g _ i ∧ ef_u S.1 g _ i ≤ 50
      unfold ef_u
      by_cases c : i = g
      · rw [if_pos c]
        have := h2 g hg
        have := no.1
        omega
      · rw [if_neg c]
        exact h2 i hi
    · show 0 ≤ ef_u S.2.1 b _ j ∧ ef_u S.2.1 b _ j ≤ 65
      unfold ef_u
      by_cases c : j = b
      · rw [if_pos c]
        have := h3 b hb
        have := no.2.1
        omega
      · rw [if_neg c]
        exact h3 j hj
    · show (if 0 < et_n S.2.1 S.1 M bn gn S.2.2.1 g b then S.2.2.2.1 + 1 else S.2.2.2.1) ≤ g * 8 + b + 1
      split <;> omega
  · have es : et_st M bn gn g b S = S := by
      unfold et_st
      rw [if_neg q]
    rw [es]
    exact ⟨et_ch_no (by rw [e1, e2]; exact et_bf q) h1, h2, h3, by omega⟩
theorem et_I_up {M : Nat → Nat} {bn gn g : Nat} {S : et_S} (hM : ∀ g, M g < 2 ^ bn) (h8 : bn ≤ 8) (h : et_I M bn gn S (g * 8 + bn)) : et_I M bn gn S ((g + 1) * 8) := by
  obtain ⟨h1, h2, h3, h4⟩ := h
  refine ⟨et_ch_up h1 (by omega) (fun i i1 i2 => ?_), h2, h3, by omega⟩
  have e1 : i / 8 = g := by omega
  rw [e1]
  have p2 : 2 ^ bn ≤ 2 ^ (i % 8) := Nat.pow_le_pow_right (by decide) (by omega)
  exact Nat.testBit_lt_two_pow (Nat.lt_of_lt_of_le (hM g) p2)
theorem et_I_sb {M : Nat → Nat} {bn gn g : Nat} {S : et_S} (hM : ∀ g, M g < 2 ^ bn) (h8 : bn ≤ 8) (hg : g < gn) (h : et_I M bn gn S (g * 8)) : ∀ j, j ≤ bn → et_I M bn gn (et_sb M bn gn g j S) (g * 8 + j)
  | 0, _ => h
  | j + 1, hj => et_I_st hM h8 hg (by omega) (et_I_sb hM h8 hg h j (by omega))
theorem et_I_sg {M : Nat → Nat} {bn gn : Nat} {S : et_S} (hM : ∀ g, M g < 2 ^ bn) (h8 : bn ≤ 8) (h : et_I M bn gn S 0) : ∀ j, j ≤ gn → et_I M bn gn (et_sg M bn gn j S) (j * 8)
  | 0, _ => h
  | j + 1, hj => et_I_up hM h8 (et_I_sb hM h8 (by omega) (et_I_sg hM h8 h j (by omega)) bn (Nat.le_refl _))
/-! the class -/
section ET5
variable {gn bn : Nat} {M : Nat → Nat}
def et_A (M : Nat → Nat) (bn gn : Nat) (S : et_S) (w : px_W) : Prop := (ec_fd w 126 5 = (gn : Int) ∧ ec_fd w 126 6 = (bn : Int) ∧ ec_fd w 126 0 = (S.2.2.2.1 : Int)) ∧ (∀ g, g < gn → ef_a w 128 g = (M g : Int)) ∧ (∀ g, g < gn → ef_a w 130 g = S.1 g) ∧ (∀ b, b < bn → ef_a w 131 b = S.2.1 b) ∧ (∀ x, x < 2 ^ bn → ef_a w 135 x = et_c S.2.1 S.1 M bn gn x) ∧ ∀ i, i < 3 * S.2.2.2.1 → ef_a w 127 i = S.2.2.2.2 i
theorem ew_mop {n g b t : Nat} {S : et_S} {w : px_W} {r : Option Value × px_W} (hM : ∀ g, M g < 2 ^ bn) (h8 : bn ≤ 8) (h10 : gn ≤ 10) (hg : g < gn) (hb : b < bn) (hI : et_I M bn gn S t) (hA : et_A M bn gn S w) (h : ec_E hb_X n 102 0 [(0, .inr (.inl 190)), (1, .inl (g : Int)), (2, .inl (b : Int)), (3, .inl S.2.2.1)] [] w r) : r = (ec_R (et_n S.2.1 S.1 M bn gn S.2.2.1 g b), w) ∧ ec_W hb_A w := by
  obtain ⟨⟨hc1, hc2⟩, h2, h3, h4⟩ := hI
  obtain ⟨⟨f5, f6, f0⟩, a128, a130, a131, a135, a127⟩ := hA
  have hp8 := eq_pw h8
  have eg : ec_tw (g : Int) = g := ec_twn (by omega)
  have eb : ec_tw (b : Int) = b := ec_twn (by omega)
  have t0 : ec_tw 0 = 0 := rfl
  have t1 : ec_tw 1 = 1 := rfl
  have cin : ∀ x, 0 ≤ et_c S.2.1 S.1 M bn gn x ∧ et_c S.2.1 S.1 M bn gn x ≤ 1020 := fun x => et_c_in h8 h10 h3 h2
  have Lin : 0 ≤ S.2.2.1 ∧ S.2.2.1 ≤ 1020 := by
    obtain ⟨x, hx⟩ := hc1.2
    rw [← hx]
    exact cin x
  have nin : ∀ k, -2000 ≤ et_nn S.2.1 S.1 M bn gn S.2.2.1 g b k ∧ et_nn S.2.1 S.1 M bn gn S.2.2.1 g b k ≤ 50 := by
    intro k
    have q1 := (et_nn_le (Se := S.2.1) (p := S.1) (M := M) (bn := bn) (gn := gn) (L := S.2.2.1) (g := g) (b := b) k).1
    have q2 := h2 g hg
    have q3 := h3 b hb
    rcases et_nn_at (Se := S.2.1) (p := S.1) (M := M) (bn := bn) (gn := gn) (L := S.2.2.1) (g := g) (b := b) k with (q | q) | ⟨x, _, _, _, q⟩
    · omega
    · omega
    · have := cin x
      omega
  have lp : ∀ (k n x : Nat), x + k = 2 ^ bn → ec_E hb_X n 102 20 [(0, .inr (.inl 190)), (1, .inl (g : Int)), (2, .inl (b : Int)), (3, .inl S.2.2.1), (4, .inl (et_nn S.2.1 S.1 M bn gn S.2.2.1 g b x)), (5, .inl (x : Int))] [] w r → r = (ec_R (et_n S.2.1 S.1 M bn gn S.2.2.1 g b), w) ∧ ec_W hb_A w := by
    intro k
    induction k with
    | zero =>
      intro n x hx h
      have ex : x = 2 ^ bn := by omega
      subst ex
      have k0 := eg102_126_20_0 h
      rw [f6, ec_shl1 bn (by omega)] at k0
      exact (k0 (Int.le_refl _)).2
    | succ k ih =>
      intro n x hx h
      have ex : ec_tw (x : Int) = x := ec_twn (by omega)
      have j1 := eg102_126_20_1 h
      have j2 := eg102_126_20_2 h
      have j3 := eg102_126_20_3 h
      have Mg : M g < 256 := Nat.lt_of_lt_of_le (hM g) hp8
      rw [f6, ec_shl1 bn (by omega), ex, ec_twn (n := 2 ^ bn) (by omega), ec_bitT (by omega) (by omega), t1] at j1 j2 j3
      rw [eg, ef_rd, a128 g hg, t0] at j2 j3
      rw [ef_rd, a135 x (by omega)] at j3
      have e : et_nn S.2.1 S.1 M bn gn S.2.2.1 g b (x + 1) = if Nat.testBit x b = true ∧ eq_in (M g) x = false then min (et_nn S.2.1 S.1 M bn gn S.2.2.1 g b x) (et_c S.2.1 S.1 M bn gn x - S.2.2.1) else et_nn S.2.1 S.1 M bn gn S.2.2.1 g b x := rfl
      have fin : ec_E hb_X n 102 71 [(0, .inr (.inl 190)), (1, .inl (g : Int)), (2, .inl (b : Int)), (3, .inl S.2.2.1), (4, .inl (et_nn S.2.1 S.1 M bn gn S.2.2.1 g b (x + 1))), (5, .inl (x : Int))] [] w r → r = (ec_R (et_n S.2.1 S.1 M bn gn S.2.2.1 g b), w) ∧ ec_W hb_A w := fun hh => ih n (x + 1) (by omega) (eg102_126_71_0 hh).2
      by_cases q1 : Nat.testBit x b = true
      · by_cases q2 : eq_in (M g) x = true
        · have h3' := (j2 (by omega) (by rw [if_pos q1]) ((ec_andnotT (by omega)).mpr q2)).2
          rw [if_neg (fun z => by rw [q2] at z; exact Bool.noConfusion z.2)] at e
          rw [← e] at h3'
          exact fin h3'
        · have h3' := (j3 (by omega) (by rw [if_pos q1]) (fun z => q2 ((ec_andnotT (by omega)).mp z))).2
          have c1 := cin x
          have c2 := nin x
          rw [ec_mn_min ⟨by omega, by omega⟩ ⟨by omega, by omega⟩] at h3'
          rw [if_pos ⟨q1, et_bf q2⟩] at e
          rw [← e] at h3'
          exact fin h3'
      · have h3' := (j1 (by omega) (by rw [if_neg q1]; decide)).2
        rw [if_neg (fun z => q1 z.1)] at e
        rw [← e] at h3'
        exact fin h3'
  have k0 := (eg102_126_0_0 h).2
  have q2 := h2 g hg
  have q3 := h3 b hb
  rw [eg, eb, ef_rd, ef_rd, a130 g hg, a131 b hb, ec_mn_min ⟨by omega, by omega⟩ ⟨by omega, by omega⟩] at k0
  exact lp (2 ^ bn) n 0 (by omega) k0
def et_SA : List Nat := [126, 127, 130, 131, 135]
/-- some of a pair are had -/
theorem ew_tkp {n g b t : Nat} {z : Int} {S : et_S} {w : px_W} {r : Option Value × px_W} (hM : ∀ g, M g < 2 ^ bn) (h8 : bn ≤ 8) (h10 : gn ≤ 10) (hg : g < gn) (hb : b < bn) (hI : et_I M bn gn S t) (ht : t < 80) (hz0 : 0 ≤ z) (hz1 : z ≤ S.1 g) (hz2 : z ≤ S.2.1 b) (hA : et_A M bn gn S w) (h : ec_E hb_X n 103 0 [(0, .inr (.inl 190)), (1, .inl (g : Int)), (2, .inl (b : Int)), (3, .inl z)] [] w r) : ∃ w' : px_W, r = (none, w') ∧ ec_W hb_A w' ∧ ef_s et_SA w w' ∧ (∀ f, f ≠ 0 → ec_fd w' 126 f = ec_fd w 126 f) ∧ et_A M bn gn (et_put g b z S) w' := by
  obtain ⟨⟨hc1, hc2⟩, h2, h3, h4⟩ := hI
  have hA0 := hA
  obtain ⟨⟨f5, f6, f0⟩, a128, a130, a131, a135, a127⟩ := hA
  have hp8 := eq_pw h8
  have eg : ec_tw (g : Int) = g := ec_twn (by omega)
  have eb : ec_tw (b : Int) = b := ec_twn (by omega)
  have t0 : ec_tw 0 = 0 := rfl
  have t1 : ec_tw 1 = 1 := rfl
  have Mg : M g < 256 := Nat.lt_of_lt_of_le (hM g) hp8
  have cin : ∀ x, 0 ≤ et_c S.2.1 S.1 M bn gn x ∧ et_c S.2.1 S.1 M bn gn x ≤ 1020 := fun x => et_c_in h8 h10 h3 h2
  have q2 := h2 g hg
  have q3 := h3 b hb
  have tz : ec_tw z = z := ec_tw_id (by omega) (by omega)
  have tk := et_put_tk (g := g) (b := b) (n := z) (S := S)
  by_cases c0 : z ≤ 0
  · have z0 : z = 0 := by omega
    have j := eg103_126_0_1 h
    rw [tz, t0] at j
    obtain ⟨_, hr, hW⟩ := j c0
    refine ⟨w, hr, hW, ef_s_refl, fun _ _ => rfl, ⟨f5, f6, ?_⟩, a128, fun i hi => ?_, fun j hj => ?_, fun x hx => ?_, ?_⟩
    · show ec_fd w 126 0 = ((if 0 < z then S.2.2.2.1 + 1 else S.2.2.2.1 : Nat) : Int)
      rw [if_neg (by omega)]
      exact f0
    · show ef_a w 130 i = ef_u S.1 g (S.1 g - z) i
      rw [a130 i hi]
      unfold ef_u
      split
      · rename_i e
        rw [e]
        omega
      · rfl
    · show ef_a w 131 j = ef_u S.2.1 b (S.2.1 b - z) j
      rw [a131 j hj]
      unfold ef_u
      split
      · rename_i e
        rw [e]
        omega
      · rfl
    · rw [a135 x hx, et_tk_c tk hg hb, z0]
      split <;> split <;> omega
    · show ∀ i, i < 3 * (if 0 < z then S.2.2.2.1 + 1 else S.2.2.2.1) → ef_a w 127 i = (if 0 < z then et_row S.2.2.2.2 S.2.2.2.1 (g : Int) (b : Int) z else S.2.2.2.2) i
      rw [if_neg (by omega), if_neg (by omega)]
      exact a127
  · have j := eg103_126_0_0 h
    rw [tz, t0] at j
    have h5 := (j (by omega)).2
    rw [eg, eb, ef_rd, a130 g hg] at h5
    have W1 : ec_W hb_A (ec_wr w 130 (g : Int) (S.1 g - z)) := ec_W_wr h.1
    rw [ef_rd (ec_wr w 130 (g : Int) (S.1 g - z)) 131 b, ef_a_wr_o (by decide), a131 b hb] at h5
    have W2 : ec_W hb_A (ec_wr (ec_wr w 130 (g : Int) (S.1 g - z)) 131 (b : Int) (S.2.1 b - z)) := ec_W_wr W1
    have lp : ∀ (k n x : Nat) (y : px_W), x + k = 2 ^ bn → ec_W hb_A y → ef_s [135] (ec_wr (ec_wr w 130 (g : Int) (S.1 g - z)) 131 (b : Int) (S.2.1 b - z)) y → (∀ i, i < 2 ^ bn → ef_a y 135 i = if i < x then et_c (et_put g b z S).2.1 (et_put g b z S).1 M bn gn i else et_c S.2.1 S.1 M bn gn i) → ec_E hb_X n 103 28 [(0, .inr (.inl 190)), (1, .inl (g : Int)), (2, .inl (b : Int)), (3, .inl z), (4, .inl (x : Int))] [] y r → ∃ y' : px_W, ec_W hb_A y' ∧ ef_s [135] (ec_wr (ec_wr w 130 (g : Int) (S.1 g - z)) 131 (b : Int) (S.2.1 b - z)) y' ∧ (∀ i, i < 2 ^ bn → ef_a y' 135 i = et_c (et_put g b z S).2.1 (et_put g b z S).1 M bn gn i) ∧ ec_E hb_X n 103 99 [(0, .inr (.inl 190)), (1, .inl (g : Int)), (2, .inl (b : Int)), (3, .inl z), (4, .inl ((2 ^ bn : Nat) : Int))] [] y' r := by
      intro k
      induction k with
      | zero =>
        intro n x y hx hW hs hy h
        have ex : x = 2 ^ bn := by omega
        subst ex
        have k0 := eg103_126_28_0 h
        have g6 : ec_fd y 126 6 = (bn : Int) := by
          rw [ef_s_f hs (by decide), ec_fd_wr_o (by decide), ec_fd_wr_o (by decide)]
          exact f6
        rw [g6, ec_shl1 bn (by omega)] at k0
        exact ⟨y, hW, hs, fun i hi => by rw [hy i hi, if_pos hi], (k0 (Int.le_refl _)).2⟩
      | succ k ih =>
        intro n x y hx hW hs hy h
        have ex : ec_tw (x : Int) = x := ec_twn (by omega)
        have g6 : ec_fd y 126 6 = (bn : Int) := by
          rw [ef_s_f hs (by decide), ec_fd_wr_o (by decide), ec_fd_wr_o (by decide)]
          exact f6
        have g128 : ef_a y 128 g = (M g : Int) := by
          rw [ef_s_a hs (by decide), ef_a_wr_o (by decide), ef_a_wr_o (by decide)]
          exact a128 g hg
        have yx := hy x (by omega)
        rw [if_neg (by omega)] at yx
        have cx := cin x
        have step : ∀ s : Int, s = (if Nat.testBit x b = true then z else 0) → ec_E hb_X n 103 62 [(0, .inr (.inl 190)), (1, .inl (g : Int)), (2, .inl (b : Int)), (3, .inl z), (4, .inl (x : Int))] [.inl s, .inl (et_c S.2.1 S.1 M bn gn x), .inl (x : Int), .inr (.inl 199)] y r → ∃ y' : px_W, ec_W hb_A y' ∧ ef_s [135] (ec_wr (ec_wr w 130 (g : Int) (S.1 g - z)) 131 (b : Int) (S.2.1 b - z)) y' ∧ (∀ i, i < 2 ^ bn → ef_a y' 135 i = et_c (et_put g b z S).2.1 (et_put g b z S).1 M bn gn i) ∧ ec_E hb_X n 103 99 [(0, .inr (.inl 190)), (1, .inl (g : Int)), (2, .inl (b : Int)), (3, .inl z), (4, .inl ((2 ^ bn : Nat) : Int))] [] y' r := by
          intro s hs' h62
          have sin : 0 ≤ s ∧ s ≤ 50 := by
            rw [hs']
            split <;> omega
          have W3 : ec_W hb_A (ec_wr y 135 (x : Int) (et_c S.2.1 S.1 M bn gn x - s)) := ec_W_wr hW
          have l0 := eg103_126_62_0 h62
          have l1 := eg103_126_62_1 h62
          have u0 : ef_a (ec_wr y 135 (x : Int) (et_c S.2.1 S.1 M bn gn x - s)) 128 g = (M g : Int) := by
            rw [ef_a_wr_o (by decide)]
            exact g128
          have u1 : ef_a (ec_wr y 135 (x : Int) (et_c S.2.1 S.1 M bn gn x - s)) 135 x = et_c S.2.1 S.1 M bn gn x - s := by
            rw [ef_a_wr (n := 256) hW rfl (by omega) (by omega), ec_tw_id (by omega) (by omega)]
            unfold ef_u
            rw [Int.toNat_natCast, if_pos rfl]
          rw [ex, eg, ef_rd (ec_wr y 135 (x : Int) (et_c S.2.1 S.1 M bn gn x - s)) 128 g, u0, t0, ef_rd (ec_wr y 135 (x : Int) (et_c S.2.1 S.1 M bn gn x - s)) 135 x, u1] at l0 l1
          have fin : ∀ s2 : Int, s2 = (if eq_in (M g) x = true then 0 else z) → ec_E hb_X n 103 91 [(0, .inr (.inl 190)), (1, .inl (g : Int)), (2, .inl (b : Int)), (3, .inl z), (4, .inl (x : Int))] [.inl s2, .inl (et_c S.2.1 S.1 M bn gn x - s), .inl (x : Int), .inr (.inl 199)] (ec_wr y 135 (x : Int) (et_c S.2.1 S.1 M bn gn x - s)) r → ∃ y' : px_W, ec_W hb_A y' ∧ ef_s [135] (ec_wr (ec_wr w 130 (g : Int) (S.1 g - z)) 131 (b : Int) (S.2.1 b - z)) y' ∧ (∀ i, i < 2 ^ bn → ef_a y' 135 i = et_c (et_put g b z S).2.1 (et_put g b z S).1 M bn gn i) ∧ ec_E hb_X n 103 99 [(0, .inr (.inl 190)), (1, .inl (g : Int)), (2, .inl (b : Int)), (3, .inl z), (4, .inl ((2 ^ bn : Nat) : Int))] [] y' r := by
            intro s2 hs2 h91
            have s2in : 0 ≤ s2 ∧ s2 ≤ 50 := by
              rw [hs2]
              split <;> omega
            have h28 := (eg103_126_91_0 h91).2
            rw [ex] at h28
            refine ih n (x + 1) _ (by omega) (ec_W_wr W3) (ef_s_trans hs (ef_s_trans (ef_s_wr List.mem_cons_self) (ef_s_wr List.mem_cons_self))) (fun i hi => ?_) h28
            rw [ef_a_wr (n := 256) W3 rfl (by omega) (by omega), ec_tw_id (a := et_c S.2.1 S.1 M bn gn x - s - s2) (by omega) (by omega), ef_a_wr (n := 256) hW rfl (by omega) (by omega)]
            unfold ef_u
            rw [Int.toNat_natCast]
            by_cases q : i = x
            · rw [if_pos q, if_pos (by omega), q, et_tk_c tk hg hb, hs', hs2]
            · rw [if_neg q, if_neg q, hy i hi]
              by_cases q' : i < x
              · rw [if_pos q', if_pos (by omega)]
              · rw [if_neg q', if_neg (by omega)]
          by_cases q2' : eq_in (M g) x = true
          · exact fin 0 (by rw [if_pos q2']) (l0 ((ec_andnotT (by omega)).mpr q2')).2
          · exact fin z (by rw [if_neg q2']) (l1 (fun e => q2' ((ec_andnotT (by omega)).mp e))).2
        have j1 := eg103_126_28_1 h
        have j2 := eg103_126_28_2 h
        rw [g6, ec_shl1 bn (by omega), ex, ec_twn (n := 2 ^ bn) (by omega), ec_bitT (by omega) (by omega), t1, ef_rd, yx] at j1 j2
        by_cases q1 : Nat.testBit x b = true
        · exact step z (by rw [if_pos q1]) (j2 (by omega) (by rw [if_pos q1])).2
        · exact step 0 (by rw [if_neg q1]) (j1 (by omega) (by rw [if_neg q1]; decide)).2
    obtain ⟨y, Wy, sy, cy, h99⟩ := lp (2 ^ bn) n 0 _ (by omega) W2 ef_s_refl (fun i hi => by
      rw [if_neg (by omega), ef_a_wr_o (by decide), ef_a_wr_o (by decide)]
      exact a135 i hi) h5
    have y0 : ec_fd y 126 0 = (S.2.2.2.1 : Int) := by
      rw [ef_s_f sy (by decide), ec_fd_wr_o (by decide), ec_fd_wr_o (by decide)]
      exact f0
    have k80 : S.2.2.2.1 < 80 := by omega
    obtain ⟨_, hr, hW⟩ := eg103_126_99_0 h99
    have i0 : ec_tw ((S.2.2.2.1 : Int) * 3) = ((3 * S.2.2.2.1 : Nat) : Int) := by
      rw [ec_tw_id (by omega) (by omega)]
      omega
    have i1 : ec_tw ((S.2.2.2.1 : Int) * 3 + 1) = ((3 * S.2.2.2.1 + 1 : Nat) : Int) := by
      rw [ec_tw_id (by omega) (by omega)]
      omega
    have i2 : ec_tw ((S.2.2.2.1 : Int) * 3 + 2) = ((3 * S.2.2.2.1 + 2 : Nat) : Int) := by
      rw [ec_tw_id (by omega) (by omega)]
      omega
    have o1 : ∀ i x, ec_fd (ec_wr y 127 i x) 126 0 = (S.2.2.2.1 : Int) := fun i x => (ec_fd_wr_o (by decide)).trans y0
    have o2 : ∀ i x i' x', ec_fd (ec_wr (ec_wr y 127 i x) 127 i' x') 126 0 = (S.2.2.2.1 : Int) := fun i x i' x' => (ec_fd_wr_o (by decide)).trans (o1 i x)
    have o3 : ∀ i x i' x' i'' x'', ec_fd (ec_wr (ec_wr (ec_wr y 127 i x) 127 i' x') 127 i'' x'') 126 0 = (S.2.2.2.1 : Int) := fun i x i' x' i'' x'' => (ec_fd_wr_o (by decide)).trans (o2 i x i' x')
    rw [o3, o2, o1, y0, i0, i1, i2] at hr hW
    have V1 : ec_W hb_A (ec_wr y 127 ((3 * S.2.2.2.1 : Nat) : Int) (g : Int)) := ec_W_wr Wy
    have V2 : ec_W hb_A (ec_wr (ec_wr y 127 ((3 * S.2.2.2.1 : Nat) : Int) (g : Int)) 127 ((3 * S.2.2.2.1 + 1 : Nat) : Int) (b : Int)) := ec_W_wr V1
    have V3 : ec_W hb_A (ec_wr (ec_wr (ec_wr y 127 ((3 * S.2.2.2.1 : Nat) : Int) (g : Int)) 127 ((3 * S.2.2.2.1 + 1 : Nat) : Int) (b : Int)) 127 ((3 * S.2.2.2.1 + 2 : Nat) : Int) z) := ec_W_wr V2
    have sy2 : ef_s [126, 127] y (ec_pf (ec_wr (ec_wr (ec_wr y 127 ((3 * S.2.2.2.1 : Nat) : Int) (g : Int)) 127 ((3 * S.2.2.2.1 + 1 : Nat) : Int) (b : Int)) 127 ((3 * S.2.2.2.1 + 2 : Nat) : Int) z) 126 0 ((S.2.2.2.1 : Int) + 1)) := ef_s_trans (ef_s_trans (ef_s_trans (ef_s_wr (by decide)) (ef_s_wr (by decide))) (ef_s_wr (by decide))) (ef_s_pf (by decide))
    have sw : ef_s [130, 131, 135] w y := ef_s_trans (ef_s_trans (ef_s_wr (by decide)) (ef_s_wr (by decide))) (ef_s_mono sy (by decide))
    have ff : ∀ f, ec_fd (ec_pf (ec_wr (ec_wr (ec_wr y 127 ((3 * S.2.2.2.1 : Nat) : Int) (g : Int)) 127 ((3 * S.2.2.2.1 + 1 : Nat) : Int) (b : Int)) 127 ((3 * S.2.2.2.1 + 2 : Nat) : Int) z) 126 0 ((S.2.2.2.1 : Int) + 1)) 126 f = if f = 0 then (S.2.2.2.1 : Int) + 1 else ec_fd w 126 f := by
      intro f
      rw [ec_fd_pf (k := 126) (f := 0) V3 rfl (by decide), ec_tw_id (a := (S.2.2.2.1 : Int) + 1) (by omega) (by omega), ec_fd_wr_o (by decide), ec_fd_wr_o (by decide), ec_fd_wr_o (by decide), ef_s_f sw (by decide)]
    refine ⟨_, hr, hW, ef_s_trans (ef_s_mono sw (by decide)) (ef_s_mono sy2 (by decide)), fun f hf => by rw [ff f, if_neg hf], ⟨?_, ?_, ?_⟩, fun i hi => ?_, fun i hi => ?_, fun j hj => ?_, fun x hx => ?_, fun i hi => ?_⟩
    · rw [ff 5, if_neg (by decide)]
      exact f5
    · rw [ff 6, if_neg (by decide)]
      exact f6
    · rw [ff 0, if_pos rfl]
      show (S.2.2.2.1 : Int) + 1 = ((if 0 < z then S.2.2.2.1 + 1 else S.2.2.2.1 : Nat) : Int)
      rw [if_pos (by omega)]
      rfl
    · rw [ef_s_a sy2 (by decide), ef_s_a sw (by decide)]
      exact a128 i hi
    · rw [ef_s_a sy2 (by decide), ef_s_a sy (by decide), ef_a_wr_o (by decide), ef_a_wr (n := 10) h.1 rfl (by omega) (by omega), ec_tw_id (a := S.1 g - z) (by omega) (by omega)]
      show ef_u (ef_a w 130) (g : Int).toNat (S.1 g - z) i = ef_u S.1 g (S.1 g - z) i
      unfold ef_u
      rw [Int.toNat_natCast]
      split
      · rfl
      · exact a130 i hi
    · rw [ef_s_a sy2 (by decide), ef_s_a sy (by decide), ef_a_wr (n := 8) W1 rfl (by omega) (by omega), ec_tw_id (a := S.2.1 b - z) (by omega) (by omega), ef_a_wr_o (by decide)]
      show ef_u (ef_a w 131) (b : Int).toNat (S.2.1 b - z) j = ef_u S.2.1 b (S.2.1 b - z) j
      unfold ef_u
      rw [Int.toNat_natCast]
      split
      · rfl
      · exact a131 j hj
    · rw [ef_s_a sy2 (by decide)]
      exact cy x hx
    · have hi' : i < 3 * (if 0 < z then S.2.2.2.1 + 1 else S.2.2.2.1) := hi
      rw [if_pos (by omega)] at hi'
      show _ = (if 0 < z then et_row S.2.2.2.2 S.2.2.2.1 (g : Int) (b : Int) z else S.2.2.2.2) i
      rw [if_pos (by omega), ef_s_a (ef_s_pf (S := [126]) List.mem_cons_self) (by decide), ef_a_wr (n := 240) V2 rfl (by omega) (by omega), ef_a_wr (n := 240) V1 rfl (by omega) (by omega), ef_a_wr (n := 240) Wy rfl (by omega) (by omega), tz, eg, eb]
      unfold ef_u et_row
      rw [Int.toNat_natCast, Int.toNat_natCast, Int.toNat_natCast]
      by_cases p0 : i = 3 * S.2.2.2.1
      · rw [if_neg (by omega), if_neg (by omega), if_pos p0, if_pos p0]
      · by_cases p1 : i = 3 * S.2.2.2.1 + 1
        · rw [if_neg (by omega), if_pos p1, if_neg p0, if_pos p1]
        · by_cases p2 : i = 3 * S.2.2.2.1 + 2
          · rw [if_pos p2, if_neg p0, if_neg p1, if_pos p2]
          · rw [if_neg p2, if_neg p1, if_neg p0, if_neg p0, if_neg p1, if_neg p2, ef_s_a sw (by decide)]
            exact a127 i (by omega)
theorem ew_sa22 {g : Nat} {S0 : et_S} (hM : ∀ g, M g < 2 ^ bn) (h8 : bn ≤ 8) (h10 : gn ≤ 10) (hg : g < gn) (hI : et_I M bn gn S0 (g * 8)) : ∀ (k n b : Nat) (w : px_W) (r : Option Value × px_W), b + k = bn → ec_W hb_A w → et_A M bn gn (et_sb M bn gn g b S0) w → ec_E hb_X n 101 22 [(0, .inr (.inl 190)), (1, .inl (et_sb M bn gn g b S0).2.2.1), (2, .inl (g : Int)), (3, .inl (b : Int))] [] w r → ∃ w' : px_W, ec_W hb_A w' ∧ ef_s et_SA w w' ∧ (∀ f, f ≠ 0 → ec_fd w' 126 f = ec_fd w 126 f) ∧ et_A M bn gn (et_sb M bn gn g bn S0) w' ∧ ec_E hb_X n 101 12 [(0, .inr (.inl 190)), (1, .inl (et_sb M bn gn g bn S0).2.2.1), (2, .inl ((g : Int) + 1))] [] w' r := by
  intro k
  induction k with
  | zero =>
    intro n b w r hb hW hA h
    have eb : b = bn := by omega
    rw [eb] at hA h
    have k0 := eg101_126_22_0 h
    rw [hA.1.2.1] at k0
    exact ⟨w, hW, ef_s_refl, fun _ _ => rfl, hA, (k0 (Int.le_refl _)).2⟩
  | succ k ih =>
    intro n b w r hb hW hA h
    have hIb := et_I_sb hM h8 hg hI b (by omega)
    have p8 := eq_pw h8
    have Mg : M g < 256 := Nat.lt_of_lt_of_le (hM g) p8
    have eg : ec_tw (g : Int) = g := ec_twn (by omega)
    have eb : ec_tw (b : Int) = b := ec_twn (by omega)
    have t1 : ec_tw 1 = 1 := rfl
    have j1 := eg101_126_22_1 h
    have j2 := eg101_126_22_2 h
    rw [eb, hA.1.2.1, ec_twn (n := bn) (by omega), eg, ef_rd, hA.2.1 g hg, ec_bitT (by omega) (by omega), t1] at j1 j2
    have es : et_sb M bn gn g (b + 1) S0 = et_st M bn gn g b (et_sb M bn gn g b S0) := rfl
    by_cases q : Nat.testBit (M g) b = true
    · obtain ⟨_, v1, w1, a1, a2⟩ := j2 (by omega) (by rw [if_pos q])
      obtain ⟨e1, W1⟩ := ew_mop hM h8 h10 hg (by omega) hIb hA a1
      injection e1 with e1 i1
      have i1 := i1.symm
      subst i1
      obtain ⟨_, v2, w2, a3, a4⟩ := eg101_126_51_0 (a2 _ e1 W1)
      have no := et_n_ok (Se := (et_sb M bn gn g b S0).2.1) (p := (et_sb M bn gn g b S0).1) (gn := gn) (L := (et_sb M bn gn g b S0).2.2.1) (g := g) hM (by omega : b < bn)
      have n0 := et_n_0 (M := M) (gn := gn) (bn := bn) (hIb.2.1 g hg).1 (hIb.2.2.1 b (by omega)).1 hIb.1.1
      obtain ⟨w2', e2, W2, s2, f2, A2⟩ := ew_tkp hM h8 h10 hg (by omega) hIb (by omega) n0 no.1 no.2.1 hA a3
      injection e2 with e2 i2
      subst i2
      have h3 := (eg101_126_66b_0 (a4 e2 W2)).2
      have e3 : et_put g b (et_n (et_sb M bn gn g b S0).2.1 (et_sb M bn gn g b S0).1 M bn gn (et_sb M bn gn g b S0).2.2.1 g b) (et_sb M bn gn g b S0) = et_sb M bn gn g (b + 1) S0 := by
        rw [es]
        unfold et_st
        rw [if_pos q]
      have e4 : (et_sb M bn gn g b S0).2.2.1 - et_n (et_sb M bn gn g b S0).2.1 (et_sb M bn gn g b S0).1 M bn gn (et_sb M bn gn g b S0).2.2.1 g b = (et_sb M bn gn g (b + 1) S0).2.2.1 := by
        rw [← e3]
        rfl
      rw [e3] at A2
      rw [e4] at h3
      obtain ⟨w', W', s', f', A', h'⟩ := ih n (b + 1) w2 r (by omega) W2 A2 h3
      exact ⟨w', W', ef_s_trans s2 s', fun f hf => (f' f hf).trans (f2 f hf), A', h'⟩
    · have h3 := (eg101_126_66_0 (j1 (by omega) (by rw [if_neg q]; decide)).2).2
      have e3 : et_sb M bn gn g b S0 = et_sb M bn gn g (b + 1) S0 := by
        rw [es]
        unfold et_st
        rw [if_neg q]
      rw [e3] at hA h3
      exact ih n (b + 1) w r (by omega) hW hA h3
theorem ew_sa12 {S0 : et_S} (hM : ∀ g, M g < 2 ^ bn) (h8 : bn ≤ 8) (h10 : gn ≤ 10) (hI : et_I M bn gn S0 0) : ∀ (k n g : Nat) (w : px_W) (r : Option Value × px_W), g + k = gn → ec_W hb_A w → et_A M bn gn (et_sg M bn gn g S0) w → ec_E hb_X n 101 12 [(0, .inr (.inl 190)), (1, .inl (et_sg M bn gn g S0).2.2.1), (2, .inl (g : Int))] [] w r → ∃ w' : px_W, r = (ec_R ((et_sg M bn gn gn S0).2.2.2.1 : Int), w') ∧ ec_W hb_A w' ∧ ef_s et_SA w w' ∧ (∀ f, f ≠ 0 → ec_fd w' 126 f = ec_fd w 126 f) ∧ et_A M bn gn (et_sg M bn gn gn S0) w' := by
  intro k
  induction k with
  | zero =>
    intro n g w r hg hW hA h
    have e : g = gn := by omega
    rw [e] at hA h
    have k0 := eg101_126_12_0 h
    rw [hA.1.1, hA.1.2.2] at k0
    obtain ⟨_, hr, _⟩ := k0 (Int.le_refl _)
    exact ⟨w, hr, hW, ef_s_refl, fun _ _ => rfl, hA⟩
  | succ k ih =>
    intro n g w r hg hW hA h
    have eg : ec_tw (g : Int) = g := ec_twn (by omega)
    have k1 := eg101_126_12_1 h
    rw [eg, hA.1.1, ec_twn (n := gn) (by omega)] at k1
    have h2 := (k1 (by omega)).2
    obtain ⟨w1, W1, s1, f1, A1, h3⟩ := ew_sa22 (S0 := et_sg M bn gn g S0) hM h8 h10 (by omega) (et_I_sg hM h8 hI g (by omega)) bn n 0 w r (by omega) hW hA h2
    obtain ⟨w', hr, W', s', f', A'⟩ := ih n (g + 1) w1 r (by omega) W1 A1 h3
    exact ⟨w', hr, W', ef_s_trans s1 s', fun f hf => (f' f hf).trans (f1 f hf), A'⟩
end ET5

end

noncomputable section
/-! MOST: what the class's mostSeated and the reference's mostOf find -/
section EW5
variable {gn bn : Nat} {M : Nat → Nat} {p Se : Nat → Int}
theorem ew_ms36 {c : Nat → Bool} {x : Nat} (hgn : gn ≤ 10) (hx : x < 256) (hc : ∀ g, g < gn → c g = !(eq_in (M g) x)) : ∀ (k n g : Nat) (x1 s : Int) (w : px_W) (r : Option Value × px_W), ec_fd w 126 5 = (gn : Int) → (∀ g, g < gn → ef_a w 128 g = (M g : Int) ∧ M g < 256) → (∀ g, g < gn → ef_a w 130 g = p g) → g + k = gn → ec_E hb_X n 100 36 [(0, .inr (.inl 190)), (1, .inl x1), (2, .inl (x : Int)), (3, .inl (s + eq_sm p c g)), (4, .inl (g : Int))] [] w r → ec_E hb_X n 100 16 [(0, .inr (.inl 190)), (1, .inl (ec_mn x1 (s + eq_sm p c gn))), (2, .inl ((x : Int) + 1))] [] (ec_wr w 135 (x : Int) (s + eq_sm p c gn)) r := by
  intro k
  induction k with
  | zero =>
    intro n g x1 s w r h5 hM hp hgk h
    have hg : g = gn := by omega
    subst hg
    have k0 := eg100_126_36_0 h
    rw [h5, ec_twn (n := x) (by omega)] at k0
    exact (k0 (Int.le_refl _)).2
  | succ k ih =>
    intro n g x1 s w r h5 hM hp hgk h
    have eg : ec_tw (g : Int) = g := ec_twn (by omega)
    have tg : ec_tw (gn : Int) = gn := ec_twn (by omega)
    have t0 : ec_tw 0 = 0 := rfl
    obtain ⟨m1, m2⟩ := hM g (by omega)
    have q1 := hc g (by omega)
    have j1 := eg100_126_36_1 h
    have j2 := eg100_126_36_2 h
    rw [eg, h5, tg, ef_rd, m1, t0] at j1 j2
    rw [ef_rd, hp g (by omega)] at j2
    have e0 : eq_sm p c (g + 1) = eq_sm p c g + (if c g = true then p g else 0) := rfl
    by_cases q : eq_in (M g) x = true
    · have h2 := (j1 (by omega) ((ec_andnotT (by omega)).mpr q)).2
      have e : eq_sm p c (g + 1) = eq_sm p c g := by
        rw [e0, q1, q, if_neg (by decide), Int.add_zero]
      rw [← e] at h2
      exact ih n (g + 1) x1 s w r h5 hM hp (by omega) h2
    · have h2 := (j2 (by omega) (fun e => q ((ec_andnotT (by omega)).mp e))).2
      have e : s + eq_sm p c g + p g = s + eq_sm p c (g + 1) := by
        have qf : eq_in (M g) x = false := by
          cases t : eq_in (M g) x with
          | false => rfl
          | true => exact absurd t q
        rw [e0, q1, qf, if_pos (by decide)]
        omega
      rw [e] at h2
      exact ih n (g + 1) x1 s w r h5 hM hp (by omega) h2
/-- what mostSeated reads -/
def ew_MS (gn bn : Nat) (M : Nat → Nat) (p Se : Nat → Int) (w : px_W) : Prop := (gn ≤ 10 ∧ bn ≤ 8) ∧ ec_fd w 126 5 = (gn : Int) ∧ ec_fd w 126 6 = (bn : Int) ∧ (∀ g, g < gn → ef_a w 128 g = (M g : Int) ∧ M g < 2 ^ bn) ∧ (∀ g, g < gn → ef_a w 130 g = p g ∧ 0 ≤ p g ∧ p g ≤ 50) ∧ (∀ y, y < 2 ^ bn → ef_a w 134 y = ef_ss Se bn y) ∧ ∀ b, b < bn → 0 ≤ Se b ∧ Se b ≤ 65
theorem ew_MS_s {w w' : px_W} {S : List Nat} (h : ew_MS gn bn M p Se w) (hs : ef_s S w w') (hS : 126 ∉ S ∧ 128 ∉ S ∧ 130 ∉ S ∧ 134 ∉ S) : ew_MS gn bn M p Se w' := by
  obtain ⟨h1, h2, h3, h4, h5, h6, h7⟩ := h
  refine ⟨h1, (ef_s_f hs hS.1 5).trans h2, (ef_s_f hs hS.1 6).trans h3, ?_, ?_, ?_, h7⟩
  · rw [ef_s_a hs hS.2.1]
    exact h4
  · rw [ef_s_a hs hS.2.2.1]
    exact h5
  · rw [ef_s_a hs hS.2.2.2]
    exact h6
theorem ew_ms16 {a : Int} (ha : 0 ≤ a ∧ a ≤ 1020) : ∀ (k n x : Nat) (w : px_W) (r : Option Value × px_W), ew_MS gn bn M p Se w → x + k = 2 ^ bn → ec_E hb_X n 100 16 [(0, .inr (.inl 190)), (1, .inl (eq_mn (eq_C Se p M bn gn) a x)), (2, .inl (x : Int))] [] w r → ∃ w' : px_W, r = (ec_R (eq_mn (eq_C Se p M bn gn) a (2 ^ bn)), w') ∧ ec_W hb_A w' ∧ ef_s [135] w w' ∧ ∀ y, ef_a w' 135 y = if x ≤ y ∧ y < 2 ^ bn then eq_C Se p M bn gn y else ef_a w 135 y := by
  intro k
  induction k with
  | zero =>
    intro n x w r hm hxk h
    have hx : x = 2 ^ bn := by omega
    subst hx
    have k0 := eg100_126_16_0 h
    rw [hm.2.2.1, ec_shl1 bn (by have := hm.1.2; omega)] at k0
    obtain ⟨_, hr, hW⟩ := k0 (Int.le_refl _)
    exact ⟨w, hr, hW, ef_s_refl, fun y => by rw [if_neg (by omega)]⟩
  | succ k ih =>
    intro n x w r hm hxk h
    obtain ⟨⟨g10, b8⟩, m1, m2, m3, m4, m5, m6⟩ := hm
    have hp := eq_pw b8
    have ex : ec_tw (x : Int) = x := ec_twn (by omega)
    have k1 := eg100_126_16_1 h
    rw [m2, ec_shl1 bn (by omega), ex, ec_twn (n := 2 ^ bn) (by omega), ef_rd, m5 x (by omega)] at k1
    have h2 := (k1 (by omega)).2
    have e0 : ef_ss Se bn x = ef_ss Se bn x + eq_sm p (fun g => !(eq_in (M g) x)) 0 := (Int.add_zero _).symm
    rw [e0] at h2
    have h3 := ew_ms36 (M := M) (p := p) (c := fun g => !(eq_in (M g) x)) (x := x) g10 (by omega) (fun _ _ => rfl) gn n 0 _ (ef_ss Se bn x) w r m1 (fun g hg => ⟨(m3 g hg).1, Nat.lt_of_lt_of_le (m3 g hg).2 hp⟩) (fun g hg => (m4 g hg).1) (by omega) h2
    have eC : ef_ss Se bn x + eq_sm p (fun g => !(eq_in (M g) x)) gn = eq_C Se p M bn gn x := rfl
    have cin := eq_C_in (x := x) (M := M) b8 g10 m6 (fun g hg => (m4 g hg).2)
    have min1 : 0 ≤ eq_mn (eq_C Se p M bn gn) a x := eq_mn_ge x ha.1 (fun y _ => (eq_C_in b8 g10 m6 (fun g hg => (m4 g hg).2)).1)
    have min2 := (eq_mn_le (f := eq_C Se p M bn gn) (a := a) x).1
    rw [eC, ec_mn_min ⟨by omega, by omega⟩ ⟨by omega, by omega⟩] at h3
    obtain ⟨w', hr, hW, s2, f2⟩ := ih n (x + 1) _ r (ew_MS_s (S := [135]) ⟨⟨g10, b8⟩, m1, m2, m3, m4, m5, m6⟩ (ef_s_wr List.mem_cons_self) (by decide)) (by omega) h3
    refine ⟨w', hr, hW, ef_s_trans (ef_s_wr List.mem_cons_self) s2, fun y => ?_⟩
    rw [f2 y, ef_a_wr (n := 256) h.1 rfl (by omega) (by omega), ec_tw_id (by omega) (by omega)]
    unfold ef_u
    by_cases q1 : x + 1 ≤ y ∧ y < 2 ^ bn
    · rw [if_pos q1, if_pos (by omega)]
    · rw [if_neg q1]
      by_cases q2 : y = x
      · rw [if_pos (by omega), if_pos (by omega), q2]
      · rw [if_neg (by omega), if_neg (by omega)]
theorem ew_mostA {n : Nat} {w : px_W} {r : Option Value × px_W} (hm : ew_MS gn bn M p Se w) (h : ec_E hb_X n 100 0 [(0, .inr (.inl 190))] [] w r) : ∃ w' : px_W, r = (ec_R (eq_mn (eq_C Se p M bn gn) (ef_ss Se bn (2 ^ bn - 1)) (2 ^ bn)), w') ∧ ec_W hb_A w' ∧ ef_s [135] w w' ∧ ∀ y, y < 2 ^ bn → ef_a w' 135 y = eq_C Se p M bn gn y := by
  have hm0 := hm
  obtain ⟨⟨g10, b8⟩, m1, m2, m3, m4, m5, m6⟩ := hm
  have hp := eq_pw b8
  have hp0 := Nat.two_pow_pos bn
  have k1 := eg100_126_0_0 h
  have e1 : ec_tw (((2 ^ bn : Nat) : Int) - 1) = ((2 ^ bn - 1 : Nat) : Int) := by
    rw [ec_tw_id (by omega) (by omega)]
    omega
  rw [m2, ec_shl1 bn (by omega), e1, ef_rd, m5 _ (by omega)] at k1
  have sin := eq_ss_in (x := 2 ^ bn - 1) bn m6
  obtain ⟨w', hr, hW, s, f⟩ := ew_ms16 (M := M) (p := p) (a := ef_ss Se bn (2 ^ bn - 1)) ⟨sin.1, by omega⟩ (2 ^ bn) n 0 w r hm0 (by omega) k1.2
  exact ⟨w', hr, hW, s, fun y hy => by rw [f y, if_pos ⟨Nat.zero_le _, hy⟩]⟩
/-! the reference -/
theorem ew_mo25 {c : Nat → Bool} {s : Nat} (hgn : gn ≤ 10) (hb : bn ≤ 8) (hs : s < 1024) (hc : ∀ g, c g = !(Nat.testBit s g)) : ∀ (k n g : Nat) (x1 : Int) (w : px_W) (r : Option Value × px_W), ef_a w 152 4 = (gn : Int) → (∀ g, g < gn → ef_a w 161 g = (M g : Int) ∧ M g < 2 ^ bn) → (∀ g, g < gn → ef_a w 162 g = p g) → g + k = gn → ec_E hb_X n 217 25 [(0, .inr (.inl 215)), (1, .inl x1), (2, .inl (s : Int)), (3, .inl (eq_sm p c g)), (4, .inl (eq_un M s g : Int)), (5, .inl (g : Int))] [] w r → ec_E hb_X n 217 102 [(0, .inr (.inl 215)), (1, .inl x1), (2, .inl (s : Int)), (3, .inl (eq_sm p c gn)), (4, .inl (eq_un M s gn : Int)), (5, .inl 0)] [] w r := by
  intro k
  induction k with
  | zero =>
    intro n g x1 w r d4 hM hp hgk h
    have hg : g = gn := by omega
    subst hg
    have k0 := eg217_151_25_0 h
    have e4 : ec_tw 4 = ((4 : Nat) : Int) := rfl
    rw [e4, ef_rd, d4] at k0
    exact (k0 (Int.le_refl _)).2
  | succ k ih =>
    intro n g x1 w r d4 hM hp hgk h
    have hpw := eq_pw hb
    have eg : ec_tw (g : Int) = g := ec_twn (by omega)
    have tg : ec_tw (gn : Int) = gn := ec_twn (by omega)
    have e4 : ec_tw 4 = ((4 : Nat) : Int) := rfl
    have t0 : ec_tw 0 = 0 := rfl
    have t1 : ec_tw 1 = 1 := rfl
    obtain ⟨m1, m2⟩ := hM g (by omega)
    have ul := eq_un_lt (M := M) (s := s) (bn := bn) g (fun g' hg' => (hM g' (by omega)).2)
    have e0 : eq_sm p c (g + 1) = eq_sm p c g + (if c g = true then p g else 0) := rfl
    have u0 : eq_un M s (g + 1) = (eq_un M s g ||| (if Nat.testBit s g then M g else 0)) := rfl
    have j1 := eg217_151_25_1 h
    have j2 := eg217_151_25_2 h
    rw [eg, e4, ef_rd, d4, tg, ec_bitT (by omega) (by omega), t1] at j1 j2
    by_cases q : Nat.testBit s g = true
    · have h2 := (j2 (by omega) (by rw [if_pos q])).2
      have h3 := (eg217_151_51_1 h2 (by decide)).2
      have h4 := (eg217_151_70_1 h3 (by decide)).2
      rw [eg, ef_rd, m1] at h4
      have h5 := (eg217_151_90_0 h4).2
      have e : eq_sm p c g + 0 = eq_sm p c (g + 1) := by
        rw [e0, hc g, q, if_neg (by decide)]
      have u : ec_or (eq_un M s g : Int) (M g : Int) = (eq_un M s (g + 1) : Int) := by
        rw [ec_orN (by omega) (by omega), u0, if_pos q]
      rw [e, u] at h5
      exact ih n (g + 1) x1 w r d4 hM hp (by omega) h5
    · have h2 := (j1 (by omega) (by rw [if_neg q]; decide)).2
      have h3 := (eg217_151_51_0 h2 rfl).2
      rw [eg, ef_rd, hp g (by omega)] at h3
      have h4 := (eg217_151_70_0 h3 rfl).2
      have h5 := (eg217_151_90_0 h4).2
      have qf : Nat.testBit s g = false := by
        cases t : Nat.testBit s g with
        | false => rfl
        | true => exact absurd t q
      have e : eq_sm p c g + p g = eq_sm p c (g + 1) := by
        rw [e0, hc g, qf, if_pos (by decide)]
      have u : ec_or (eq_un M s g : Int) 0 = (eq_un M s (g + 1) : Int) := by
        rw [ec_or_0, ec_twn (by omega), u0, if_neg q, Nat.or_zero]
      rw [e, u] at h5
      exact ih n (g + 1) x1 w r d4 hM hp (by omega) h5
theorem ew_mo102 {U s : Nat} {S x1 : Int} (hb : bn ≤ 8) (hU : U < 2 ^ bn) (hS : ∀ b, b < bn → 0 ≤ Se b ∧ Se b ≤ 65) (hS0 : 0 ≤ S ∧ S ≤ 500) (hx : 0 ≤ x1 ∧ x1 ≤ 1000000) : ∀ (k n b : Nat) (w : px_W) (r : Option Value × px_W), ef_a w 152 5 = (bn : Int) → (∀ b, b < bn → ef_a w 163 b = Se b) → b + k = bn → ec_E hb_X n 217 102 [(0, .inr (.inl 215)), (1, .inl x1), (2, .inl (s : Int)), (3, .inl (S + ef_ss Se b U)), (4, .inl (U : Int)), (5, .inl (b : Int))] [] w r → ec_E hb_X n 217 5 [(0, .inr (.inl 215)), (1, .inl (min x1 (S + ef_ss Se bn U))), (2, .inl ((s : Int) + 1))] [] w r := by
  intro k
  induction k with
  | zero =>
    intro n b w r d5 hse hbk h
    have hbb : b = bn := by omega
    subst hbb
    have e5 : ec_tw 5 = ((5 : Nat) : Int) := rfl
    have sin := eq_ss_in (x := U) b hS
    have tx : ec_tw x1 = x1 := ec_tw_id (by omega) (by omega)
    have ts : ec_tw (S + ef_ss Se b U) = S + ef_ss Se b U := ec_tw_id (by omega) (by omega)
    have k0 := eg217_151_102_0 h
    have k1 := eg217_151_102_1 h
    rw [e5, ef_rd, d5, tx, ts] at k0 k1
    by_cases q : x1 ≤ S + ef_ss Se b U
    · have h2 := (eg217_151_154_0 (k0 (Int.le_refl _) q).2).2
      rw [Int.min_eq_left q]
      exact h2
    · have h2 := (eg217_151_154_0 (k1 (Int.le_refl _) (by omega)).2).2
      rw [Int.min_eq_right (by omega)]
      exact h2
  | succ k ih =>
    intro n b w r d5 hse hbk h
    have hpw := eq_pw hb
    have eb : ec_tw (b : Int) = b := ec_twn (by omega)
    have tb : ec_tw (bn : Int) = bn := ec_twn (by omega)
    have e5 : ec_tw 5 = ((5 : Nat) : Int) := rfl
    have t1 : ec_tw 1 = 1 := rfl
    have s0 : ef_ss Se (b + 1) U = ef_ss Se b U + (if Nat.testBit U b then Se b else 0) := rfl
    have k2 := eg217_151_102_2 h
    have k3 := eg217_151_102_3 h
    rw [eb, e5, ef_rd, d5, tb, ec_bitT (by omega) (by omega), t1] at k2 k3
    by_cases q : Nat.testBit U b = true
    · have h2 := (k3 (by omega) (by rw [if_pos q])).2
      rw [ef_rd, hse b (by omega)] at h2
      have h3 := (eg217_151_136_0 h2).2
      have e : S + ef_ss Se b U + Se b = S + ef_ss Se (b + 1) U := by
        rw [s0, if_pos q]
        omega
      rw [e] at h3
      exact ih n (b + 1) w r d5 hse (by omega) h3
    · have h2 := (k2 (by omega) (by rw [if_neg q]; decide)).2
      have h3 := (eg217_151_136_0 h2).2
      have e : S + ef_ss Se b U + 0 = S + ef_ss Se (b + 1) U := by
        rw [s0, if_neg q]
        omega
      rw [e] at h3
      exact ih n (b + 1) w r d5 hse (by omega) h3
/-- what mostOf reads -/
def ew_MO (gn bn : Nat) (M : Nat → Nat) (p Se : Nat → Int) (w : px_W) : Prop := (gn ≤ 10 ∧ bn ≤ 8) ∧ ef_a w 152 4 = (gn : Int) ∧ ef_a w 152 5 = (bn : Int) ∧ (∀ g, g < gn → ef_a w 161 g = (M g : Int) ∧ M g < 2 ^ bn) ∧ (∀ g, g < gn → ef_a w 162 g = p g ∧ 0 ≤ p g ∧ p g ≤ 50) ∧ ∀ b, b < bn → ef_a w 163 b = Se b ∧ 0 ≤ Se b ∧ Se b ≤ 65
theorem ew_mo5 : ∀ (k n s : Nat) (w : px_W) (r : Option Value × px_W), ew_MO gn bn M p Se w → s + k = 2 ^ gn → ec_E hb_X n 217 5 [(0, .inr (.inl 215)), (1, .inl (eq_mn (eq_D Se p M bn gn) 1000000 s)), (2, .inl (s : Int))] [] w r → r = (ec_R (eq_mn (eq_D Se p M bn gn) 1000000 (2 ^ gn)), w) ∧ ec_W hb_A w := by
  intro k
  induction k with
  | zero =>
    intro n s w r hm hsk h
    have hs : s = 2 ^ gn := by omega
    subst hs
    have k0 := eg217_151_5_0 h
    have e4 : ec_tw 4 = ((4 : Nat) : Int) := rfl
    rw [e4, ef_rd, hm.2.1, ec_shl1 gn (by have := hm.1.1; omega)] at k0
    exact (k0 (Int.le_refl _)).2
  | succ k ih =>
    intro n s w r hm hsk h
    have hm0 := hm
    obtain ⟨⟨g10, b8⟩, m1, m2, m3, m4, m5⟩ := hm
    have hp := eq_pw10 g10
    have es : ec_tw (s : Int) = s := ec_twn (by omega)
    have e4 : ec_tw 4 = ((4 : Nat) : Int) := rfl
    have k1 := eg217_151_5_1 h
    rw [e4, ef_rd, m1, ec_shl1 gn (by omega), es, ec_twn (n := 2 ^ gn) (by omega)] at k1
    have h2 := (k1 (by omega)).2
    have h3 := ew_mo25 (M := M) (p := p) (bn := bn) (c := fun g => !(Nat.testBit s g)) (s := s) g10 b8 (by omega) (fun _ => rfl) gn n 0 _ w r m1 m3 (fun g hg => (m4 g hg).1) (by omega) h2
    have ul := eq_un_lt (M := M) (s := s) (bn := bn) gn (fun g' hg' => (m3 g' hg').2)
    have pin := eq_sm_in (p := p) (c := fun g => !(Nat.testBit s g)) gn (fun g hg => (m4 g hg).2)
    have a0 : 0 ≤ eq_mn (eq_D Se p M bn gn) 1000000 s := eq_mn_ge s (by omega) (fun y _ => (eq_D_in b8 g10 (fun b hb => (m5 b hb).2) (fun g hg => (m4 g hg).2)).1)
    have a1 := (eq_mn_le (f := eq_D Se p M bn gn) (a := 1000000) s).1
    have e0 : eq_sm p (fun g => !(Nat.testBit s g)) gn = eq_sm p (fun g => !(Nat.testBit s g)) gn + ef_ss Se 0 (eq_un M s gn) := (Int.add_zero _).symm
    rw [e0] at h3
    have h4 := ew_mo102 (Se := Se) b8 ul (fun b hb => (m5 b hb).2) ⟨pin.1, by omega⟩ ⟨a0, a1⟩ bn n 0 w r m2 (fun b hb => (m5 b hb).1) (by omega) h3
    exact ih n (s + 1) w r hm0 (by omega) h4
theorem ew_mostB {n : Nat} {w : px_W} {r : Option Value × px_W} (hm : ew_MO gn bn M p Se w) (h : ec_E hb_X n 217 0 [(0, .inr (.inl 215))] [] w r) : r = (ec_R (eq_mn (eq_D Se p M bn gn) 1000000 (2 ^ gn)), w) ∧ ec_W hb_A w := ew_mo5 (2 ^ gn) n 0 w r hm (by omega) (eg217_151_0_0 h).2
end EW5

end

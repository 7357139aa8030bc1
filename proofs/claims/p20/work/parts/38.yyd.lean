noncomputable section
/-! JUDGE: THE READER, on both sides -/
def eu_ok (M : Nat → Nat) (gn bn : Nat) (R p Se : Nat → Int) (i : Nat) : Bool := decide ((0 ≤ R (3 * i) ∧ R (3 * i) ≤ (gn : Int) - 1) ∧ (0 ≤ R (3 * i + 1) ∧ R (3 * i + 1) ≤ (bn : Int) - 1) ∧ (i = 0 ∨ R (3 * i - 3) < R (3 * i) ∨ (R (3 * i) = R (3 * i - 3) ∧ R (3 * i - 2) < R (3 * i + 1))) ∧ Nat.testBit (M (R (3 * i)).toNat) (R (3 * i + 1)).toNat = true ∧ 1 ≤ R (3 * i + 2) ∧ R (3 * i + 2) ≤ p (R (3 * i)).toNat ∧ R (3 * i + 2) ≤ Se (R (3 * i + 1)).toNat)
def eu_j (M : Nat → Nat) (gn bn : Nat) (R : Nat → Int) : Nat → Nat → (Nat → Int) → (Nat → Int) → Int → Int
  | 0, _, _, _, s => s
  | k + 1, i, p, Se, s => if eu_ok M gn bn R p Se i = true then eu_j M gn bn R k (i + 1) (ef_u p (R (3 * i)).toNat (p (R (3 * i)).toNat - R (3 * i + 2))) (ef_u Se (R (3 * i + 1)).toNat (Se (R (3 * i + 1)).toNat - R (3 * i + 2))) (s + R (3 * i + 2)) else -100 - (i : Int)
section EU1
variable {gn bn : Nat} {M : Nat → Nat} {R : Nat → Int}
theorem ew_right {n i : Nat} {p Se : Nat → Int} {w : px_W} {r : Option Value × px_W} (h8 : bn ≤ 8) (h10 : gn ≤ 10) (hMl : ∀ g, M g < 2 ^ bn) (hi : i < 80) (h5 : ec_fd w 126 5 = (gn : Int)) (h6 : ec_fd w 126 6 = (bn : Int)) (hM : ∀ g, g < gn → ef_a w 128 g = (M g : Int)) (hp : ∀ g, g < gn → ef_a w 130 g = p g) (hS : ∀ b, b < bn → ef_a w 131 b = Se b) (hR : ∀ j, j < 3 * (i + 1) → ef_a w 127 j = R j) (h : ec_E hb_X n 105 0 [(0, .inr (.inl 190)), (1, .inl (i : Int))] [] w r) : r = (ec_R (if eu_ok M gn bn R p Se i = true then 1 else 0), w) ∧ ec_W hb_A w := by
  have p8 := eq_pw h8
  have t0 : ec_tw 0 = 0 := rfl
  have t1 : ec_tw 1 = 1 := rfl
  have ti : ec_tw (i : Int) = i := ec_twn (by omega)
  have tg : ec_tw ((gn : Int) - 1) = (gn : Int) - 1 := ec_tw_id (by omega) (by omega)
  have tb : ec_tw ((bn : Int) - 1) = (bn : Int) - 1 := ec_tw_id (by omega) (by omega)
  have i0 : ec_tw ((i : Int) * 3) = ((3 * i : Nat) : Int) := by
    rw [ec_tw_id (by omega) (by omega)]
    omega
  have i1 : ec_tw ((i : Int) * 3 + 1) = ((3 * i + 1 : Nat) : Int) := by
    rw [ec_tw_id (by omega) (by omega)]
    omega
  have i2 : ec_tw ((i : Int) * 3 + 2) = ((3 * i + 2 : Nat) : Int) := by
    rw [ec_tw_id (by omega) (by omega)]
    omega
  have in0 := ef_in w 127 (3 * i)
  have in1 := ef_in w 127 (3 * i + 1)
  have in2 := ef_in w 127 (3 * i + 2)
  rw [hR _ (by omega)] at in0 in1 in2
  have x0 : ec_tw (R (3 * i)) = R (3 * i) := ec_tw_id in0.1 in0.2
  have x1 : ec_tw (R (3 * i + 1)) = R (3 * i + 1) := ec_tw_id in1.1 in1.2
  have x2 : ec_tw (R (3 * i + 2)) = R (3 * i + 2) := ec_tw_id in2.1 in2.2
  have no : ¬ ((0 ≤ R (3 * i) ∧ R (3 * i) ≤ (gn : Int) - 1) ∧ (0 ≤ R (3 * i + 1) ∧ R (3 * i + 1) ≤ (bn : Int) - 1) ∧ (i = 0 ∨ R (3 * i - 3) < R (3 * i) ∨ (R (3 * i) = R (3 * i - 3) ∧ R (3 * i - 2) < R (3 * i + 1))) ∧ Nat.testBit (M (R (3 * i)).toNat) (R (3 * i + 1)).toNat = true ∧ 1 ≤ R (3 * i + 2) ∧ R (3 * i + 2) ≤ p (R (3 * i)).toNat ∧ R (3 * i + 2) ≤ Se (R (3 * i + 1)).toNat) → r = (ec_R 0, w) ∧ ec_W hb_A w → r = (ec_R (if eu_ok M gn bn R p Se i = true then 1 else 0), w) ∧ ec_W hb_A w := fun q z => by
    have e : eu_ok M gn bn R p Se i = false := decide_eq_false q
    rw [e]
    exact z
  have k0 := (eg105_126_0_0 h).2
  rw [i0, i1, i2, ef_rd w 127 (3 * i), ef_rd w 127 (3 * i + 1), ef_rd w 127 (3 * i + 2), hR (3 * i) (by omega), hR (3 * i + 1) (by omega), hR (3 * i + 2) (by omega), h5] at k0
  obtain ⟨v1, w1, a1, a2⟩ := k0
  obtain ⟨e1, W1⟩ := ew_within a1
  rw [x0, t0, tg] at e1
  injection e1 with e1 j1
  have j1 := j1.symm
  subst j1
  have a3 := a2 _ e1 W1
  by_cases p1 : 0 ≤ R (3 * i) ∧ R (3 * i) ≤ (gn : Int) - 1
  · rw [if_pos p1] at a3
    obtain ⟨_, v2, w2, a4, a5⟩ := eg105_126_43_1 a3 (by decide)
    obtain ⟨e2, W2⟩ := ew_within a4
    rw [x1, t0, h6, tb] at e2
    injection e2 with e2 j2
    have j2 := j2.symm
    subst j2
    have a6 := a5 _ e2 W2
    by_cases p2 : 0 ≤ R (3 * i + 1) ∧ R (3 * i + 1) ≤ (bn : Int) - 1
    · rw [if_pos p2] at a6
      have a7 := (eg105_126_57_0 a6 (by decide)).2
      obtain ⟨g, hg⟩ : ∃ g : Nat, R (3 * i) = (g : Int) := ⟨(R (3 * i)).toNat, by omega⟩
      obtain ⟨b, hb⟩ : ∃ b : Nat, R (3 * i + 1) = (b : Int) := ⟨(R (3 * i + 1)).toNat, by omega⟩
      have eg : ec_tw (g : Int) = g := ec_twn (by omega)
      have eb : ec_tw (b : Int) = b := ec_twn (by omega)
      have Mg : M g < 256 := Nat.lt_of_lt_of_le (hMl g) p8
      have last : (i = 0 ∨ R (3 * i - 3) < R (3 * i) ∨ (R (3 * i) = R (3 * i - 3) ∧ R (3 * i - 2) < R (3 * i + 1))) → ec_E hb_X n 105 106 [(0, .inr (.inl 190)), (1, .inl (i : Int)), (2, .inl (R (3 * i))), (3, .inl (R (3 * i + 1))), (4, .inl (R (3 * i + 2)))] [] w r → r = (ec_R (if eu_ok M gn bn R p Se i = true then 1 else 0), w) ∧ ec_W hb_A w := by
        intro hl h6'
        have m0 := eg105_126_106_0 h6'
        have m1 := eg105_126_106_1 h6'
        have m2 := eg105_126_106_2 h6'
        have m3 := eg105_126_106_3 h6'
        have m4 := eg105_126_106_4 h6'
        rw [hg, hb, eg, ef_rd w 128 g, hM g (by omega), ec_bitT (by omega) (by omega), t1] at m0 m1 m2 m3 m4
        rw [x2] at m1
        rw [x2, ef_rd w 130 g, hp g (by omega)] at m2
        rw [x2, ef_rd w 130 g, hp g (by omega), eb, ef_rd w 131 b, hS b (by omega)] at m3 m4
        have pin := ef_in w 130 g
        have sin := ef_in w 131 b
        rw [hp g (by omega)] at pin
        rw [hS b (by omega)] at sin
        rw [ec_tw_id (a := p g) pin.1 pin.2] at m2 m3 m4
        rw [ec_tw_id (a := Se b) sin.1 sin.2] at m3 m4
        have ng : (R (3 * i)).toNat = g := by omega
        have nb : (R (3 * i + 1)).toNat = b := by omega
        by_cases c1 : Nat.testBit (M g) b = true
        · by_cases c2 : 1 ≤ R (3 * i + 2)
          · by_cases c3 : R (3 * i + 2) ≤ p g
            · by_cases c4 : R (3 * i + 2) ≤ Se b
              · have e : eu_ok M gn bn R p Se i = true := decide_eq_true ⟨p1, p2, hl, by rw [ng, nb]; exact c1, c2, by rw [ng]; exact c3, by rw [nb]; exact c4⟩
                rw [e]
                exact (m4 (by rw [if_pos c1]) c2 c3 c4).2
              · exact no (fun z => c4 (by have := z.2.2.2.2.2.2; rw [nb] at this; exact this)) (eg105_126_152_0 (m3 (by rw [if_pos c1]) c2 c3 (by omega)).2).2
            · exact no (fun z => c3 (by have := z.2.2.2.2.2.1; rw [ng] at this; exact this)) (eg105_126_152_0 (m2 (by rw [if_pos c1]) c2 (by omega)).2).2
          · exact no (fun z => c2 z.2.2.2.2.1) (eg105_126_152_0 (m1 (by rw [if_pos c1]) (by omega)).2).2
        · exact no (fun z => c1 (by have := z.2.2.2.1; rw [ng, nb] at this; exact this)) (eg105_126_152_0 (m0 (by rw [if_neg c1]; decide)).2).2
      by_cases c0 : i = 0
      · exact last (.inl c0) (eg105_126_62_0 a7 (by rw [ti, t0]; omega)).2
      · have q3 : ec_tw ((i : Int) * 3 - 3) = ((3 * i - 3 : Nat) : Int) := by
          rw [ec_tw_id (by omega) (by omega)]
          omega
        have q2 : ec_tw ((i : Int) * 3 - 2) = ((3 * i - 2 : Nat) : Int) := by
          rw [ec_tw_id (by omega) (by omega)]
          omega
        have inA := ef_in w 127 (3 * i - 3)
        have inB := ef_in w 127 (3 * i - 2)
        rw [hR _ (by omega)] at inA inB
        have y0 : ec_tw (R (3 * i - 3)) = R (3 * i - 3) := ec_tw_id inA.1 inA.2
        have y1 : ec_tw (R (3 * i - 2)) = R (3 * i - 2) := ec_tw_id inB.1 inB.2
        have n1 := eg105_126_62_1 a7
        have n2 := eg105_126_62_2 a7
        have n3 := eg105_126_62_3 a7
        have n4 := eg105_126_62_4 a7
        rw [ti, t0, x0, q3, ef_rd w 127 (3 * i - 3), hR (3 * i - 3) (by omega), y0] at n1 n2 n3 n4
        rw [x1, q2, ef_rd w 127 (3 * i - 2), hR (3 * i - 2) (by omega), y1] at n3 n4
        by_cases d1 : R (3 * i) < R (3 * i - 3)
        · exact no (fun z => by have := z.2.2.1; omega) (n1 (by omega) d1).2
        · by_cases d2 : R (3 * i) = R (3 * i - 3)
          · by_cases d3 : R (3 * i - 2) < R (3 * i + 1)
            · exact last (.inr (.inr ⟨d2, d3⟩)) (n3 (by omega) (by omega) d2 d3).2
            · exact no (fun z => by have := z.2.2.1; omega) (n4 (by omega) (by omega) d2 (by omega)).2
          · exact last (.inr (.inl (by omega))) (n2 (by omega) (by omega) d2).2
    · rw [if_neg p2] at a6
      exact no (fun z => p2 z.2.1) (eg105_126_57_1 a6 rfl).2
  · rw [if_neg p1] at a3
    exact no (fun z => p1 z.1) (eg105_126_43_0 a3 rfl).2
theorem ew_readR {k0 : Nat} (h8 : bn ≤ 8) (h10 : gn ≤ 10) (hMl : ∀ g, M g < 2 ^ bn) (hk : k0 ≤ 80) : ∀ (k n i : Nat) (p Se : Nat → Int) (s : Int) (w : px_W) (r : Option Value × px_W), i + k = k0 → ec_W hb_A w → ec_fd w 126 0 = (k0 : Int) → ec_fd w 126 5 = (gn : Int) → ec_fd w 126 6 = (bn : Int) → (∀ g, g < gn → ef_a w 128 g = (M g : Int)) → (∀ g, g < gn → ef_a w 130 g = p g ∧ 0 ≤ p g ∧ p g ≤ 50) → (∀ b, b < bn → ef_a w 131 b = Se b ∧ 0 ≤ Se b ∧ Se b ≤ 65) → (∀ j, j < 3 * k0 → ef_a w 127 j = R j) → ec_E hb_X n 104 4 [(0, .inr (.inl 190)), (1, .inl s), (2, .inl (i : Int))] [] w r → ∃ w' : px_W, r = (ec_R (eu_j M gn bn R k i p Se s), w') ∧ ec_W hb_A w' ∧ ef_s [130, 131] w w' := by
  intro k
  induction k with
  | zero =>
    intro n i p Se s w r hi hW f0 f5 f6 hM hp hS hR h
    have ei : i = k0 := by omega
    have j := eg104_126_4_0 h
    rw [f0, ei] at j
    obtain ⟨_, hr, _⟩ := j (Int.le_refl _)
    exact ⟨w, hr, hW, ef_s_refl⟩
  | succ k ih =>
    intro n i p Se s w r hi hW f0 f5 f6 hM hp hS hR h
    have ti : ec_tw (i : Int) = i := ec_twn (by omega)
    have j := eg104_126_4_1 h
    rw [ti, f0, ec_twn (n := k0) (by omega)] at j
    obtain ⟨_, v1, w1, a1, a2⟩ := j (by omega)
    obtain ⟨e1, W1⟩ := ew_right (R := R) (p := p) (Se := Se) h8 h10 hMl (by omega) f5 f6 hM (fun g hg => (hp g hg).1) (fun b hb => (hS b hb).1) (fun q hq => hR q (by omega)) a1
    injection e1 with e1 j1
    have j1 := j1.symm
    subst j1
    have a3 := a2 _ e1 W1
    have eu : eu_j M gn bn R (k + 1) i p Se s = if eu_ok M gn bn R p Se i = true then eu_j M gn bn R k (i + 1) (ef_u p (R (3 * i)).toNat (p (R (3 * i)).toNat - R (3 * i + 2))) (ef_u Se (R (3 * i + 1)).toNat (Se (R (3 * i + 1)).toNat - R (3 * i + 2))) (s + R (3 * i + 2)) else -100 - (i : Int) := rfl
    by_cases c : eu_ok M gn bn R p Se i = true
    · rw [if_pos c] at a3 eu
      obtain ⟨c1, c2, _, _, c5, c6, c7⟩ := of_decide_eq_true c
      obtain ⟨g, hg⟩ : ∃ g : Nat, R (3 * i) = (g : Int) := ⟨(R (3 * i)).toNat, by omega⟩
      obtain ⟨b, hb⟩ : ∃ b : Nat, R (3 * i + 1) = (b : Int) := ⟨(R (3 * i + 1)).toNat, by omega⟩
      have ng : (R (3 * i)).toNat = g := by omega
      have nb : (R (3 * i + 1)).toNat = b := by omega
      rw [ng] at c6 eu
      rw [nb] at c7 eu
      have eg : ec_tw (g : Int) = g := ec_twn (by omega)
      have eb : ec_tw (b : Int) = b := ec_twn (by omega)
      obtain ⟨g1, g2, g3⟩ := hp g (by omega)
      obtain ⟨b1, b2, b3⟩ := hS b (by omega)
      have i0 : ec_tw ((i : Int) * 3) = ((3 * i : Nat) : Int) := by
        rw [ec_tw_id (by omega) (by omega)]
        omega
      have i1 : ec_tw ((i : Int) * 3 + 1) = ((3 * i + 1 : Nat) : Int) := by
        rw [ec_tw_id (by omega) (by omega)]
        omega
      have i2 : ec_tw ((i : Int) * 3 + 2) = ((3 * i + 2 : Nat) : Int) := by
        rw [ec_tw_id (by omega) (by omega)]
        omega
      have a4 := (eg104_126_17_0 a3 (by decide)).2
      rw [i0, i1, i2, ef_rd w 127 (3 * i), ef_rd w 127 (3 * i + 2), hR (3 * i) (by omega), hR (3 * i + 2) (by omega), hg, eg, ef_rd w 130 g, g1] at a4
      have u1 : ef_a (ec_wr w 130 (g : Int) (p g - R (3 * i + 2))) 127 (3 * i + 1) = (b : Int) := by
        rw [ef_a_wr_o (by decide), hR (3 * i + 1) (by omega)]
        exact hb
      rw [ef_rd (ec_wr w 130 (g : Int) (p g - R (3 * i + 2))) 127 (3 * i + 1), u1, eb] at a4
      have u2 : ef_a (ec_wr w 130 (g : Int) (p g - R (3 * i + 2))) 131 b = Se b := by
        rw [ef_a_wr_o (by decide)]
        exact b1
      rw [ef_rd (ec_wr w 130 (g : Int) (p g - R (3 * i + 2))) 131 b, u2] at a4
      have Wa : ec_W hb_A (ec_wr w 130 (g : Int) (p g - R (3 * i + 2))) := ec_W_wr W1
      have S2 : ef_s [130, 131] w (ec_wr (ec_wr w 130 (g : Int) (p g - R (3 * i + 2))) 131 (b : Int) (Se b - R (3 * i + 2))) := ef_s_trans (ef_s_wr (by decide)) (ef_s_wr (by decide))
      obtain ⟨w', hr, hW', s'⟩ := ih n (i + 1) (ef_u p g (p g - R (3 * i + 2))) (ef_u Se b (Se b - R (3 * i + 2))) (s + R (3 * i + 2)) _ r (by omega) (ec_W_wr Wa) ((ef_s_f S2 (by decide) 0).trans f0) ((ef_s_f S2 (by decide) 5).trans f5) ((ef_s_f S2 (by decide) 6).trans f6) (by rw [ef_s_a S2 (by decide)]; exact hM) (fun q hq => by
        rw [ef_a_wr_o (by decide), ef_a_wr (n := 10) W1 rfl (by omega) (by omega), ec_tw_id (a := p g - R (3 * i + 2)) (by omega) (by omega)]
        unfold ef_u
        rw [Int.toNat_natCast]
        by_cases z : q = g
        · rw [if_pos z, if_pos z]
          omega
        · rw [if_neg z, if_neg z]
          exact hp q hq) (fun q hq => by
        rw [ef_a_wr (n := 8) Wa rfl (by omega) (by omega), ec_tw_id (a := Se b - R (3 * i + 2)) (by omega) (by omega), ef_a_wr_o (by decide)]
        unfold ef_u
        rw [Int.toNat_natCast]
        by_cases z : q = b
        · rw [if_pos z, if_pos z]
          omega
        · rw [if_neg z, if_neg z]
          exact hS q hq) (by rw [ef_s_a S2 (by decide)]; exact hR) a4
      exact ⟨w', by rw [hr, eu], hW', ef_s_trans S2 s'⟩
    · rw [if_neg c] at a3 eu
      obtain ⟨_, hr, _⟩ := eg104_126_17_1 a3 rfl
      exact ⟨w, by rw [hr, eu], hW, ef_s_refl⟩
/-! the reference -/
theorem ew_isBoat {n : Nat} {w : px_W} {r : Option Value × px_W} {x1 : Int} (h : ec_E hb_X n 213 0 [(0, .inr (.inl 215)), (1, .inl x1)] [] w r) : r = (ec_R (if 0 ≤ ec_tw x1 ∧ ec_tw x1 ≤ ec_tw (ef_a w 152 5 - 1) then 1 else 0), w) ∧ ec_W hb_A w := by
  obtain ⟨_, v, w1, h1, h2⟩ := eg213_151_0_0 h
  obtain ⟨h3, h4⟩ := ew_in h1
  injection h3 with h3 h5
  subst h5
  exact (eg213_151_13_0 (h2 _ h3 h4)).2
theorem ew_judB {k0 : Nat} (h8 : bn ≤ 8) (h10 : gn ≤ 10) (hMl : ∀ g, M g < 2 ^ bn) (hk : k0 ≤ 80) : ∀ (k n i : Nat) (p Se : Nat → Int) (s : Int) (w : px_W) (r : Option Value × px_W), i + k = k0 → ec_W hb_A w → ec_fd w 151 19 = (k0 : Int) → ef_a w 152 4 = (gn : Int) → ef_a w 152 5 = (bn : Int) → (∀ g, g < gn → ef_a w 161 g = (M g : Int)) → (∀ g, g < gn → ef_a w 162 g = p g ∧ 0 ≤ p g ∧ p g ≤ 50) → (∀ b, b < bn → ef_a w 163 b = Se b ∧ 0 ≤ Se b ∧ Se b ≤ 65) → (∀ j, j < 3 * k0 → ef_a w 164 j = R j) → ec_E hb_X n 224 12 [(0, .inr (.inl 215)), (1, .inl s), (2, .inl (i : Int))] [] w r → ∃ w' : px_W, r = (ec_R (eu_j M gn bn R k i p Se s), w') ∧ ec_W hb_A w' ∧ ef_s [162, 163] w w' := by
  have p8 := eq_pw h8
  have t0 : ec_tw 0 = 0 := rfl
  have t1 : ec_tw 1 = 1 := rfl
  have tg : ec_tw ((gn : Int) - 1) = (gn : Int) - 1 := ec_tw_id (by omega) (by omega)
  have tb : ec_tw ((bn : Int) - 1) = (bn : Int) - 1 := ec_tw_id (by omega) (by omega)
  intro k
  induction k with
  | zero =>
    intro n i p Se s w r hi hW f0 d4 d5 hM hp hS hR h
    have ei : i = k0 := by omega
    have j := eg224_151_12_0 h
    rw [f0, ei] at j
    obtain ⟨_, hr, _⟩ := j (Int.le_refl _)
    exact ⟨w, hr, hW, ef_s_refl⟩
  | succ k ih =>
    intro n i p Se s w r hi hW f0 d4 d5 hM hp hS hR h
    have ti : ec_tw (i : Int) = i := ec_twn (by omega)
    have i0 : ec_tw (3 * (i : Int)) = ((3 * i : Nat) : Int) := by
      rw [ec_tw_id (by omega) (by omega)]
      omega
    have i1 : ec_tw (3 * (i : Int) + 1) = ((3 * i + 1 : Nat) : Int) := by
      rw [ec_tw_id (by omega) (by omega)]
      omega
    have i2 : ec_tw (3 * (i : Int) + 2) = ((3 * i + 2 : Nat) : Int) := by
      rw [ec_tw_id (by omega) (by omega)]
      omega
    have in0 := ef_in w 164 (3 * i)
    have in1 := ef_in w 164 (3 * i + 1)
    have in2 := ef_in w 164 (3 * i + 2)
    rw [hR _ (by omega)] at in0 in1 in2
    have x0 : ec_tw (R (3 * i)) = R (3 * i) := ec_tw_id in0.1 in0.2
    have x1 : ec_tw (R (3 * i + 1)) = R (3 * i + 1) := ec_tw_id in1.1 in1.2
    have x2 : ec_tw (R (3 * i + 2)) = R (3 * i + 2) := ec_tw_id in2.1 in2.2
    have eu : eu_j M gn bn R (k + 1) i p Se s = if eu_ok M gn bn R p Se i = true then eu_j M gn bn R k (i + 1) (ef_u p (R (3 * i)).toNat (p (R (3 * i)).toNat - R (3 * i + 2))) (ef_u Se (R (3 * i + 1)).toNat (Se (R (3 * i + 1)).toNat - R (3 * i + 2))) (s + R (3 * i + 2)) else -100 - (i : Int) := rfl
    have no : ¬ ((0 ≤ R (3 * i) ∧ R (3 * i) ≤ (gn : Int) - 1) ∧ (0 ≤ R (3 * i + 1) ∧ R (3 * i + 1) ≤ (bn : Int) - 1) ∧ (i = 0 ∨ R (3 * i - 3) < R (3 * i) ∨ (R (3 * i) = R (3 * i - 3) ∧ R (3 * i - 2) < R (3 * i + 1))) ∧ Nat.testBit (M (R (3 * i)).toNat) (R (3 * i + 1)).toNat = true ∧ 1 ≤ R (3 * i + 2) ∧ R (3 * i + 2) ≤ p (R (3 * i)).toNat ∧ R (3 * i + 2) ≤ Se (R (3 * i + 1)).toNat) → ec_E hb_X n 224 172 [(0, .inr (.inl 215)), (1, .inl s), (2, .inl (i : Int))] [] w r → ∃ w' : px_W, r = (ec_R (eu_j M gn bn R (k + 1) i p Se s), w') ∧ ec_W hb_A w' ∧ ef_s [162, 163] w w' := fun q z => by
      have e : eu_ok M gn bn R p Se i = false := decide_eq_false q
      rw [eu, e]
      exact ⟨w, (eg224_151_172_0 z).2.1, hW, ef_s_refl⟩
    have main : ∀ q : Int, (q = 1 ∧ (i = 0 ∨ R (3 * i - 3) < R (3 * i) ∨ (R (3 * i) = R (3 * i - 3) ∧ R (3 * i - 2) < R (3 * i + 1))) ∨ q = 0 ∧ ¬ (i = 0 ∨ R (3 * i - 3) < R (3 * i) ∨ (R (3 * i) = R (3 * i - 3) ∧ R (3 * i - 2) < R (3 * i + 1)))) → ec_E hb_X n 224 105 [(0, .inr (.inl 215)), (1, .inl s), (2, .inl (i : Int)), (3, .inl (R (3 * i))), (4, .inl (R (3 * i + 1))), (5, .inl (R (3 * i + 2)))] [.inl q] w r → ∃ w' : px_W, r = (ec_R (eu_j M gn bn R (k + 1) i p Se s), w') ∧ ec_W hb_A w' ∧ ef_s [162, 163] w w' := by
      intro q hq h105
      obtain ⟨_, v1, w1, a1, a2⟩ := eg224_151_105_0 h105
      obtain ⟨e1, W1⟩ := ew_isGroup a1
      rw [d4, tg, x0] at e1
      injection e1 with e1 j1
      have j1 := j1.symm
      subst j1
      have a3 := a2 _ e1 W1
      by_cases p1 : 0 ≤ R (3 * i) ∧ R (3 * i) ≤ (gn : Int) - 1
      · rw [if_pos p1] at a3
        obtain ⟨_, v2, w2, a4, a5⟩ := eg224_151_112_1 a3 (by decide)
        obtain ⟨e2, W2⟩ := ew_isBoat a4
        rw [d5, tb, x1] at e2
        injection e2 with e2 j2
        have j2 := j2.symm
        subst j2
        have a6 := a5 _ e2 W2
        by_cases p2 : 0 ≤ R (3 * i + 1) ∧ R (3 * i + 1) ≤ (bn : Int) - 1
        · rw [if_pos p2] at a6
          obtain ⟨g, hg⟩ : ∃ g : Nat, R (3 * i) = (g : Int) := ⟨(R (3 * i)).toNat, by omega⟩
          obtain ⟨b, hb⟩ : ∃ b : Nat, R (3 * i + 1) = (b : Int) := ⟨(R (3 * i + 1)).toNat, by omega⟩
          have ng : (R (3 * i)).toNat = g := by omega
          have nb : (R (3 * i + 1)).toNat = b := by omega
          have eg : ec_tw (g : Int) = g := ec_twn (by omega)
          have eb : ec_tw (b : Int) = b := ec_twn (by omega)
          have Mg : M g < 256 := Nat.lt_of_lt_of_le (hMl g) p8
          obtain ⟨g1, g2, g3⟩ := hp g (by omega)
          obtain ⟨b1, b2, b3⟩ := hS b (by omega)
          rcases hq with ⟨q1, q2⟩ | ⟨q1, q2⟩
          · have m2 := eg224_151_121_2 a6 (by decide) (by rw [q1]; decide)
            have m3 := eg224_151_121_3 a6 (by decide) (by rw [q1]; decide)
            have m4 := eg224_151_121_4 a6 (by decide) (by rw [q1]; decide)
            have m5 := eg224_151_121_5 a6 (by decide) (by rw [q1]; decide)
            have m6 := eg224_151_121_6 a6 (by decide) (by rw [q1]; decide)
            rw [hg, hb, eg, ef_rd w 161 g, hM g (by omega), ec_bitT (by omega) (by omega), t0] at m2 m3 m4 m5 m6
            rw [x2, t1] at m3
            rw [x2, t1, ef_rd w 162 g, g1, ec_tw_id (a := p g) (by omega) (by omega)] at m4
            rw [x2, t1, ef_rd w 162 g, g1, ec_tw_id (a := p g) (by omega) (by omega), eb, ef_rd w 163 b, b1, ec_tw_id (a := Se b) (by omega) (by omega)] at m5 m6
            by_cases c1 : Nat.testBit (M g) b = true
            · have c1' : (if Nat.testBit (M g) b = true then (1 : Int) else 0) ≠ 0 := by
                rw [if_pos c1]
                decide
              by_cases c2 : 1 ≤ R (3 * i + 2)
              · by_cases c3 : R (3 * i + 2) ≤ p g
                · by_cases c4 : R (3 * i + 2) ≤ Se b
                  · have e : eu_ok M gn bn R p Se i = true := decide_eq_true ⟨p1, p2, q2, by rw [ng, nb]; exact c1, c2, by rw [ng]; exact c3, by rw [nb]; exact c4⟩
                    rw [e, if_pos rfl, ng, nb] at eu
                    have h177 := (eg224_151_177_0 (m5 c1' c2 c3 c4).2).2
                    rw [eg, eb, ef_rd w 162 g, g1] at h177
                    have u2 : ef_a (ec_wr w 162 (g : Int) (p g - R (3 * i + 2))) 163 b = Se b := by
                      rw [ef_a_wr_o (by decide)]
                      exact b1
                    rw [ef_rd (ec_wr w 162 (g : Int) (p g - R (3 * i + 2))) 163 b, u2] at h177
                    have Wa : ec_W hb_A (ec_wr w 162 (g : Int) (p g - R (3 * i + 2))) := ec_W_wr W2
                    have S2 : ef_s [162, 163] w (ec_wr (ec_wr w 162 (g : Int) (p g - R (3 * i + 2))) 163 (b : Int) (Se b - R (3 * i + 2))) := ef_s_trans (ef_s_wr (by decide)) (ef_s_wr (by decide))
                    obtain ⟨w', hr, hW', s'⟩ := ih n (i + 1) (ef_u p g (p g - R (3 * i + 2))) (ef_u Se b (Se b - R (3 * i + 2))) (s + R (3 * i + 2)) _ r (by omega) (ec_W_wr Wa) ((ef_s_f S2 (by decide) 19).trans f0) (by rw [ef_s_a S2 (by decide)]; exact d4) (by rw [ef_s_a S2 (by decide)]; exact d5) (by rw [ef_s_a S2 (by decide)]; exact hM) (fun z hz => by
                      rw [ef_a_wr_o (by decide), ef_a_wr (n := 10) W2 rfl (by omega) (by omega), ec_tw_id (a := p g - R (3 * i + 2)) (by omega) (by omega)]
                      unfold ef_u
                      rw [Int.toNat_natCast]
                      by_cases c : z = g
                      · rw [if_pos c, if_pos c]
                        omega
                      · rw [if_neg c, if_neg c]
                        exact hp z hz) (fun z hz => by
                      rw [ef_a_wr (n := 8) Wa rfl (by omega) (by omega), ec_tw_id (a := Se b - R (3 * i + 2)) (by omega) (by omega), ef_a_wr_o (by decide)]
                      unfold ef_u
                      rw [Int.toNat_natCast]
                      by_cases c : z = b
                      · rw [if_pos c, if_pos c]
                        omega
                      · rw [if_neg c, if_neg c]
                        exact hS z hz) (by rw [ef_s_a S2 (by decide)]; exact hR) h177
                    exact ⟨w', by rw [hr, eu], hW', ef_s_trans S2 s'⟩
                  · exact no (fun z => c4 (by have := z.2.2.2.2.2.2; rw [nb] at this; exact this)) (m6 c1' c2 c3 (by omega)).2
                · exact no (fun z => c3 (by have := z.2.2.2.2.2.1; rw [ng] at this; exact this)) (m4 c1' c2 (by omega)).2
              · exact no (fun z => c2 z.2.2.2.2.1) (m3 c1' (by omega)).2
            · exact no (fun z => c1 (by have := z.2.2.2.1; rw [ng, nb] at this; exact this)) (m2 (by rw [if_neg c1])).2
          · exact no (fun z => q2 z.2.2.1) (eg224_151_121_1 a6 (by decide) (by rw [q1])).2
        · rw [if_neg p2] at a6
          exact no (fun z => p2 z.2.1) (eg224_151_121_0 a6 rfl).2
      · rw [if_neg p1] at a3
        exact no (fun z => p1 z.1) (eg224_151_112_0 a3 rfl).2
    have l1 := eg224_151_12_1 h
    have l2 := eg224_151_12_2 h
    have l3 := eg224_151_12_3 h
    have l4 := eg224_151_12_4 h
    have l5 := eg224_151_12_5 h
    rw [ti, f0, ec_twn (n := k0) (by omega), t0, i0, i1, i2, ef_rd w 164 (3 * i), ef_rd w 164 (3 * i + 1), ef_rd w 164 (3 * i + 2), hR (3 * i) (by omega), hR (3 * i + 1) (by omega), hR (3 * i + 2) (by omega)] at l1 l2 l3 l4 l5
    by_cases c0 : i = 0
    · exact main 1 (.inl ⟨rfl, .inl c0⟩) (l1 (by omega) (by omega)).2
    · have q3 : ec_tw (3 * (i : Int) - 3) = ((3 * i - 3 : Nat) : Int) := by
        rw [ec_tw_id (by omega) (by omega)]
        omega
      have q2 : ec_tw (3 * (i : Int) - 2) = ((3 * i - 2 : Nat) : Int) := by
        rw [ec_tw_id (by omega) (by omega)]
        omega
      have inA := ef_in w 164 (3 * i - 3)
      have inB := ef_in w 164 (3 * i - 2)
      rw [hR _ (by omega)] at inA inB
      have y0 : ec_tw (R (3 * i - 3)) = R (3 * i - 3) := ec_tw_id inA.1 inA.2
      have y1 : ec_tw (R (3 * i - 2)) = R (3 * i - 2) := ec_tw_id inB.1 inB.2
      rw [x0, q3, ef_rd w 164 (3 * i - 3), hR (3 * i - 3) (by omega), y0] at l2 l3 l4 l5
      rw [x1, q2, ef_rd w 164 (3 * i - 2), hR (3 * i - 2) (by omega), y1] at l4 l5
      by_cases d1 : R (3 * i - 3) < R (3 * i)
      · exact main 1 (.inl ⟨rfl, .inr (.inl d1)⟩) (l2 (by omega) (by omega) d1).2
      · by_cases d2 : R (3 * i) = R (3 * i - 3)
        · by_cases d3 : R (3 * i - 2) < R (3 * i + 1)
          · exact main 1 (.inl ⟨rfl, .inr (.inr ⟨d2, d3⟩)⟩) (l5 (by omega) (by omega) (by omega) d2 d3).2
          · exact main 0 (.inr ⟨rfl, by omega⟩) (l4 (by omega) (by omega) (by omega) d2 (by omega)).2
        · exact main 0 (.inr ⟨rfl, by omega⟩) (l3 (by omega) (by omega) (by omega) d2).2
end EU1
theorem es_judge2 {xs : List Int32} {n : Nat} {w wA wB : px_W} {vA vB : Option Value} (hR : es_RR w) (hA : ec_F (hb_XL xs) n 139 [.inr (.inl 64)] w (vA, wA)) (hB : ec_F (hb_XL xs) n 224 [.inr (.inl 215)] wA (vB, wB)) : vA = vB ∧ es_RR wB := by
  obtain ⟨k, hk, k1, k2, k3⟩ := hR.2
  obtain ⟨c, gn, bn, A, B, Pl, Bp, Mi, Ti, To, ⟨hD, hDA, hDB⟩, ⟨hG, hGA, hGB⟩, ⟨hbn, hbA, hbB⟩, hb, hg⟩ := ef_data hR.1.1
  have g10 := hG.1
  have hS : ∀ b, b < bn → 0 ≤ ef_a w 24 b ∧ ef_a w 24 b ≤ 65 := fun b hb' => ⟨by have := (hb b hb').2.2.2.2.1; omega, (hb b hb').2.2.2.2.2⟩
  have hP : ∀ g, g < gn → 0 ≤ ef_a w 20 g ∧ ef_a w 20 g ≤ 50 := fun g hg' => ⟨by have := (hg g hg').2.2.1; omega, (hg g hg').2.2.2⟩
  obtain ⟨M, hMd⟩ : ∃ M : Nat → Nat, M = fun g => eq_M (ef_er (ef_rf A B Mi Ti c Pl To) (ef_a w 27) (ef_a w 21) Bp g) (ef_a w 26) bn := ⟨_, rfl⟩
  have hMg : ∀ g, M g = eq_M (ef_er (ef_rf A B Mi Ti c Pl To) (ef_a w 27) (ef_a w 21) Bp g) (ef_a w 26) bn := fun g => by rw [hMd]
  have hM : ∀ g, M g < 2 ^ bn := fun g => by rw [hMg]; exact eq_M_lt
  obtain ⟨_, v1, w1, a1, a2⟩ := eg139_0_0_0 (hb_FE hA)
  obtain ⟨w1', e1, W1, s1, ⟨f5, f6⟩, fo, ⟨r130, r131, r132⟩, _, r134, r128⟩ := ew_load hD hDA hG hGA hbn hbA (fun b hb' => ⟨(hb b hb').1.1, (hb b hb').1.2.1⟩) hS hR.1.2 a1
  injection e1 with e1 i1
  subst i1
  obtain ⟨_, v2, w2, a3, a4⟩ := eg139_0_11_0 (a2 e1 W1)
  obtain ⟨w2', e2, W2, s2⟩ := ew_readR (M := M) (R := ef_a w 127) hbn g10 hM hk k n 0 (ef_a w 20) (ef_a w 24) 0 w1 _ (by omega) W1 (by rw [fo 0 (by decide) (by decide)]; exact k1) f5 f6 (fun g hg' => by rw [r128 g hg', ef_cb_M hbn, hMg]) (fun g hg' => ⟨by rw [r130], hP g hg'⟩) (fun b hb' => ⟨by rw [r131], hS b hb'⟩) (fun j _ => by rw [ef_s_a s1 (by decide)]) (eg104_126_0_0 a3).2
  injection e2 with e2 i2
  subst i2
  obtain ⟨_, hr, hW⟩ := eg139_0_18_0 (a4 _ e2 W2)
  injection hr with hr1 hr2
  have hr2 := hr2.symm
  subst hr2
  have sA : ef_s ef_S8 w w2 := ef_s_trans s1 (ef_s_mono s2 (by decide))
  have d1 : ef_a w2 152 = ef_a w 152 := ef_s_a sA (by decide)
  obtain ⟨_, u1, y1, m1, m2⟩ := eg224_151_0_0 (hb_FE hB)
  obtain ⟨y1', x1, X1, t1, g1⟩ := ew_layB (bn := bn) hbn (by rw [d1]; exact hbB) m1
  injection x1 with x1 z1
  subst z1
  obtain ⟨_, u2, y2, m3, m4⟩ := eg224_151_4_0 (m2 x1 X1)
  have d2 : ef_a y1 152 = ef_a w 152 := (ef_s_a t1 (by decide)).trans d1
  obtain ⟨y2', x2, X2, t2, g2, g2'⟩ := ew_findCan (bn := bn) (Bp := Bp) (Lo := ef_a w 26) hD (by unfold ef_DB; rw [d2]; exact hDB) hG (by unfold ef_GB; rw [d2]; exact hGB) hbn (by rw [d2]; exact hbB) (fun b hb' => by rw [d2]; exact ⟨(hb b hb').1.2.2, (hb b hb').1.2.1⟩) (fun b hb' => ⟨by rw [g1 b hb', d1]; exact (hb b hb').2.1.1.symm, Int.le_trans (hb b hb').2.1.2.2 (by decide)⟩) (fun g hg' => by rw [d2, ← (hg g hg').1.1]; exact (hg g hg').1.2.2) m3
  injection x2 with x2 z2
  subst z2
  have d3 : ef_a y2 152 = ef_a w 152 := (ef_s_a t2 (by decide)).trans d2
  have tB : ef_s [159, 160, 161, 162, 163] w2 y2 := ef_s_trans (ef_s_mono t1 (by decide)) (ef_s_mono t2 (by decide))
  have c161 : ∀ g, g < gn → ef_a y2 161 g = (M g : Int) := fun g hg' => by
    rw [(g2 g hg').1, d2, hMg, ← ef_cb_M hbn]
    symm
    refine ef_cb_cg bn 0 0 (fun j _ hj => ?_)
    have hj' := hb j (by omega)
    have hg'' := hg g hg'
    unfold ef_er
    rw [hj'.2.2.1.1, hg''.1.1]
  have c162 : ∀ g, g < gn → ef_a y2 162 g = ef_a w 20 g := fun g hg' => by
    rw [(g2 g hg').2, d2]
    exact (hg g hg').2.1.symm
  have c163 : ∀ b, b < bn → ef_a y2 163 b = ef_a w 24 b := fun b hb' => by
    rw [g2' b hb', d2]
    exact (hb b hb').2.2.2.1.symm
  have sAB : ef_s (ef_S8 ++ [159, 160, 161, 162, 163]) w y2 := ef_s_trans (ef_s_mono sA (by decide)) (ef_s_mono tB (by decide))
  obtain ⟨y3, x3, X3, t3⟩ := ew_judB (M := M) (R := ef_a w 127) hbn g10 hM hk k n 0 (ef_a w 20) (ef_a w 24) 0 y2 _ (by omega) X2 ((ef_s_f sAB (by decide) 19).trans k2) (by rw [d3]; exact hGB.1) (by rw [d3]; exact hbB) c161 (fun g hg' => ⟨c162 g hg', hP g hg'⟩) (fun b hb' => ⟨c163 b hb', hS b hb'⟩) (fun j hj => by rw [ef_s_a sAB (by decide)]; exact (k3 j hj).symm) (eg224_151_8_0 (m4 x2 X2)).2
  injection x3 with x3 z3
  subst z3
  have sE : ef_s (ef_S8 ++ [159, 160, 161, 162, 163]) w wB := ef_s_trans sAB (ef_s_mono t3 (by decide))
  refine ⟨hr1.trans x3.symm, ⟨ef_RC_s sE (by decide) hR.1.1, ?_⟩, k, hk, ?_, (ef_s_f sE (by decide) 19).trans k2, fun i hi => ?_⟩
  · rw [ef_s_a t3 (by decide), ef_s_a tB (by decide), ef_s_a s2 (by decide), r134 0 (Nat.two_pow_pos bn), ef_ss_0]
  · rw [ef_s_f t3 (by decide), ef_s_f tB (by decide), ef_s_f s2 (by decide), fo 0 (by decide) (by decide)]
    exact k1
  · rw [ef_s_a sE (by decide), ef_s_a sE (by decide)]
    exact k3 i hi

end

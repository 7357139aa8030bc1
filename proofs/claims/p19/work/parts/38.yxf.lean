noncomputable section
/-! SEATING: the reference -/
theorem et_clear : ∀ b : Nat, b < 8 → ∀ m : Nat, m < 256 → ec_and (m : Int) (ec_xor (ec_shl 1 (b : Int)) (-1)) = ((eq_mk (fun j => Nat.testBit m j && !(decide (j = b))) 8 : Nat) : Int) := by decide +kernel
theorem et_Mt_lt {M : Nat → Nat} {t g bn : Nat} (hM : ∀ g, M g < 2 ^ bn) (h8 : bn ≤ 8) : et_Mt M t g < 2 ^ bn := by
  have p8 := eq_pw h8
  refine Nat.lt_pow_two_of_testBit _ (fun i hi => ?_)
  have p2 : 2 ^ bn ≤ 2 ^ i := Nat.pow_le_pow_right (by decide) hi
  rw [et_Mt_bit (Nat.lt_of_lt_of_le (hM g) p8), Nat.testBit_lt_two_pow (Nat.lt_of_lt_of_le (hM g) p2)]
  rfl
theorem et_Mt_up {M : Nat → Nat} {t : Nat} (hM : ∀ g, M g < 256) : ∀ k, (∀ i, t ≤ i → i < t + k → Nat.testBit (M (i / 8)) (i % 8) = false) → et_Mt M (t + k) = et_Mt M t
  | 0, _ => rfl
  | k + 1, h => by
    have e : t + (k + 1) = t + k + 1 := rfl
    rw [e, et_Mt_no hM (h (t + k) (by omega) (by omega))]
    exact et_Mt_up hM k (fun i h1 h2 => h i h1 (by omega))
/-- the pair's bit goes -/
theorem et_Mt_clear {M : Nat → Nat} {g b : Nat} (hM : ∀ g, M g < 256) (hb : b < 8) : ec_and (et_Mt M (g * 8 + b) g : Int) (ec_xor (ec_shl 1 (b : Int)) (-1)) = (et_Mt M (g * 8 + b + 1) g : Int) := by
  have hl : et_Mt M (g * 8 + b) g < 256 := eq_mk_lt 8
  rw [et_clear b hb _ hl]
  congr 1
  apply Nat.eq_of_testBit_eq
  intro i
  have e1 : (g * 8 + b) / 8 = g := by omega
  have e2 : (g * 8 + b) % 8 = b := by omega
  have hr := (et_Mt_rm (t := g * 8 + b) hM).2 i
  rw [e1, e2] at hr
  rw [hr]
  by_cases h : i < 8
  · exact eq_mk_bit 8 i h
  · have p8 : (2 : Nat) ^ 8 ≤ 2 ^ i := Nat.pow_le_pow_right (by decide) (by omega)
    have e8 : (2 : Nat) ^ 8 = 256 := rfl
    have h1 : eq_mk (fun j => Nat.testBit (et_Mt M (g * 8 + b) g) j && !(decide (j = b))) 8 < 2 ^ 8 := eq_mk_lt 8
    rw [Nat.testBit_lt_two_pow (by omega : eq_mk (fun j => Nat.testBit (et_Mt M (g * 8 + b) g) j && !(decide (j = b))) 8 < 2 ^ i), Nat.testBit_lt_two_pow (by omega : et_Mt M (g * 8 + b) g < 2 ^ i)]
    rfl
section ET6
variable {gn bn : Nat} {M : Nat → Nat}
def et_B (M : Nat → Nat) (bn gn : Nat) (S : et_S) (t : Nat) (w : px_W) : Prop := (ef_a w 152 4 = (gn : Int) ∧ ef_a w 152 5 = (bn : Int) ∧ ec_fd w 151 19 = (S.2.2.2.1 : Int)) ∧ (∀ g, g < gn → ef_a w 161 g = (et_Mt M t g : Int)) ∧ (∀ g, g < gn → ef_a w 162 g = S.1 g) ∧ (∀ b, b < bn → ef_a w 163 b = S.2.1 b) ∧ ∀ i, i < 3 * S.2.2.2.1 → ef_a w 164 i = S.2.2.2.2 i
/-- the greatest that will do -/
theorem ew_min {g b : Nat} {S : et_S} (hM : ∀ g, M g < 2 ^ bn) (h8 : bn ≤ 8) (h10 : gn ≤ 10) (hg : g < gn) (hb : b < bn) (hq : Nat.testBit (M g) b = true) (hI : et_I M bn gn S (g * 8 + b)) {w0 : px_W} (hB : et_B M bn gn S (g * 8 + b) w0) : ∀ (k n : Nat) (lo hi : Int) (w : px_W) (r : Option Value × px_W), hi - lo ≤ (k : Int) → 0 ≤ lo → lo ≤ hi → hi ≤ S.1 g → hi ≤ S.2.1 b → et_ok S.2.1 S.1 (et_Mt M (g * 8 + b)) bn gn S.2.2.1 g b lo → ¬ et_ok S.2.1 S.1 (et_Mt M (g * 8 + b)) bn gn S.2.2.1 g b (hi + 1) → ef_s [162, 163] w0 w → ef_a w 162 = ef_a w0 162 → ef_a w 163 = ef_a w0 163 → ec_E hb_X n 219 35 [(0, .inr (.inl 215)), (1, .inl (g : Int)), (2, .inl (b : Int)), (3, .inl S.2.2.1), (4, .inl lo), (5, .inl hi)] [] w r → ∃ (m : Int) (w' : px_W), r = (ec_R m, w') ∧ ec_W hb_A w' ∧ ef_s [162, 163] w0 w' ∧ ef_a w' 162 = ef_a w0 162 ∧ ef_a w' 163 = ef_a w0 163 ∧ et_ok S.2.1 S.1 (et_Mt M (g * 8 + b)) bn gn S.2.2.1 g b m ∧ ¬ et_ok S.2.1 S.1 (et_Mt M (g * 8 + b)) bn gn S.2.2.1 g b (m + 1) := by
  have p8 := eq_pw h8
  have hM' : ∀ g, M g < 256 := fun g => Nat.lt_of_lt_of_le (hM g) p8
  obtain ⟨h1, h2, h3, h4⟩ := hI
  obtain ⟨⟨d4, d5, f19⟩, b161, b162, b163, b164⟩ := hB
  have hT : ∀ g', et_Mt M (g * 8 + b) g' < 2 ^ bn := fun g' => et_Mt_lt hM h8
  obtain ⟨mT, _⟩ := et_ch_all hM' (fun g hg => (h2 g hg).1) (by omega) h1 (g * 8 + b) (Nat.le_refl _)
  have qT : Nat.testBit (et_Mt M (g * 8 + b) g) b = true := by
    rw [et_Mt_bit (hM' g), hq, decide_eq_true (Nat.le_refl _)]
    rfl
  have Lin : 0 ≤ S.2.2.1 ∧ S.2.2.1 ≤ 1020 := by
    obtain ⟨x, hx⟩ := mT.2
    rw [← hx]
    exact et_c_in h8 h10 h3 h2
  have q2 := h2 g hg
  have q3 := h3 b hb
  have eg : ec_tw (g : Int) = g := ec_twn (by omega)
  have eb : ec_tw (b : Int) = b := ec_twn (by omega)
  intro k
  induction k with
  | zero =>
    intro n lo hi w r hk l0 l1 l2 l3 o1 o2 hs e162 e163 h
    have e : lo = hi := by omega
    obtain ⟨_, hr, hW⟩ := eg219_151_35_0 h (by rw [e]; exact Int.le_refl _)
    exact ⟨lo, w, hr, hW, hs, e162, e163, o1, by rw [e]; exact o2⟩
  | succ k ih =>
    intro n lo hi w r hk l0 l1 l2 l3 o1 o2 hs e162 e163 h
    have tl : ec_tw lo = lo := ec_tw_id (by omega) (by omega)
    have th : ec_tw hi = hi := ec_tw_id (by omega) (by omega)
    by_cases c : lo = hi
    · obtain ⟨_, hr, hW⟩ := eg219_151_35_0 h (by rw [c]; exact Int.le_refl _)
      exact ⟨lo, w, hr, hW, hs, e162, e163, o1, by rw [c]; exact o2⟩
    · have j := eg219_151_35_1 h
      obtain ⟨x, hx⟩ : ∃ x : Int, x = (lo + hi + 1) / 2 := ⟨_, rfl⟩
      have x1 : lo < x := by omega
      have x2 : x ≤ hi := by omega
      rw [tl, th, eg, eb, ec_dv_nn (by omega) (by omega) (by omega) (by omega), ← hx] at j
      rw [ef_rd w 162 g, e162, b162 g hg, ef_rd (ec_wr w 162 (g : Int) (S.1 g - x)) 163 b, ef_a_wr_o (by decide), e163, b163 b hb] at j
      obtain ⟨_, v1, w1, a1, a2⟩ := j (by omega)
      have W0 := h.1
      have Wa : ec_W hb_A (ec_wr w 162 (g : Int) (S.1 g - x)) := ec_W_wr W0
      have u162 : ∀ i, ef_a (ec_wr (ec_wr w 162 (g : Int) (S.1 g - x)) 163 (b : Int) (S.2.1 b - x)) 162 i = if i = g then S.1 g - x else ef_a w0 162 i := by
        intro i
        rw [ef_a_wr_o (by decide), ef_a_wr (n := 10) W0 rfl (by omega) (by omega), ec_tw_id (a := S.1 g - x) (by omega) (by omega), e162]
        unfold ef_u
        rw [Int.toNat_natCast]
      have u163 : ∀ i, ef_a (ec_wr (ec_wr w 162 (g : Int) (S.1 g - x)) 163 (b : Int) (S.2.1 b - x)) 163 i = if i = b then S.2.1 b - x else ef_a w0 163 i := by
        intro i
        rw [ef_a_wr (n := 8) Wa rfl (by omega) (by omega), ec_tw_id (a := S.2.1 b - x) (by omega) (by omega), ef_a_wr_o (by decide), e163]
        unfold ef_u
        rw [Int.toNat_natCast]
      have hs1 : ef_s [162, 163] w0 (ec_wr (ec_wr w 162 (g : Int) (S.1 g - x)) 163 (b : Int) (S.2.1 b - x)) := ef_s_trans hs (ef_s_trans (ef_s_wr (by decide)) (ef_s_wr (by decide)))
      have pin : ∀ i, i < gn → ef_a (ec_wr (ec_wr w 162 (g : Int) (S.1 g - x)) 163 (b : Int) (S.2.1 b - x)) 162 i = (et_put g b x S).1 i ∧ 0 ≤ (et_put g b x S).1 i ∧ (et_put g b x S).1 i ≤ 50 := by
        intro i hi'
        have e : (et_put g b x S).1 i = if i = g then S.1 g - x else S.1 i := rfl
        rw [u162 i, e]
        by_cases q : i = g
        · rw [if_pos q, if_pos q]
          omega
        · rw [if_neg q, if_neg q, b162 i hi']
          exact ⟨rfl, h2 i hi'⟩
      have sin : ∀ i, i < bn → ef_a (ec_wr (ec_wr w 162 (g : Int) (S.1 g - x)) 163 (b : Int) (S.2.1 b - x)) 163 i = (et_put g b x S).2.1 i ∧ 0 ≤ (et_put g b x S).2.1 i ∧ (et_put g b x S).2.1 i ≤ 65 := by
        intro i hi'
        have e : (et_put g b x S).2.1 i = if i = b then S.2.1 b - x else S.2.1 i := rfl
        rw [u163 i, e]
        by_cases q : i = b
        · rw [if_pos q, if_pos q]
          omega
        · rw [if_neg q, if_neg q, b163 i hi']
          exact ⟨rfl, h3 i hi'⟩
      have hMO : ew_MO gn bn (et_Mt M (g * 8 + b)) (et_put g b x S).1 (et_put g b x S).2.1 (ec_wr (ec_wr w 162 (g : Int) (S.1 g - x)) 163 (b : Int) (S.2.1 b - x)) := ⟨⟨h10, h8⟩, by rw [ef_s_a hs1 (by decide)]; exact d4, by rw [ef_s_a hs1 (by decide)]; exact d5, fun i hi' => ⟨by rw [ef_s_a hs1 (by decide)]; exact b161 i hi', hT i⟩, pin, sin⟩
      obtain ⟨e1, W1⟩ := ew_mostB hMO a1
      have eV := eq_same (Se := (et_put g b x S).2.1) (p := (et_put g b x S).1) (M := et_Mt M (g * 8 + b)) h8 h10 (fun i hi' => (sin i hi').2) (fun i hi' => (pin i hi').2) (fun i _ => hT i)
      have mV := et_mn (Se := (et_put g b x S).2.1) (p := (et_put g b x S).1) (gn := gn) hT
      rw [eV] at mV
      obtain ⟨V, hV⟩ : ∃ V : Int, V = eq_mn (eq_D (et_put g b x S).2.1 (et_put g b x S).1 (et_Mt M (g * 8 + b)) bn gn) 1000000 (2 ^ gn) := ⟨_, rfl⟩
      rw [← hV] at mV e1
      have Vin : 0 ≤ V ∧ V ≤ 1020 := by
        obtain ⟨y, hy⟩ := mV.2
        rw [← hy]
        exact et_c_in h8 h10 (fun i hi' => (sin i hi').2) (fun i hi' => (pin i hi').2)
      injection e1 with e1 i1
      have i1 := i1.symm
      subst i1
      have a3 := a2 _ e1 W1
      have l0' := eg219_151_79_0 a3
      have l1' := eg219_151_79_1 a3
      rw [ec_tw_id (a := V + x) (by omega) (by omega), ec_tw_id (a := S.2.2.1) (by omega) (by omega)] at l0' l1'
      have back : ∀ (s : Int) (lo' hi' : Int), hi' - lo' ≤ (k : Int) → 0 ≤ lo' → lo' ≤ hi' → hi' ≤ S.1 g → hi' ≤ S.2.1 b → et_ok S.2.1 S.1 (et_Mt M (g * 8 + b)) bn gn S.2.2.1 g b lo' → ¬ et_ok S.2.1 S.1 (et_Mt M (g * 8 + b)) bn gn S.2.2.1 g b (hi' + 1) → (s = 1 ∧ lo' = x ∧ hi' = hi ∨ s = 0 ∧ lo' = lo ∧ hi' = x - 1) → ec_E hb_X n 219 91 [(0, .inr (.inl 215)), (1, .inl (g : Int)), (2, .inl (b : Int)), (3, .inl S.2.2.1), (4, .inl lo), (5, .inl hi), (6, .inl x)] [.inl s] (ec_wr (ec_wr w 162 (g : Int) (S.1 g - x)) 163 (b : Int) (S.2.1 b - x)) r → ∃ (m : Int) (w' : px_W), r = (ec_R m, w') ∧ ec_W hb_A w' ∧ ef_s [162, 163] w0 w' ∧ ef_a w' 162 = ef_a w0 162 ∧ ef_a w' 163 = ef_a w0 163 ∧ et_ok S.2.1 S.1 (et_Mt M (g * 8 + b)) bn gn S.2.2.1 g b m ∧ ¬ et_ok S.2.1 S.1 (et_Mt M (g * 8 + b)) bn gn S.2.2.1 g b (m + 1) := by
        intro s lo' hi' k1 k2 k3 k4 k5 k6 k7 hsel h91
        have u1 : ef_a (ec_wr (ec_wr w 162 (g : Int) (S.1 g - x)) 163 (b : Int) (S.2.1 b - x)) 162 g = S.1 g - x := by rw [u162 g, if_pos rfl]
        have u2 : ef_a (ec_wr (ec_wr w 162 (g : Int) (S.1 g - x)) 163 (b : Int) (S.2.1 b - x)) 163 b = S.2.1 b - x := by rw [u163 b, if_pos rfl]
        have Wc : ec_W hb_A (ec_wr (ec_wr (ec_wr w 162 (g : Int) (S.1 g - x)) 163 (b : Int) (S.2.1 b - x)) 162 (g : Int) (S.1 g - x + x)) := ec_W_wr W1
        have r162 : ef_a (ec_wr (ec_wr (ec_wr (ec_wr w 162 (g : Int) (S.1 g - x)) 163 (b : Int) (S.2.1 b - x)) 162 (g : Int) (S.1 g - x + x)) 163 (b : Int) (S.2.1 b - x + x)) 162 = ef_a w0 162 := by
          funext i
          rw [ef_a_wr_o (by decide), ef_a_wr (n := 10) W1 rfl (by omega) (by omega), ec_tw_id (a := S.1 g - x + x) (by omega) (by omega)]
          unfold ef_u
          rw [Int.toNat_natCast]
          by_cases q : i = g
          · rw [if_pos q, q, b162 g hg]
            omega
          · rw [if_neg q, u162 i, if_neg q]
        have r163 : ef_a (ec_wr (ec_wr (ec_wr (ec_wr w 162 (g : Int) (S.1 g - x)) 163 (b : Int) (S.2.1 b - x)) 162 (g : Int) (S.1 g - x + x)) 163 (b : Int) (S.2.1 b - x + x)) 163 = ef_a w0 163 := by
          funext i
          rw [ef_a_wr (n := 8) Wc rfl (by omega) (by omega), ec_tw_id (a := S.2.1 b - x + x) (by omega) (by omega), ef_a_wr_o (by decide)]
          unfold ef_u
          rw [Int.toNat_natCast]
          by_cases q : i = b
          · rw [if_pos q, q, b163 b hb]
            omega
          · rw [if_neg q, u163 i, if_neg q]
        have hs2 : ef_s [162, 163] w0 (ec_wr (ec_wr (ec_wr (ec_wr w 162 (g : Int) (S.1 g - x)) 163 (b : Int) (S.2.1 b - x)) 162 (g : Int) (S.1 g - x + x)) 163 (b : Int) (S.2.1 b - x + x)) := ef_s_trans hs1 (ef_s_trans (ef_s_wr (by decide)) (ef_s_wr (by decide)))
        have m0 := eg219_151_91_0 h91
        have m1 := eg219_151_91_1 h91
        have u3 : ef_a (ec_wr (ec_wr (ec_wr w 162 (g : Int) (S.1 g - x)) 163 (b : Int) (S.2.1 b - x)) 162 (g : Int) (S.1 g - x + x)) 163 b = S.2.1 b - x := by
          rw [ef_a_wr_o (by decide)]
          exact u2
        rw [eg, eb, ef_rd (ec_wr (ec_wr w 162 (g : Int) (S.1 g - x)) 163 (b : Int) (S.2.1 b - x)) 162 g, u1, ef_rd (ec_wr (ec_wr (ec_wr w 162 (g : Int) (S.1 g - x)) 163 (b : Int) (S.2.1 b - x)) 162 (g : Int) (S.1 g - x + x)) 163 b, u3] at m0 m1
        rcases hsel with ⟨z1, z2, z3⟩ | ⟨z1, z2, z3⟩
        · have n1 := (m1 (by rw [z1]; decide)).2
          have n2 := (eg219_151_127_1 n1 (by rw [z1]; decide)).2
          have n3 := (eg219_151_143_0 n2).2
          subst z2
          subst z3
          exact ih n _ _ _ r k1 k2 k3 k4 k5 k6 k7 hs2 r162 r163 n3
        · have n1 := (m0 (by rw [z1])).2
          have n2 := (eg219_151_127_0 n1 (by rw [z1])).2
          have n3 := (eg219_151_143_0 n2).2
          subst z2
          subst z3
          exact ih n _ _ _ r k1 k2 k3 k4 k5 k6 k7 hs2 r162 r163 n3
      have tk := et_put_tk (g := g) (b := b) (n := x) (S := S)
      by_cases c2 : V + x = S.2.2.1
      · have ox : et_ok S.2.1 S.1 (et_Mt M (g * 8 + b)) bn gn S.2.2.1 g b x := by
          refine et_tk_back tk hg hb (by omega) (by omega) ?_
          have : S.2.2.1 - x = V := by omega
          rw [this]
          exact mV
        exact back 1 x hi (by omega) (by omega) x2 l2 l3 ox o2 (.inl ⟨rfl, rfl, rfl⟩) (l1' c2).2
      · have ox : ¬ et_ok S.2.1 S.1 (et_Mt M (g * 8 + b)) bn gn S.2.2.1 g b (x - 1 + 1) := by
          intro z
          have z' : et_ok S.2.1 S.1 (et_Mt M (g * 8 + b)) bn gn S.2.2.1 g b x := by
            have e : x - 1 + 1 = x := by omega
            rw [e] at z
            exact z
          have m2 := et_tk_min tk hg hb qT (by omega) mT z'
          have := et_min_un m2 mV
          omega
        exact back 0 lo (x - 1) (by omega) l0 (by omega) (by omega) (by omega) o1 ox (.inr ⟨rfl, rfl, rfl⟩) (l0' c2).2
theorem ew_mostIn {n g b : Nat} {S : et_S} {w : px_W} {r : Option Value × px_W} (hM : ∀ g, M g < 2 ^ bn) (h8 : bn ≤ 8) (h10 : gn ≤ 10) (hg : g < gn) (hb : b < bn) (hq : Nat.testBit (M g) b = true) (hI : et_I M bn gn S (g * 8 + b)) (hB : et_B M bn gn S (g * 8 + b) w) (h : ec_E hb_X n 219 0 [(0, .inr (.inl 215)), (1, .inl (g : Int)), (2, .inl (b : Int)), (3, .inl S.2.2.1)] [] w r) : ∃ w' : px_W, r = (ec_R (et_n S.2.1 S.1 M bn gn S.2.2.1 g b), w') ∧ ec_W hb_A w' ∧ ef_s [162, 163] w w' ∧ et_B M bn gn S (g * 8 + b) w' := by
  have p8 := eq_pw h8
  have hM' : ∀ g, M g < 256 := fun g => Nat.lt_of_lt_of_le (hM g) p8
  have hI0 := hI
  have hB0 := hB
  obtain ⟨h1, h2, h3, h4⟩ := hI
  obtain ⟨⟨d4, d5, f19⟩, b161, b162, b163, b164⟩ := hB
  obtain ⟨mT, oT⟩ := et_ch_all hM' (fun g hg => (h2 g hg).1) (by omega) h1 (g * 8 + b) (Nat.le_refl _)
  have qT : Nat.testBit (et_Mt M (g * 8 + b) g) b = true := by
    rw [et_Mt_bit (hM' g), hq, decide_eq_true (Nat.le_refl _)]
    rfl
  have q2 := h2 g hg
  have q3 := h3 b hb
  have eg : ec_tw (g : Int) = g := ec_twn (by omega)
  have eb : ec_tw (b : Int) = b := ec_twn (by omega)
  have j0 := eg219_151_0_0 h
  have j1 := eg219_151_0_1 h
  rw [eg, eb, ef_rd w 163 b, ef_rd w 162 g, b162 g hg, b163 b hb, ec_tw_id (a := S.2.1 b) (by omega) (by omega), ec_tw_id (a := S.1 g) (by omega) (by omega)] at j0 j1
  have ok0 : et_ok S.2.1 S.1 (et_Mt M (g * 8 + b)) bn gn S.2.2.1 g b 0 := ⟨q2.1, q3.1, fun x _ _ => by have := mT.1 x; omega⟩
  have go : ∀ hi : Int, 0 ≤ hi → hi ≤ S.1 g → hi ≤ S.2.1 b → (hi = S.1 g ∨ hi = S.2.1 b) → ec_E hb_X n 219 33 [(0, .inr (.inl 215)), (1, .inl (g : Int)), (2, .inl (b : Int)), (3, .inl S.2.2.1), (4, .inl 0)] [.inl hi] w r → ∃ w' : px_W, r = (ec_R (et_n S.2.1 S.1 M bn gn S.2.2.1 g b), w') ∧ ec_W hb_A w' ∧ ef_s [162, 163] w w' ∧ et_B M bn gn S (g * 8 + b) w' := by
    intro hi i0 i1 i2 i3 h33
    obtain ⟨m, w', hr, hW, hs, e162, e163, o1, o2⟩ := ew_min hM h8 h10 hg hb hq hI0 hB0 (hi.toNat) n 0 hi w r (by omega) (by omega) i0 i1 i2 ok0 (fun z => by
      have z1 := z.1
      have z2 := z.2.1
      omega) ef_s_refl rfl rfl (eg219_151_33_0 h33).2
    have eq := et_ok_un ((oT g b m hg qT).mpr o1) (fun z => o2 ((oT g b (m + 1) hg qT).mp z)) (et_n_ok (Se := S.2.1) (p := S.1) (gn := gn) (L := S.2.2.1) (g := g) hM hb) et_n_mx
    refine ⟨w', by rw [hr, eq], hW, hs, ⟨?_, ?_, ?_⟩, ?_, ?_, ?_, ?_⟩
    · rw [ef_s_a hs (by decide)]
      exact d4
    · rw [ef_s_a hs (by decide)]
      exact d5
    · rw [ef_s_f hs (by decide)]
      exact f19
    · rw [ef_s_a hs (by decide)]
      exact b161
    · rw [e162]
      exact b162
    · rw [e163]
      exact b163
    · rw [ef_s_a hs (by decide)]
      exact b164
  by_cases c : S.2.1 b ≤ S.1 g
  · exact go (S.2.1 b) q3.1 c (Int.le_refl _) (.inr rfl) (j0 c).2
  · exact go (S.1 g) q2.1 (Int.le_refl _) (by omega) (.inl rfl) (j1 (by omega)).2
def et_SB : List Nat := [151, 161, 162, 163, 164]
theorem ew_b67 {n g b : Nat} {z : Int} {S : et_S} {w : px_W} {r : Option Value × px_W} (hM : ∀ g, M g < 2 ^ bn) (h8 : bn ≤ 8) (h10 : gn ≤ 10) (hg : g < gn) (hb : b < bn) (hI : et_I M bn gn S (g * 8 + b)) (hz0 : 0 ≤ z) (hz1 : z ≤ S.1 g) (hz2 : z ≤ S.2.1 b) (hB : et_B M bn gn S (g * 8 + b) w) (h : ec_E hb_X n 220 67 [(0, .inr (.inl 215)), (1, .inl S.2.2.1), (2, .inl (g : Int)), (3, .inl (b : Int))] [.inl z] w r) : ∃ w' : px_W, ec_W hb_A w' ∧ ef_s et_SB w w' ∧ (∀ f, f ≠ 19 → ec_fd w' 151 f = ec_fd w 151 f) ∧ et_B M bn gn (et_put g b z S) (g * 8 + b + 1) w' ∧ ec_E hb_X n 220 32 [(0, .inr (.inl 215)), (1, .inl (S.2.2.1 - z)), (2, .inl (g : Int)), (3, .inl ((b : Int) + 1))] [] w' r := by
  have p8 := eq_pw h8
  have hM' : ∀ g, M g < 256 := fun g => Nat.lt_of_lt_of_le (hM g) p8
  obtain ⟨h1, h2, h3, h4⟩ := hI
  obtain ⟨⟨d4, d5, f19⟩, b161, b162, b163, b164⟩ := hB
  have q2 := h2 g hg
  have q3 := h3 b hb
  have eg : ec_tw (g : Int) = g := ec_twn (by omega)
  have eb : ec_tw (b : Int) = b := ec_twn (by omega)
  have t0 : ec_tw 0 = 0 := rfl
  have tz : ec_tw z = z := ec_tw_id (by omega) (by omega)
  have W0 := h.1
  have Wa : ec_W hb_A (ec_wr w 162 (g : Int) (S.1 g - z)) := ec_W_wr W0
  have Wb : ec_W hb_A (ec_wr (ec_wr w 162 (g : Int) (S.1 g - z)) 163 (b : Int) (S.2.1 b - z)) := ec_W_wr Wa
  have k0 := (eg220_151_67_0 h).2
  have u163 : ef_a (ec_wr w 162 (g : Int) (S.1 g - z)) 163 b = S.2.1 b := by
    rw [ef_a_wr_o (by decide)]
    exact b163 b hb
  have u161 : ef_a (ec_wr (ec_wr w 162 (g : Int) (S.1 g - z)) 163 (b : Int) (S.2.1 b - z)) 161 g = (et_Mt M (g * 8 + b) g : Int) := by
    rw [ef_a_wr_o (by decide), ef_a_wr_o (by decide)]
    exact b161 g hg
  rw [eg, eb, ef_rd w 162 g, b162 g hg, ef_rd (ec_wr w 162 (g : Int) (S.1 g - z)) 163 b, u163, ef_rd (ec_wr (ec_wr w 162 (g : Int) (S.1 g - z)) 163 (b : Int) (S.2.1 b - z)) 161 g, u161, et_Mt_clear hM' (by omega)] at k0
  have ml : et_Mt M (g * 8 + b + 1) g < 256 := eq_mk_lt 8
  have Wc : ec_W hb_A (ec_wr (ec_wr (ec_wr w 162 (g : Int) (S.1 g - z)) 163 (b : Int) (S.2.1 b - z)) 161 (g : Int) (et_Mt M (g * 8 + b + 1) g : Int)) := ec_W_wr Wb
  have s1 : ef_s [161, 162, 163] w (ec_wr (ec_wr (ec_wr w 162 (g : Int) (S.1 g - z)) 163 (b : Int) (S.2.1 b - z)) 161 (g : Int) (et_Mt M (g * 8 + b + 1) g : Int)) := ef_s_trans (ef_s_trans (ef_s_wr (by decide)) (ef_s_wr (by decide))) (ef_s_wr (by decide))
  have v161 : ∀ i, i < gn → ef_a (ec_wr (ec_wr (ec_wr w 162 (g : Int) (S.1 g - z)) 163 (b : Int) (S.2.1 b - z)) 161 (g : Int) (et_Mt M (g * 8 + b + 1) g : Int)) 161 i = (et_Mt M (g * 8 + b + 1) i : Int) := by
    intro i hi
    rw [ef_a_wr (n := 10) Wb rfl (by omega) (by omega), ec_twn (n := et_Mt M (g * 8 + b + 1) g) (by omega), ef_a_wr_o (by decide), ef_a_wr_o (by decide)]
    unfold ef_u
    rw [Int.toNat_natCast]
    by_cases q : i = g
    · rw [if_pos q, q]
    · have hr := (et_Mt_rm (t := g * 8 + b) hM').1 i (by omega)
      rw [if_neg q, b161 i hi, hr]
  have v162 : ∀ i, i < gn → ef_a (ec_wr (ec_wr (ec_wr w 162 (g : Int) (S.1 g - z)) 163 (b : Int) (S.2.1 b - z)) 161 (g : Int) (et_Mt M (g * 8 + b + 1) g : Int)) 162 i = (et_put g b z S).1 i := by
    intro i hi
    rw [ef_a_wr_o (by decide), ef_a_wr_o (by decide), ef_a_wr (n := 10) W0 rfl (by omega) (by omega), ec_tw_id (a := S.1 g - z) (by omega) (by omega)]
    show ef_u (ef_a w 162) (g : Int).toNat (S.1 g - z) i = ef_u S.1 g (S.1 g - z) i
    unfold ef_u
    rw [Int.toNat_natCast]
    split
    · rfl
    · exact b162 i hi
  have v163 : ∀ i, i < bn → ef_a (ec_wr (ec_wr (ec_wr w 162 (g : Int) (S.1 g - z)) 163 (b : Int) (S.2.1 b - z)) 161 (g : Int) (et_Mt M (g * 8 + b + 1) g : Int)) 163 i = (et_put g b z S).2.1 i := by
    intro i hi
    rw [ef_a_wr_o (by decide), ef_a_wr (n := 8) Wa rfl (by omega) (by omega), ec_tw_id (a := S.2.1 b - z) (by omega) (by omega), ef_a_wr_o (by decide)]
    show ef_u (ef_a w 163) (b : Int).toNat (S.2.1 b - z) i = ef_u S.2.1 b (S.2.1 b - z) i
    unfold ef_u
    rw [Int.toNat_natCast]
    split
    · rfl
    · exact b163 i hi
  by_cases c0 : z ≤ 0
  · have j := eg220_151_110_0 k0
    rw [tz, t0] at j
    have k1 := (eg220_151_166_0 (j c0).2).2
    refine ⟨_, Wc, ef_s_mono s1 (by decide), fun f _ => ef_s_f s1 (by decide) f, ⟨⟨?_, ?_, ?_⟩, v161, v162, v163, ?_⟩, k1⟩
    · rw [ef_s_a s1 (by decide)]
      exact d4
    · rw [ef_s_a s1 (by decide)]
      exact d5
    · rw [ef_s_f s1 (by decide)]
      show ec_fd w 151 19 = ((if 0 < z then S.2.2.2.1 + 1 else S.2.2.2.1 : Nat) : Int)
      rw [if_neg (by omega)]
      exact f19
    · show ∀ i, i < 3 * (if 0 < z then S.2.2.2.1 + 1 else S.2.2.2.1) → _ = (if 0 < z then et_row S.2.2.2.2 S.2.2.2.1 (g : Int) (b : Int) z else S.2.2.2.2) i
      rw [if_neg (by omega), if_neg (by omega), ef_s_a s1 (by decide)]
      exact b164
  · have j := eg220_151_110_1 k0
    rw [tz, t0] at j
    have k1 := (eg220_151_166_0 (j (by omega)).2).2
    have k80 : S.2.2.2.1 < 80 := by omega
    have y0 : ec_fd (ec_wr (ec_wr (ec_wr w 162 (g : Int) (S.1 g - z)) 163 (b : Int) (S.2.1 b - z)) 161 (g : Int) (et_Mt M (g * 8 + b + 1) g : Int)) 151 19 = (S.2.2.2.1 : Int) := by
      rw [ef_s_f s1 (by decide)]
      exact f19
    have i0 : ec_tw (3 * (S.2.2.2.1 : Int)) = ((3 * S.2.2.2.1 : Nat) : Int) := by
      rw [ec_tw_id (by omega) (by omega)]
      omega
    have i1 : ec_tw (3 * (S.2.2.2.1 : Int) + 1) = ((3 * S.2.2.2.1 + 1 : Nat) : Int) := by
      rw [ec_tw_id (by omega) (by omega)]
      omega
    have i2 : ec_tw (3 * (S.2.2.2.1 : Int) + 2) = ((3 * S.2.2.2.1 + 2 : Nat) : Int) := by
      rw [ec_tw_id (by omega) (by omega)]
      omega
    obtain ⟨y, hy⟩ : ∃ y : px_W, y = ec_wr (ec_wr (ec_wr w 162 (g : Int) (S.1 g - z)) 163 (b : Int) (S.2.1 b - z)) 161 (g : Int) (et_Mt M (g * 8 + b + 1) g : Int) := ⟨_, rfl⟩
    rw [← hy] at k1 y0 Wc s1 v161 v162 v163
    have o1 : ∀ i x, ec_fd (ec_wr y 164 i x) 151 19 = (S.2.2.2.1 : Int) := fun i x => (ec_fd_wr_o (by decide)).trans y0
    have o2 : ∀ i x i' x', ec_fd (ec_wr (ec_wr y 164 i x) 164 i' x') 151 19 = (S.2.2.2.1 : Int) := fun i x i' x' => (ec_fd_wr_o (by decide)).trans (o1 i x)
    have o3 : ∀ i x i' x' i'' x'', ec_fd (ec_wr (ec_wr (ec_wr y 164 i x) 164 i' x') 164 i'' x'') 151 19 = (S.2.2.2.1 : Int) := fun i x i' x' i'' x'' => (ec_fd_wr_o (by decide)).trans (o2 i x i' x')
    rw [o3, o2, o1, y0, i0, i1, i2] at k1
    have V1 : ec_W hb_A (ec_wr y 164 ((3 * S.2.2.2.1 : Nat) : Int) (g : Int)) := ec_W_wr Wc
    have V2 : ec_W hb_A (ec_wr (ec_wr y 164 ((3 * S.2.2.2.1 : Nat) : Int) (g : Int)) 164 ((3 * S.2.2.2.1 + 1 : Nat) : Int) (b : Int)) := ec_W_wr V1
    have V3 : ec_W hb_A (ec_wr (ec_wr (ec_wr y 164 ((3 * S.2.2.2.1 : Nat) : Int) (g : Int)) 164 ((3 * S.2.2.2.1 + 1 : Nat) : Int) (b : Int)) 164 ((3 * S.2.2.2.1 + 2 : Nat) : Int) z) := ec_W_wr V2
    have s2 : ef_s [151, 164] y (ec_pf (ec_wr (ec_wr (ec_wr y 164 ((3 * S.2.2.2.1 : Nat) : Int) (g : Int)) 164 ((3 * S.2.2.2.1 + 1 : Nat) : Int) (b : Int)) 164 ((3 * S.2.2.2.1 + 2 : Nat) : Int) z) 151 19 ((S.2.2.2.1 : Int) + 1)) := ef_s_trans (ef_s_trans (ef_s_trans (ef_s_wr (by decide)) (ef_s_wr (by decide))) (ef_s_wr (by decide))) (ef_s_pf (by decide))
    have ff : ∀ f, ec_fd (ec_pf (ec_wr (ec_wr (ec_wr y 164 ((3 * S.2.2.2.1 : Nat) : Int) (g : Int)) 164 ((3 * S.2.2.2.1 + 1 : Nat) : Int) (b : Int)) 164 ((3 * S.2.2.2.1 + 2 : Nat) : Int) z) 151 19 ((S.2.2.2.1 : Int) + 1)) 151 f = if f = 19 then (S.2.2.2.1 : Int) + 1 else ec_fd w 151 f := by
      intro f
      rw [ec_fd_pf (k := 151) (f := 19) V3 rfl (by decide), ec_tw_id (a := (S.2.2.2.1 : Int) + 1) (by omega) (by omega), ec_fd_wr_o (by decide), ec_fd_wr_o (by decide), ec_fd_wr_o (by decide), ef_s_f s1 (by decide)]
    refine ⟨_, ec_W_pf (k := 151) (f := 19) rfl rfl V3, ef_s_trans (ef_s_mono s1 (by decide)) (ef_s_mono s2 (by decide)), fun f hf => by rw [ff f, if_neg hf], ⟨⟨?_, ?_, ?_⟩, fun i hi => ?_, fun i hi => ?_, fun i hi => ?_, fun i hi => ?_⟩, k1⟩
    · rw [ef_s_a s2 (by decide), ef_s_a s1 (by decide)]
      exact d4
    · rw [ef_s_a s2 (by decide), ef_s_a s1 (by decide)]
      exact d5
    · rw [ff 19, if_pos rfl]
      show (S.2.2.2.1 : Int) + 1 = ((if 0 < z then S.2.2.2.1 + 1 else S.2.2.2.1 : Nat) : Int)
      rw [if_pos (by omega)]
      rfl
    · rw [ef_s_a s2 (by decide)]
      exact v161 i hi
    · rw [ef_s_a s2 (by decide)]
      exact v162 i hi
    · rw [ef_s_a s2 (by decide)]
      exact v163 i hi
    · have hi' : i < 3 * (if 0 < z then S.2.2.2.1 + 1 else S.2.2.2.1) := hi
      rw [if_pos (by omega)] at hi'
      show _ = (if 0 < z then et_row S.2.2.2.2 S.2.2.2.1 (g : Int) (b : Int) z else S.2.2.2.2) i
      rw [if_pos (by omega), ef_s_a (ef_s_pf (S := [151]) List.mem_cons_self) (by decide), ef_a_wr (n := 240) V2 rfl (by omega) (by omega), ef_a_wr (n := 240) V1 rfl (by omega) (by omega), ef_a_wr (n := 240) Wc rfl (by omega) (by omega), tz, eg, eb]
      unfold ef_u et_row
      rw [Int.toNat_natCast, Int.toNat_natCast, Int.toNat_natCast]
      by_cases p0 : i = 3 * S.2.2.2.1
      · rw [if_neg (by omega), if_neg (by omega), if_pos p0, if_pos p0]
      · by_cases p1 : i = 3 * S.2.2.2.1 + 1
        · rw [if_neg (by omega), if_pos p1, if_neg p0, if_pos p1]
        · by_cases p2 : i = 3 * S.2.2.2.1 + 2
          · rw [if_pos p2, if_neg p0, if_neg p1, if_pos p2]
          · rw [if_neg p2, if_neg p1, if_neg p0, if_neg p0, if_neg p1, if_neg p2, ef_s_a s1 (by decide)]
            exact b164 i (by omega)
theorem et_B_0 {g b t : Nat} {S : et_S} {w : px_W} (h : et_B M bn gn (et_put g b 0 S) t w) : et_B M bn gn S t w := by
  obtain ⟨⟨d4, d5, f19⟩, b161, b162, b163, b164⟩ := h
  have e0 : (if (0 : Int) < 0 then S.2.2.2.1 + 1 else S.2.2.2.1) = S.2.2.2.1 := if_neg (by decide)
  have e1 : (if (0 : Int) < 0 then et_row S.2.2.2.2 S.2.2.2.1 (g : Int) (b : Int) 0 else S.2.2.2.2) = S.2.2.2.2 := if_neg (by decide)
  have f19' : ec_fd w 151 19 = ((if (0 : Int) < 0 then S.2.2.2.1 + 1 else S.2.2.2.1 : Nat) : Int) := f19
  have b164' : ∀ i, i < 3 * (if (0 : Int) < 0 then S.2.2.2.1 + 1 else S.2.2.2.1) → ef_a w 164 i = (if (0 : Int) < 0 then et_row S.2.2.2.2 S.2.2.2.1 (g : Int) (b : Int) 0 else S.2.2.2.2) i := b164
  rw [e0] at f19' b164'
  rw [e1] at b164'
  refine ⟨⟨d4, d5, f19'⟩, b161, fun i hi => ?_, fun i hi => ?_, b164'⟩
  · have : ef_a w 162 i = ef_u S.1 g (S.1 g - 0) i := b162 i hi
    rw [this]
    unfold ef_u
    split
    · rename_i e
      rw [e]
      omega
    · rfl
  · have : ef_a w 163 i = ef_u S.2.1 b (S.2.1 b - 0) i := b163 i hi
    rw [this]
    unfold ef_u
    split
    · rename_i e
      rw [e]
      omega
    · rfl
theorem ew_sb32 {g : Nat} {S0 : et_S} (hM : ∀ g, M g < 2 ^ bn) (h8 : bn ≤ 8) (h10 : gn ≤ 10) (hg : g < gn) (hI : et_I M bn gn S0 (g * 8)) : ∀ (k n b : Nat) (w : px_W) (r : Option Value × px_W), b + k = bn → ec_W hb_A w → et_B M bn gn (et_sb M bn gn g b S0) (g * 8 + b) w → ec_E hb_X n 220 32 [(0, .inr (.inl 215)), (1, .inl (et_sb M bn gn g b S0).2.2.1), (2, .inl (g : Int)), (3, .inl (b : Int))] [] w r → ∃ w' : px_W, ec_W hb_A w' ∧ ef_s et_SB w w' ∧ (∀ f, f ≠ 19 → ec_fd w' 151 f = ec_fd w 151 f) ∧ et_B M bn gn (et_sb M bn gn g bn S0) (g * 8 + bn) w' ∧ ec_E hb_X n 220 20 [(0, .inr (.inl 215)), (1, .inl (et_sb M bn gn g bn S0).2.2.1), (2, .inl ((g : Int) + 1))] [] w' r := by
  intro k
  induction k with
  | zero =>
    intro n b w r hb hW hB h
    have eb : b = bn := by omega
    rw [eb] at hB h
    have k0 := eg220_151_32_0 h
    have e5 : ec_tw 5 = ((5 : Nat) : Int) := rfl
    rw [e5, ef_rd, hB.1.2.1] at k0
    exact ⟨w, hW, ef_s_refl, fun _ _ => rfl, hB, (k0 (Int.le_refl _)).2⟩
  | succ k ih =>
    intro n b w r hb hW hB h
    have hIb := et_I_sb hM h8 hg hI b (by omega)
    have p8 := eq_pw h8
    have hM' : ∀ g, M g < 256 := fun g => Nat.lt_of_lt_of_le (hM g) p8
    have eg : ec_tw (g : Int) = g := ec_twn (by omega)
    have eb : ec_tw (b : Int) = b := ec_twn (by omega)
    have t1 : ec_tw 1 = 1 := rfl
    have e5 : ec_tw 5 = ((5 : Nat) : Int) := rfl
    have ml : et_Mt M (g * 8 + b) g < 256 := eq_mk_lt 8
    have j1 := eg220_151_32_1 h
    have j2 := eg220_151_32_2 h
    rw [eb, e5, ef_rd w 152 5, hB.1.2.1, ec_twn (n := bn) (by omega), eg, ef_rd w 161 g, hB.2.1 g hg, ec_bitT (by omega) (by omega), t1] at j1 j2
    have qe : Nat.testBit (et_Mt M (g * 8 + b) g) b = Nat.testBit (M g) b := by
      rw [et_Mt_bit (hM' g), decide_eq_true (Nat.le_refl _), Bool.and_true]
    rw [qe] at j1 j2
    have es : et_sb M bn gn g (b + 1) S0 = et_st M bn gn g b (et_sb M bn gn g b S0) := rfl
    by_cases q : Nat.testBit (M g) b = true
    · obtain ⟨_, v1, w1, a1, a2⟩ := j2 (by omega) (by rw [if_pos q])
      obtain ⟨w1', e1, W1, s1, B1⟩ := ew_mostIn hM h8 h10 hg (by omega) q hIb hB a1
      injection e1 with e1 i1
      subst i1
      have a3 := (eg220_151_63_0 (a2 _ e1 W1)).2
      have no := et_n_ok (Se := (et_sb M bn gn g b S0).2.1) (p := (et_sb M bn gn g b S0).1) (gn := gn) (L := (et_sb M bn gn g b S0).2.2.1) (g := g) hM (by omega : b < bn)
      have n0 := et_n_0 (M := M) (gn := gn) (bn := bn) (hIb.2.1 g hg).1 (hIb.2.2.1 b (by omega)).1 hIb.1.1
      obtain ⟨w2, W2, s2, f2, B2, h3⟩ := ew_b67 hM h8 h10 hg (by omega) hIb n0 no.1 no.2.1 B1 a3
      have e3 : et_put g b (et_n (et_sb M bn gn g b S0).2.1 (et_sb M bn gn g b S0).1 M bn gn (et_sb M bn gn g b S0).2.2.1 g b) (et_sb M bn gn g b S0) = et_sb M bn gn g (b + 1) S0 := by
        rw [es]
        unfold et_st
        rw [if_pos q]
      have e4 : (et_sb M bn gn g b S0).2.2.1 - et_n (et_sb M bn gn g b S0).2.1 (et_sb M bn gn g b S0).1 M bn gn (et_sb M bn gn g b S0).2.2.1 g b = (et_sb M bn gn g (b + 1) S0).2.2.1 := by
        rw [← e3]
        rfl
      rw [e3] at B2
      rw [e4] at h3
      obtain ⟨w', W', s', f', B', h'⟩ := ih n (b + 1) w2 r (by omega) W2 B2 h3
      exact ⟨w', W', ef_s_trans (ef_s_mono s1 (by decide)) (ef_s_trans s2 s'), fun f hf => (f' f hf).trans ((f2 f hf).trans (ef_s_f s1 (by decide) f)), B', h'⟩
    · have a3 := (j1 (by omega) (by rw [if_neg q]; decide)).2
      obtain ⟨w2, W2, s2, f2, B2, h3⟩ := ew_b67 hM h8 h10 hg (by omega) hIb (Int.le_refl _) (hIb.2.1 g hg).1 (hIb.2.2.1 b (by omega)).1 hB a3
      have e3 : et_sb M bn gn g (b + 1) S0 = et_sb M bn gn g b S0 := by
        rw [es]
        unfold et_st
        rw [if_neg q]
      rw [Int.sub_zero] at h3
      have B3 := et_B_0 B2
      rw [← e3] at B3 h3
      obtain ⟨w', W', s', f', B', h'⟩ := ih n (b + 1) w2 r (by omega) W2 B3 h3
      exact ⟨w', W', ef_s_trans s2 s', fun f hf => (f' f hf).trans (f2 f hf), B', h'⟩
theorem ew_sb20 {S0 : et_S} (hM : ∀ g, M g < 2 ^ bn) (h8 : bn ≤ 8) (h10 : gn ≤ 10) (hI : et_I M bn gn S0 0) : ∀ (k n g : Nat) (w : px_W) (r : Option Value × px_W), g + k = gn → ec_W hb_A w → et_B M bn gn (et_sg M bn gn g S0) (g * 8) w → ec_E hb_X n 220 20 [(0, .inr (.inl 215)), (1, .inl (et_sg M bn gn g S0).2.2.1), (2, .inl (g : Int))] [] w r → ∃ w' : px_W, r = (ec_R ((et_sg M bn gn gn S0).2.2.2.1 : Int), w') ∧ ec_W hb_A w' ∧ ef_s et_SB w w' ∧ (∀ f, f ≠ 19 → ec_fd w' 151 f = ec_fd w 151 f) ∧ et_B M bn gn (et_sg M bn gn gn S0) (gn * 8) w' := by
  have p8 := eq_pw h8
  have hM' : ∀ g, M g < 256 := fun g => Nat.lt_of_lt_of_le (hM g) p8
  intro k
  induction k with
  | zero =>
    intro n g w r hg hW hB h
    have e : g = gn := by omega
    rw [e] at hB h
    have k0 := eg220_151_20_0 h
    have e4 : ec_tw 4 = ((4 : Nat) : Int) := rfl
    rw [e4, ef_rd, hB.1.1, hB.1.2.2] at k0
    obtain ⟨_, hr, _⟩ := k0 (Int.le_refl _)
    exact ⟨w, hr, hW, ef_s_refl, fun _ _ => rfl, hB⟩
  | succ k ih =>
    intro n g w r hg hW hB h
    have eg : ec_tw (g : Int) = g := ec_twn (by omega)
    have e4 : ec_tw 4 = ((4 : Nat) : Int) := rfl
    have k1 := eg220_151_20_1 h
    rw [eg, e4, ef_rd, hB.1.1, ec_twn (n := gn) (by omega)] at k1
    have h2 := (k1 (by omega)).2
    obtain ⟨w1, W1, s1, f1, B1, h3⟩ := ew_sb32 (S0 := et_sg M bn gn g S0) hM h8 h10 (by omega) (et_I_sg hM h8 hI g (by omega)) bn n 0 w r (by omega) hW hB h2
    have up : et_Mt M ((g + 1) * 8) = et_Mt M (g * 8 + bn) := by
      have e : (g + 1) * 8 = g * 8 + bn + (8 - bn) := by omega
      rw [e]
      refine et_Mt_up hM' (8 - bn) (fun i i1 i2 => ?_)
      have e1 : i / 8 = g := by omega
      rw [e1]
      have p2 : 2 ^ bn ≤ 2 ^ (i % 8) := Nat.pow_le_pow_right (by decide) (by omega)
      exact Nat.testBit_lt_two_pow (Nat.lt_of_lt_of_le (hM g) p2)
    have B2 : et_B M bn gn (et_sg M bn gn (g + 1) S0) ((g + 1) * 8) w1 := by
      obtain ⟨d, b161, rest⟩ := B1
      exact ⟨d, by rw [up]; exact b161, rest⟩
    obtain ⟨w', hr, W', s', f', B'⟩ := ih n (g + 1) w1 r (by omega) W1 B2 h3
    exact ⟨w', hr, W', ef_s_trans s1 s', fun f hf => (f' f hf).trans (f1 f hf), B'⟩
end ET6

end

noncomputable section
/-! WHO CAN WHICH BOAT: the class -/
theorem ec_shl1 : ∀ b : Nat, b < 11 → ec_shl 1 (b : Int) = ((2 ^ b : Nat) : Int) := by decide +kernel
theorem ec_or1 : ∀ b : Nat, b < 8 → ∀ x : Nat, x < 2 ^ b → ec_or (x : Int) ((2 ^ b : Nat) : Int) = ((x + 2 ^ b : Nat) : Int) := by decide +kernel
theorem ec_or_in (a b : Int) : -2147483648 ≤ ec_or a b ∧ ec_or a b ≤ 2147483647 := by
  have h1 := Int32.le_toInt (Int32.ofInt a ||| Int32.ofInt b)
  have h2 := Int32.toInt_lt (Int32.ofInt a ||| Int32.ofInt b)
  unfold ec_or
  omega
theorem ec_or_0 (a : Int) : ec_or a 0 = ec_tw a := by
  show (Int32.ofInt a ||| 0).toInt = (Int32.ofInt a).toInt
  rw [Int32.or_zero]
/-- the seats of some boats -/
def ef_ss (Se : Nat → Int) : Nat → Nat → Int
  | 0, _ => 0
  | k + 1, x => ef_ss Se k x + (if Nat.testBit x k then Se k else 0)
theorem ef_ss_add {Se : Nat → Int} {b : Nat} : ∀ (k x : Nat), k ≤ b → ef_ss Se k (x + 2 ^ b) = ef_ss Se k x
  | 0, _, _ => rfl
  | k + 1, x, h => by
    show ef_ss Se k (x + 2 ^ b) + _ = ef_ss Se k x + _
    rw [ef_ss_add k x (by omega), Nat.add_comm x, Nat.testBit_two_pow_add_gt (by omega)]
theorem ef_ss_lt {Se : Nat → Int} {b x : Nat} (h : x < 2 ^ b) : ∀ k, ef_ss Se (b + k) x = ef_ss Se b x
  | 0 => rfl
  | k + 1 => by
    show ef_ss Se (b + k) x + (if Nat.testBit x (b + k) then Se (b + k) else 0) = ef_ss Se b x
    rw [ef_ss_lt h k, Nat.testBit_lt_two_pow (Nat.lt_of_lt_of_le h (Nat.pow_le_pow_right (by decide) (by omega)))]
    simp
def ef_cb (E L : Nat → Int) : Nat → Nat → Int → Int
  | 0, _, acc => acc
  | k + 1, b, acc => ef_cb E L k (b + 1) (if E b ≤ L b then ec_or acc (ec_shl 1 (b : Int)) else acc)
/-- how early a GROUP can be at a BOAT -/
def ef_er (RF : Nat → Nat → Int) (Rd Kd : Nat → Int) (Bp : Nat → Nat) (g b : Nat) : Int := if Rd b = 1 ∨ Kd g ≠ 2 then RF g (Bp b) else 1000000
def ef_rf (A B : Nat → Nat) (Mi Ti : Nat → Int) (c : Nat) (Pl : Nat → Nat) (To : Nat → Int) (g : Nat) : Nat → Int := ef_it A B Mi Ti c 8 (ef_f0 (Pl g) (To g))
def ef_S8 : List Nat := [28, 126, 128, 130, 131, 132, 133, 134]
section EW3
variable {c gn bn : Nat} {A B Pl Bp : Nat → Nat} {Mi Ti To : Nat → Int} {w0 : px_W}
theorem ew_erb {g : Nat} {RF : Nat → Nat → Int} (hg : g < 10) (hbn : bn ≤ 8) (hB : ∀ b, b < bn → ef_a w0 25 b = (Bp b : Int) ∧ Bp b < 8) : ∀ (k n b : Nat) (w : px_W) (r : Option Value × px_W), ef_s ef_S8 w0 w → ef_a w 28 = RF g → (∀ p, -2147483648 ≤ RF g p ∧ RF g p ≤ 2147483647) → ec_fd w 126 6 = (bn : Int) → b + k = bn → ec_E hb_X n 98 66 [(0, .inr (.inl 190)), (1, .inr (.inl 79)), (2, .inl (g : Int)), (3, .inl (b : Int))] [] w r → ∃ w' : px_W, ec_E hb_X n 98 51 [(0, .inr (.inl 190)), (1, .inr (.inl 79)), (2, .inl ((g : Int) + 1))] [] w' r ∧ ef_s [133] w w' ∧ ∀ p, ef_a w' 133 p = if g * 8 + b ≤ p ∧ p < g * 8 + bn then ef_er RF (ef_a w0 27) (ef_a w0 21) Bp g (p - g * 8) else ef_a w 133 p := by
  intro k
  induction k with
  | zero =>
    intro n b w r hs h28 hrf h6 hbk h
    have hb : b = bn := by omega
    subst hb
    obtain ⟨_, h2⟩ := eg98_126_66_0 h (by rw [h6]; omega)
    exact ⟨w, h2, ef_s_refl, fun p => by rw [if_neg (by omega)]⟩
  | succ k ih =>
    intro n b w r hs h28 hrf h6 hbk h
    have eb : ec_tw (b : Int) = b := ec_twn (by omega)
    have eg : ec_tw (g : Int) = g := ec_twn (by omega)
    have t0 : ec_tw 0 = 0 := rfl
    have t1 : ec_tw 1 = 1 := rfl
    have t2 : ec_tw 2 = 2 := rfl
    have tb : ec_tw (bn : Int) = bn := ec_twn (by omega)
    have tx : ec_tw ((g : Int) * 8 + (b : Int)) = ((g * 8 + b : Nat) : Int) := by rw [ec_tw_id (by omega) (by omega)]; omega
    have e27 : ef_a w 27 = ef_a w0 27 := ef_s_a hs (by decide)
    have e21 : ef_a w 21 = ef_a w0 21 := ef_s_a hs (by decide)
    have e25 : ef_a w 25 = ef_a w0 25 := ef_s_a hs (by decide)
    obtain ⟨b1, b2⟩ := hB b (by omega)
    have fin : ∀ z : Int, -2147483648 ≤ z → z ≤ 2147483647 → z = ef_er RF (ef_a w0 27) (ef_a w0 21) Bp g b → ec_E hb_X n 98 66 [(0, .inr (.inl 190)), (1, .inr (.inl 79)), (2, .inl (g : Int)), (3, .inl ((b : Int) + 1))] [] (ec_wr w 133 ((g * 8 + b : Nat) : Int) z) r → ∃ w' : px_W, ec_E hb_X n 98 51 [(0, .inr (.inl 190)), (1, .inr (.inl 79)), (2, .inl ((g : Int) + 1))] [] w' r ∧ ef_s [133] w w' ∧ ∀ p, ef_a w' 133 p = if g * 8 + b ≤ p ∧ p < g * 8 + bn then ef_er RF (ef_a w0 27) (ef_a w0 21) Bp g (p - g * 8) else ef_a w 133 p := by
      intro z z1 z2 hz h1
      obtain ⟨w', h2, s2, f2⟩ := ih n (b + 1) _ r (ef_s_trans hs (ef_s_wr (by decide))) (by rw [ef_a_wr_o (by decide)]; exact h28) hrf (by rw [ec_fd_wr_o (by decide)]; exact h6) (by omega) h1
      refine ⟨w', h2, ef_s_trans (ef_s_wr List.mem_cons_self) s2, fun p => ?_⟩
      rw [f2 p, ef_a_wr (n := 80) h.1 rfl (by omega) (by omega), ec_tw_id z1 z2]
      unfold ef_u
      by_cases q1 : g * 8 + (b + 1) ≤ p ∧ p < g * 8 + bn
      · rw [if_pos q1, if_pos (by omega)]
      · rw [if_neg q1]
        by_cases q2 : p = g * 8 + b
        · rw [if_pos (by omega), if_pos (by omega), hz, q2, Nat.add_sub_cancel_left]
        · rw [if_neg (by omega), if_neg (by omega)]
    have k0 := fun x4 => @eg98_126_101_0 n w r g b x4
    have k1 := fun x4 => @eg98_126_101_1 n w r g b x4
    have j1 := eg98_126_66_1 h
    have j2 := eg98_126_66_2 h
    have j3 := eg98_126_66_3 h
    rw [eb, h6, tb, ef_rd, ef_tw, e27, t1] at j1 j2 j3
    rw [eg, ef_rd, ef_tw, e21, t2] at j2 j3
    by_cases c1 : ef_a w0 27 b = 1
    · have h4 := (j1 (by omega) c1).2
      have h5 := (k1 1 h4 (by decide)).2
      rw [tx, eb, ef_rd, e25, b1, ec_twn (by omega), ef_rd, h28] at h5
      exact fin _ (hrf _).1 (hrf _).2 (by unfold ef_er; rw [if_pos (.inl c1)]) h5
    · by_cases c2 : ef_a w0 21 g = 2
      · have h4 := (j2 (by omega) c1 c2).2
        have h5 := (k0 0 h4 rfl).2
        rw [tx] at h5
        exact fin 1000000 (by omega) (by omega) (by unfold ef_er; rw [if_neg (fun e => e.elim c1 (fun e2 => e2 c2))]) h5
      · have h4 := (j3 (by omega) c1 c2).2
        have h5 := (k1 1 h4 (by decide)).2
        rw [tx, eb, ef_rd, e25, b1, ec_twn (by omega), ef_rd, h28] at h5
        exact fin _ (hrf _).1 (hrf _).2 (by unfold ef_er; rw [if_pos (.inr c2)]) h5
theorem ef_rf_in (A B : Nat → Nat) (Mi Ti : Nat → Int) (c : Nat) (Pl : Nat → Nat) (To : Nat → Int) (g : Nat) {w : px_W} (h : ef_a w 28 = ef_rf A B Mi Ti c Pl To g) (p : Nat) : -2147483648 ≤ ef_rf A B Mi Ti c Pl To g p ∧ ef_rf A B Mi Ti c Pl To g p ≤ 2147483647 := by
  rw [← h]
  exact ef_in w 28 p
theorem ew_erg (hD : ef_D c A B Mi Ti) (hA : ef_DA w0 c A B Mi Ti) (hG : ef_G gn Pl To) (hGA : ef_GA w0 gn Pl To) (hbn : bn ≤ 8) (hB : ∀ b, b < bn → ef_a w0 25 b = (Bp b : Int) ∧ Bp b < 8) : ∀ (k n g : Nat) (w : px_W) (r : Option Value × px_W), ef_s ef_S8 w0 w → ec_fd w 126 5 = (gn : Int) → ec_fd w 126 6 = (bn : Int) → g + k = gn → ec_E hb_X n 98 51 [(0, .inr (.inl 190)), (1, .inr (.inl 79)), (2, .inl (g : Int))] [] w r → ∃ w' : px_W, ec_E hb_X n 98 147 [(0, .inr (.inl 190)), (1, .inr (.inl 79)), (2, .inl 0)] [] w' r ∧ ef_s [28, 133] w w' ∧ (∀ p, p < g * 8 → ef_a w' 133 p = ef_a w 133 p) ∧ ∀ g' b, g ≤ g' → g' < gn → b < bn → ef_a w' 133 (g' * 8 + b) = ef_er (ef_rf A B Mi Ti c Pl To) (ef_a w0 27) (ef_a w0 21) Bp g' b := by
  intro k
  induction k with
  | zero =>
    intro n g w r hs h5 h6 hgk h
    have hg : g = gn := by omega
    subst hg
    obtain ⟨_, h2⟩ := eg98_126_51_0 h (by rw [h5]; omega)
    exact ⟨w, h2, ef_s_refl, fun _ _ => rfl, fun g' b q1 q2 _ => by omega⟩
  | succ k ih =>
    intro n g w r hs h5 h6 hgk h
    have hg10 := hG.1
    have eg : ec_tw (g : Int) = g := ec_twn (by omega)
    have tg : ec_tw (gn : Int) = gn := ec_twn (by omega)
    have j1 := eg98_126_51_1 h
    rw [eg, h5, tg] at j1
    obtain ⟨_, v, w1, a1, a2⟩ := j1 (by omega)
    have q0 := hG.2 g (by omega)
    have q1 := hGA.2 g (by omega)
    obtain ⟨w1', e1, W1, s1, f1⟩ := ew_spread hD (ef_DA_s hA hs (by decide)) (by omega) (by rw [ef_s_a hs (by decide)]; exact q1.1) q0.1 (by rw [ef_s_a hs (by decide)]; exact q1.2) q0.2.1 q0.2.2 a1
    injection e1 with e1 e1'
    subst e1'
    have h3 := (eg98_126_64_0 (a2 e1 W1)).2
    have hs1 : ef_s ef_S8 w0 w1 := ef_s_trans hs (ef_s_mono s1 (by decide))
    obtain ⟨w2, h4, s2, f2⟩ := ew_erb (RF := ef_rf A B Mi Ti c Pl To) (by omega) hbn hB bn n 0 w1 r hs1 f1 (ef_rf_in A B Mi Ti c Pl To g f1) (by rw [ef_s_f s1 (by decide)]; exact h6) (by omega) h3
    obtain ⟨w', h7, s3, f3, f4⟩ := ih n (g + 1) w2 r (ef_s_trans hs1 (ef_s_mono s2 (by decide))) (by rw [ef_s_f s2 (by decide), ef_s_f s1 (by decide)]; exact h5) (by rw [ef_s_f s2 (by decide), ef_s_f s1 (by decide)]; exact h6) (by omega) h4
    refine ⟨w', h7, ef_s_trans (ef_s_mono s1 (by decide)) (ef_s_trans (ef_s_mono s2 (by decide)) s3), fun p hp => ?_, fun g' b g1 g2 g3 => ?_⟩
    · rw [f3 p (by omega), f2 p, if_neg (by omega), congrFun (ef_s_a s1 (by decide)) p]
    · by_cases he : g' = g
      · subst he
        rw [f3 _ (by omega), f2 _, if_pos (by omega), Nat.add_sub_cancel_left]
      · exact f4 g' b (by omega) g2 g3
/-- sums of seats -/
theorem ef_ss_in {Se : Nat → Int} : ∀ (k x : Nat), (∀ j, j < k → 0 ≤ Se j ∧ Se j ≤ 65) → 0 ≤ ef_ss Se k x ∧ ef_ss Se k x ≤ 65 * (k : Int)
  | 0, _, _ => ⟨Int.le_refl _, by show (0 : Int) ≤ 65 * 0; omega⟩
  | k + 1, x, h => by
    have h1 := ef_ss_in k x (fun j hj => h j (by omega))
    have h2 := h k (by omega)
    show 0 ≤ ef_ss Se k x + (if Nat.testBit x k then Se k else 0) ∧ ef_ss Se k x + (if Nat.testBit x k then Se k else 0) ≤ 65 * ((k + 1 : Nat) : Int)
    split <;> omega
theorem ef_ss_top {Se : Nat → Int} {b x : Nat} (h : x < 2 ^ b) : ef_ss Se (b + 1) (x + 2 ^ b) = ef_ss Se b x + Se b := by
  show ef_ss Se b (x + 2 ^ b) + (if Nat.testBit (x + 2 ^ b) b then Se b else 0) = _
  rw [ef_ss_add b x (Nat.le_refl _), Nat.add_comm x, Nat.testBit_two_pow_add_eq, Nat.testBit_lt_two_pow h]
  rfl
theorem ew_ssx {b : Nat} (hb : b < 8) : ∀ (k n x : Nat) (w : px_W) (r : Option Value × px_W), x + k = 2 ^ b → (∀ y, y < 2 ^ b → ef_a w 134 y = ef_ss (ef_a w 131) b y) → (∀ j, j < b + 1 → 0 ≤ ef_a w 131 j ∧ ef_a w 131 j ≤ 65) → (∀ y, y < x → ef_a w 134 (y + 2 ^ b) = ef_ss (ef_a w 131) (b + 1) (y + 2 ^ b)) → ec_E hb_X n 98 157 [(0, .inr (.inl 190)), (1, .inr (.inl 79)), (2, .inl (b : Int)), (3, .inl (x : Int))] [] w r → ∃ w' : px_W, ec_E hb_X n 98 147 [(0, .inr (.inl 190)), (1, .inr (.inl 79)), (2, .inl ((b : Int) + 1))] [] w' r ∧ ef_s [134] w w' ∧ (∀ y, y < 2 ^ b → ef_a w' 134 y = ef_ss (ef_a w 131) b y) ∧ ∀ y, y < 2 ^ b → ef_a w' 134 (y + 2 ^ b) = ef_ss (ef_a w 131) (b + 1) (y + 2 ^ b) := by
  have hp : 2 ^ b ≤ 128 := Nat.pow_le_pow_right (n := 2) (by decide) (show b ≤ 7 by omega)
  have e1 := ec_shl1 b (by omega)
  have tp : ec_tw ((2 ^ b : Nat) : Int) = ((2 ^ b : Nat) : Int) := ec_twn (by omega)
  have tb : ec_tw (b : Int) = (b : Int) := ec_twn (by omega)
  intro k
  induction k with
  | zero =>
    intro n x w r hxk h1 h2 h3 h
    have hx : x = 2 ^ b := by omega
    have k0 := eg98_126_157_0 h
    rw [e1, tp, ec_twn (n := x) (by omega)] at k0
    exact ⟨w, (k0 (by omega)).2, ef_s_refl, h1, fun y hy => h3 y (by omega)⟩
  | succ k ih =>
    intro n x w r hxk h1 h2 h3 h
    have hx : x < 2 ^ b := by omega
    have k1 := eg98_126_157_1 h
    have tx : ec_tw (x : Int) = (x : Int) := ec_twn (by omega)
    have to : ec_tw ((x + 2 ^ b : Nat) : Int) = ((x + 2 ^ b : Nat) : Int) := ec_twn (by omega)
    rw [e1, tp, tx, ec_or1 b hb x hx, to, tb, ef_rd, ef_rd, h1 x hx] at k1
    have h4 := (k1 (by omega)).2
    have hz := ef_ss_in (Se := ef_a w 131) b x (fun j hj => h2 j (by omega))
    have hse := h2 b (by omega)
    have hw : ∀ p, ef_a (ec_wr w 134 ((x + 2 ^ b : Nat) : Int) (ef_ss (ef_a w 131) b x + ef_a w 131 b)) 134 p = if p = x + 2 ^ b then ef_ss (ef_a w 131) b x + ef_a w 131 b else ef_a w 134 p := by
      intro p
      rw [ef_a_wr (n := 256) h.1 rfl (by omega) (by omega), ec_tw_id (by omega) (by omega)]
      rfl
    have h131 : ef_a (ec_wr w 134 ((x + 2 ^ b : Nat) : Int) (ef_ss (ef_a w 131) b x + ef_a w 131 b)) 131 = ef_a w 131 := ef_a_wr_o (by decide)
    obtain ⟨w', h5, s5, f5, f6⟩ := ih n (x + 1) _ r (by omega) (fun y hy => by rw [hw y, if_neg (by omega), h131]; exact h1 y hy) (fun j hj => by rw [h131]; exact h2 j hj) (fun y hy => by
      rw [hw, h131]
      by_cases q : y = x
      · rw [if_pos (by omega), q, ef_ss_top hx]
      · rw [if_neg (by omega)]
        exact h3 y (by omega)) h4
    rw [h131] at f5 f6
    exact ⟨w', h5, ef_s_trans (ef_s_wr List.mem_cons_self) s5, f5, f6⟩
theorem ew_ssb (hbn : bn ≤ 8) : ∀ (k n b : Nat) (w : px_W) (r : Option Value × px_W), b + k = bn → ec_fd w 126 6 = (bn : Int) → (∀ y, y < 2 ^ b → ef_a w 134 y = ef_ss (ef_a w 131) b y) → (∀ j, j < bn → 0 ≤ ef_a w 131 j ∧ ef_a w 131 j ≤ 65) → ec_E hb_X n 98 147 [(0, .inr (.inl 190)), (1, .inr (.inl 79)), (2, .inl (b : Int))] [] w r → ∃ (w' w1 : px_W) (v : Option Value), ef_s [134] w w' ∧ (∀ y, y < 2 ^ bn → ef_a w' 134 y = ef_ss (ef_a w 131) bn y) ∧ ec_E hb_X n 99 0 [(0, .inr (.inl 190))] [] w' (v, w1) ∧ (v = none → ec_W hb_A w1 → r = (none, w1)) := by
  intro k
  induction k with
  | zero =>
    intro n b w r hbk h6 h1 h2 h
    have hb : b = bn := by omega
    subst hb
    obtain ⟨_, v, w1, a1, a2⟩ := eg98_126_147_0 h (by rw [h6]; omega)
    exact ⟨w, w1, v, ef_s_refl, h1, a1, fun q1 q2 => (eg98_126_203_0 (a2 q1 q2)).2.1⟩
  | succ k ih =>
    intro n b w r hbk h6 h1 h2 h
    have tb : ec_tw (b : Int) = (b : Int) := ec_twn (by omega)
    have tn : ec_tw (bn : Int) = (bn : Int) := ec_twn (by omega)
    have k1 := eg98_126_147_1 h
    rw [tb, h6, tn] at k1
    have h3 := (k1 (by omega)).2
    obtain ⟨w', h4, s4, f4, f5⟩ := ew_ssx (b := b) (by omega) (2 ^ b) n 0 w r (by omega) h1 (fun j hj => h2 j (by omega)) (fun y hy => absurd hy (Nat.not_lt_zero _)) h3
    have e131 : ef_a w' 131 = ef_a w 131 := ef_s_a s4 (by decide)
    obtain ⟨w2, w3, v, s5, f6, a1, a2⟩ := ih n (b + 1) w' r (by omega) (by rw [ef_s_f s4 (by decide)]; exact h6) (fun y hy => by
      rw [e131]
      by_cases q : y < 2 ^ b
      · rw [f4 y q, ef_ss_lt q 1]
      · have hy2 : y < 2 ^ b + 2 ^ b := by rw [← Nat.two_mul, ← Nat.pow_succ']; exact hy
        have := f5 (y - 2 ^ b) (by omega)
        rw [Nat.sub_add_cancel (by omega)] at this
        exact this) (by rw [e131]; exact h2) h4
    rw [e131] at f6
    exact ⟨w2, w3, v, ef_s_trans s4 s5, f6, a1, a2⟩
/-- only that sums are written there -/
theorem ew_ssfx {b : Nat} (hb : b < 8) : ∀ (k n x : Nat) (w : px_W) (r : Option Value × px_W), x + k = 2 ^ b → ec_E hb_X n 98 157 [(0, .inr (.inl 190)), (1, .inr (.inl 79)), (2, .inl (b : Int)), (3, .inl (x : Int))] [] w r → ∃ w' : px_W, ec_E hb_X n 98 147 [(0, .inr (.inl 190)), (1, .inr (.inl 79)), (2, .inl ((b : Int) + 1))] [] w' r ∧ ef_s [134] w w' := by
  have hp : 2 ^ b ≤ 128 := Nat.pow_le_pow_right (n := 2) (by decide) (show b ≤ 7 by omega)
  have e1 := ec_shl1 b (by omega)
  have tp : ec_tw ((2 ^ b : Nat) : Int) = ((2 ^ b : Nat) : Int) := ec_twn (by omega)
  intro k
  induction k with
  | zero =>
    intro n x w r hxk h
    have k0 := eg98_126_157_0 h
    rw [e1, tp, ec_twn (n := x) (by omega)] at k0
    exact ⟨w, (k0 (by omega)).2, ef_s_refl⟩
  | succ k ih =>
    intro n x w r hxk h
    have k1 := eg98_126_157_1 h
    rw [e1, tp, ec_twn (n := x) (by omega)] at k1
    obtain ⟨w', h5, s5⟩ := ih n (x + 1) _ r (by omega) (k1 (by omega)).2
    exact ⟨w', h5, ef_s_trans (ef_s_wr List.mem_cons_self) s5⟩
theorem ew_ssfb (hbn : bn ≤ 8) : ∀ (k n b : Nat) (w : px_W) (r : Option Value × px_W), b + k = bn → ec_fd w 126 6 = (bn : Int) → ec_E hb_X n 98 147 [(0, .inr (.inl 190)), (1, .inr (.inl 79)), (2, .inl (b : Int))] [] w r → ∃ (w' w1 : px_W) (v : Option Value), ef_s [134] w w' ∧ ec_E hb_X n 99 0 [(0, .inr (.inl 190))] [] w' (v, w1) ∧ (v = none → ec_W hb_A w1 → r = (none, w1)) := by
  intro k
  induction k with
  | zero =>
    intro n b w r hbk h6 h
    have hb : b = bn := by omega
    subst hb
    obtain ⟨_, v, w1, a1, a2⟩ := eg98_126_147_0 h (by rw [h6]; omega)
    exact ⟨w, w1, v, ef_s_refl, a1, fun q1 q2 => (eg98_126_203_0 (a2 q1 q2)).2.1⟩
  | succ k ih =>
    intro n b w r hbk h6 h
    have tb : ec_tw (b : Int) = (b : Int) := ec_twn (by omega)
    have tn : ec_tw (bn : Int) = (bn : Int) := ec_twn (by omega)
    have k1 := eg98_126_147_1 h
    rw [tb, h6, tn] at k1
    obtain ⟨w', h4, s4⟩ := ew_ssfx (b := b) (by omega) (2 ^ b) n 0 w r (by omega) (k1 (by omega)).2
    obtain ⟨w2, w3, v, s5, a1, a2⟩ := ih n (b + 1) w' r (by omega) (by rw [ef_s_f s4 (by decide)]; exact h6) h4
    exact ⟨w2, w3, v, ef_s_trans s4 s5, a1, a2⟩
/-- which boats -/
theorem ef_cb_in {E L : Nat → Int} : ∀ (k b : Nat) (acc : Int), -2147483648 ≤ acc ∧ acc ≤ 2147483647 → -2147483648 ≤ ef_cb E L k b acc ∧ ef_cb E L k b acc ≤ 2147483647
  | 0, _, _, h => h
  | k + 1, b, acc, h => by
    show -2147483648 ≤ ef_cb E L k (b + 1) (if E b ≤ L b then ec_or acc (ec_shl 1 (b : Int)) else acc) ∧ _
    refine ef_cb_in k (b + 1) _ ?_
    split
    · exact ec_or_in _ _
    · exact h
theorem ef_cb_cg {E E' L L' : Nat → Int} : ∀ (k b : Nat) (acc : Int), (∀ j, b ≤ j → j < b + k → (E j ≤ L j ↔ E' j ≤ L' j)) → ef_cb E L k b acc = ef_cb E' L' k b acc
  | 0, _, _, _ => rfl
  | k + 1, b, acc, h => by
    show ef_cb E L k (b + 1) (if E b ≤ L b then ec_or acc (ec_shl 1 (b : Int)) else acc) = ef_cb E' L' k (b + 1) (if E' b ≤ L' b then ec_or acc (ec_shl 1 (b : Int)) else acc)
    have hb := h b (by omega) (by omega)
    have e : (if E b ≤ L b then ec_or acc (ec_shl 1 (b : Int)) else acc) = (if E' b ≤ L' b then ec_or acc (ec_shl 1 (b : Int)) else acc) := by
      by_cases q : E b ≤ L b
      · rw [if_pos q, if_pos (hb.mp q)]
      · rw [if_neg q, if_neg (fun z => q (hb.mpr z))]
    rw [e]
    exact ef_cb_cg k (b + 1) _ (fun j h1 h2 => h j (by omega) (by omega))
theorem ew_fb14 {g : Nat} (hg : g < 10) (hbn : bn ≤ 8) : ∀ (k n b : Nat) (w : px_W) (acc : Int) (r : Option Value × px_W), b + k = bn → ec_fd w 126 6 = (bn : Int) → ec_E hb_X n 99 14 [(0, .inr (.inl 190)), (1, .inl (g : Int)), (2, .inl acc), (3, .inl (b : Int))] [] w r → ec_E hb_X n 99 2 [(0, .inr (.inl 190)), (1, .inl ((g : Int) + 1))] [] (ec_wr w 128 (g : Int) (ef_cb (fun j => ef_a w 133 (g * 8 + j)) (ef_a w 132) k b acc)) r := by
  have eg : ec_tw (g : Int) = g := ec_twn (by omega)
  intro k
  induction k with
  | zero =>
    intro n b w acc r hbk h6 h
    have hb : b = bn := by omega
    subst hb
    have k0 := (eg99_126_14_0 h (by rw [h6]; omega)).2
    rw [eg] at k0
    exact k0
  | succ k ih =>
    intro n b w acc r hbk h6 h
    have tb : ec_tw (b : Int) = (b : Int) := ec_twn (by omega)
    have tn : ec_tw (bn : Int) = (bn : Int) := ec_twn (by omega)
    have tx : ec_tw ((g : Int) * 8 + (b : Int)) = ((g * 8 + b : Nat) : Int) := by rw [ec_tw_id (by omega) (by omega)]; omega
    have k1 := eg99_126_14_1 h
    have k2 := eg99_126_14_2 h
    rw [tb, h6, tn, tx, ef_rd, ef_rd, ef_tw, ef_tw] at k1 k2
    show ec_E hb_X n 99 2 _ [] (ec_wr w 128 (g : Int) (ef_cb (fun j => ef_a w 133 (g * 8 + j)) (ef_a w 132) k (b + 1) (if ef_a w 133 (g * 8 + b) ≤ ef_a w 132 b then ec_or acc (ec_shl 1 (b : Int)) else acc))) r
    by_cases q : ef_a w 133 (g * 8 + b) ≤ ef_a w 132 b
    · rw [if_pos q]
      exact ih n (b + 1) w _ r (by omega) h6 (k2 (by omega) q).2
    · rw [if_neg q]
      exact ih n (b + 1) w _ r (by omega) h6 (k1 (by omega) (by omega)).2
theorem ew_fb2 (hgn : gn ≤ 10) (hbn : bn ≤ 8) : ∀ (k n g : Nat) (w : px_W) (r : Option Value × px_W), g + k = gn → ec_fd w 126 5 = (gn : Int) → ec_fd w 126 6 = (bn : Int) → ec_E hb_X n 99 2 [(0, .inr (.inl 190)), (1, .inl (g : Int))] [] w r → ∃ w' : px_W, r = (none, w') ∧ ec_W hb_A w' ∧ ef_s [128] w w' ∧ ∀ p, ef_a w' 128 p = if g ≤ p ∧ p < gn then ef_cb (fun j => ef_a w 133 (p * 8 + j)) (ef_a w 132) bn 0 0 else ef_a w 128 p := by
  intro k
  induction k with
  | zero =>
    intro n g w r hgk h5 h6 h
    have hg : g = gn := by omega
    subst hg
    obtain ⟨_, hr, hW⟩ := eg99_126_2_0 h (by rw [h5]; omega)
    exact ⟨w, hr, hW, ef_s_refl, fun p => by rw [if_neg (by omega)]⟩
  | succ k ih =>
    intro n g w r hgk h5 h6 h
    have eg : ec_tw (g : Int) = g := ec_twn (by omega)
    have tg : ec_tw (gn : Int) = gn := ec_twn (by omega)
    have k1 := eg99_126_2_1 h
    rw [eg, h5, tg] at k1
    have h2 := (k1 (by omega)).2
    have h3 := ew_fb14 (by omega) hbn bn n 0 w 0 r (by omega) h6 h2
    have hcb := ef_cb_in (E := fun j => ef_a w 133 (g * 8 + j)) (L := ef_a w 132) bn 0 0 (by omega)
    have e133 : ∀ z, ef_a (ec_wr w 128 (g : Int) z) 133 = ef_a w 133 := fun z => ef_a_wr_o (by decide)
    have e132 : ∀ z, ef_a (ec_wr w 128 (g : Int) z) 132 = ef_a w 132 := fun z => ef_a_wr_o (by decide)
    obtain ⟨w', hr, hW, s4, f4⟩ := ih n (g + 1) _ r (by omega) (by rw [ec_fd_wr_o (by decide)]; exact h5) (by rw [ec_fd_wr_o (by decide)]; exact h6) h3
    refine ⟨w', hr, hW, ef_s_trans (ef_s_wr List.mem_cons_self) s4, fun p => ?_⟩
    rw [f4 p, e133, e132, ef_a_wr (n := 10) h.1 rfl (by omega) (by omega), ec_tw_id hcb.1 hcb.2]
    unfold ef_u
    by_cases q1 : g + 1 ≤ p ∧ p < gn
    · rw [if_pos q1, if_pos (by omega)]
    · rw [if_neg q1]
      by_cases q2 : p = g
      · rw [if_pos (by omega), if_pos (by omega), q2]
      · rw [if_neg (by omega), if_neg (by omega)]
end EW3

end

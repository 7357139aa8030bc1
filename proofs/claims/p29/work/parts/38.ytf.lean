noncomputable section
/-! RULES: must on both sides -/
theorem ec_shlN1 {a : Nat} (h : a < 1073741824) : ec_shl (a : Int) 1 = ((2 * a : Nat) : Int) := by
  show (BitVec.ofInt 32 (a : Int) <<< ((Int32.ofInt ((1 : Nat) : Int) &&& 31).toBitVec.smod 32)).toInt = ((2 * a : Nat) : Int)
  rw [BitVec.shiftLeft_eq', ec_shr_k 1 (by decide), BitVec.ofInt_natCast]
  have e : (BitVec.ofNat 32 a <<< 1).toNat = 2 * a := by
    rw [BitVec.toNat_shiftLeft, BitVec.toNat_ofNat, Nat.mod_eq_of_lt (a := a) (by omega), Nat.shiftLeft_eq, Nat.mod_eq_of_lt (by omega)]
    omega
  rw [BitVec.toInt_eq_toNat_of_lt (by rw [e]; omega), e]
theorem ec_xorN {a b : Nat} (ha : a < 2147483648) (hb : b < 2147483648) : ec_xor (a : Int) (b : Int) = ((a ^^^ b : Nat) : Int) := by
  have e : Int32.ofInt (a : Int) ^^^ Int32.ofInt (b : Int) = Int32.ofInt ((a ^^^ b : Nat) : Int) := by
    apply Int32.toBitVec.inj
    show BitVec.ofInt 32 (a : Int) ^^^ BitVec.ofInt 32 (b : Int) = BitVec.ofInt 32 ((a ^^^ b : Nat) : Int)
    rw [BitVec.ofInt_natCast, BitVec.ofInt_natCast, BitVec.ofInt_natCast, BitVec.ofNat_xor]
  show (Int32.ofInt (a : Int) ^^^ Int32.ofInt (b : Int)).toInt = _
  rw [e]
  exact ec_twn (Nat.xor_lt_two_pow (n := 31) ha hb)
theorem em_or1 {y b : Nat} (hb : b ≤ 1) : 2 * y ||| b = 2 * y + b := by
  have h := Nat.two_pow_add_eq_or_of_lt (i := 1) (b := b) (by omega) y
  rw [Nat.pow_one] at h
  exact h.symm
theorem em_b2 (B : Nat) : B % 2 = 0 ∨ B % 2 = 1 := by omega
theorem em_sAnd {B : Nat} (h : B < 16777216) : ec_or (ec_shl (ec_shr (B : Int) 2) 1) (ec_and (ec_and (B : Int) (ec_shr (B : Int) 1)) 1) = ((B / 4 * 2 + B % 2 * (B / 2 % 2) : Nat) : Int) := by
  have e1 : ec_shr (B : Int) 2 = ((B / 4 : Nat) : Int) := ec_shrN (a := B) (k := 2) (by omega) (by decide)
  have e2 : ec_shr (B : Int) 1 = ((B / 2 : Nat) : Int) := ec_shrN (a := B) (k := 1) (by omega) (by decide)
  have n1 : B &&& (B / 2) ≤ B := Nat.and_le_left
  have e3 : ec_and (B : Int) ((B / 2 : Nat) : Int) = ((B &&& (B / 2) : Nat) : Int) := ec_andN (by omega)
  have e4 : ec_and ((B &&& (B / 2) : Nat) : Int) 1 = (((B &&& (B / 2)) &&& 1 : Nat) : Int) := ec_andN (b := 1) (by omega)
  have e5 : (B &&& (B / 2)) &&& 1 = B % 2 * (B / 2 % 2) := by
    have m := Nat.and_mod_two_pow (a := B) (b := B / 2) (n := 1)
    rw [Nat.pow_one] at m
    rw [Nat.and_one_is_mod, m]
    rcases em_b2 B with c | c <;> rcases em_b2 (B / 2) with d | d <;> rw [c, d] <;> rfl
  have b1 : B % 2 * (B / 2 % 2) ≤ 1 := by
    rcases em_b2 B with c | c <;> rcases em_b2 (B / 2) with d | d <;> rw [c, d] <;> decide
  rw [e1, e2, ec_shlN1 (by omega), e3, e4, e5, ec_orN (by omega) (by omega), em_or1 b1]
  congr 1
  omega
theorem em_sOr {B : Nat} (h : B < 16777216) : ec_or (ec_shl (ec_shr (B : Int) 2) 1) (ec_and (ec_or (B : Int) (ec_shr (B : Int) 1)) 1) = ((B / 4 * 2 + max (B % 2) (B / 2 % 2) : Nat) : Int) := by
  have e1 : ec_shr (B : Int) 2 = ((B / 4 : Nat) : Int) := ec_shrN (a := B) (k := 2) (by omega) (by decide)
  have e2 : ec_shr (B : Int) 1 = ((B / 2 : Nat) : Int) := ec_shrN (a := B) (k := 1) (by omega) (by decide)
  have n1 : B ||| (B / 2) < 2 ^ 24 := Nat.or_lt_two_pow (by omega) (by omega)
  have p24 : (2 : Nat) ^ 24 = 16777216 := rfl
  have e3 : ec_or (B : Int) ((B / 2 : Nat) : Int) = ((B ||| (B / 2) : Nat) : Int) := ec_orN (by omega) (by omega)
  have e4 : ec_and ((B ||| (B / 2) : Nat) : Int) 1 = (((B ||| (B / 2)) &&& 1 : Nat) : Int) := ec_andN (b := 1) (by omega)
  have e5 : (B ||| (B / 2)) &&& 1 = max (B % 2) (B / 2 % 2) := by
    have m := Nat.or_mod_two_pow (a := B) (b := B / 2) (n := 1)
    rw [Nat.pow_one] at m
    rw [Nat.and_one_is_mod, m]
    rcases em_b2 B with c | c <;> rcases em_b2 (B / 2) with d | d <;> rw [c, d] <;> rfl
  have b1 : max (B % 2) (B / 2 % 2) ≤ 1 := by omega
  rw [e1, e2, ec_shlN1 (by omega), e3, e4, e5, ec_orN (by omega) (by omega), em_or1 b1]
  congr 1
  omega
theorem em_sNot {B : Nat} (h : B < 16777216) : ec_xor (B : Int) 1 = ((B / 2 * 2 + (1 - B % 2) : Nat) : Int) := by
  have e1 : ec_xor (B : Int) 1 = ((B ^^^ 1 : Nat) : Int) := ec_xorN (b := 1) (by omega) (by decide)
  have m := Nat.xor_mod_two_pow (a := B) (b := 1) (n := 1)
  rw [Nat.pow_one] at m
  have d := Nat.xor_div_two (a := B) (b := 1)
  have d2 : B / 2 ^^^ 1 / 2 = B / 2 := Nat.xor_zero _
  rw [d2] at d
  have m2 : (B ^^^ 1) % 2 = 1 - B % 2 := by
    rw [m]
    rcases em_b2 B with c | c <;> rw [c] <;> rfl
  rw [e1]
  congr 1
  omega
theorem em_sT {B : Nat} (h : B < 16777216) : ec_or (ec_shl (B : Int) 1) 0 = ((2 * B : Nat) : Int) ∧ ec_or (ec_shl (B : Int) 1) 1 = ((2 * B + 1 : Nat) : Int) := by
  rw [ec_shlN1 (by omega)]
  refine ⟨?_, ?_⟩
  · rw [ec_or_0]
    exact ec_twn (by omega)
  · have e := ec_orN (a := 2 * B) (b := 1) (by omega) (by decide)
    rw [em_or1 (by decide)] at e
    exact e
/-! who HEARS, and when first -/
def em_hr (cf ct fr rg m : Int) : Bool := decide (cf ≤ m ∧ m ≤ ct) && decide (fr ≤ rg)
def em_fh (h : Nat → Bool) (cm : Nat → Int) : Nat → Option Int
  | 0 => none
  | c + 1 => if h c = true then (match em_fh h cm c with
    | none => some (cm c)
    | some m => if cm c < m then some (cm c) else some m) else em_fh h cm c
theorem em_fh_in {h : Nat → Bool} {cm : Nat → Int} : ∀ (c : Nat) (m : Int), (∀ x, x < c → 0 ≤ cm x ∧ cm x ≤ 999) → em_fh h cm c = some m → 0 ≤ m ∧ m ≤ 999
  | 0, m, _, e => by cases e
  | c + 1, m, hc, e => by
    have ec : em_fh h cm (c + 1) = if h c = true then (match em_fh h cm c with
      | none => some (cm c)
      | some m => if cm c < m then some (cm c) else some m) else em_fh h cm c := rfl
    rw [ec] at e
    have ih : ∀ m' : Int, em_fh h cm c = some m' → 0 ≤ m' ∧ m' ≤ 999 := fun m' => em_fh_in (h := h) c m' (fun x hx => hc x (by omega))
    by_cases q : h c = true
    · rw [if_pos q] at e
      cases e1 : em_fh h cm c with
      | none =>
        rw [e1] at e
        cases e
        exact hc c (by omega)
      | some m' =>
        rw [e1] at e
        dsimp only at e
        split at e
        · cases e
          exact hc c (by omega)
        · have e2 : m' = m := Option.some.inj e
          rw [← e2]
          exact ih m' e1
    · rw [if_neg q] at e
      exact ih m e
def em_oz (z : Int) : Option Int → Int
  | none => z
  | some m => m
section EM2
variable {n i k : Nat} {w w1 : px_W} {v : Option Value}
theorem ew_ishA {c : Nat} (hi : i < 6) (hc : c < 10) (h : ec_E hb_X n 92 0 [(0, .inr (.inl 93)), (1, .inl (i : Int)), (2, .inl (c : Int))] [] w (v, w1)) : w = w1 ∧ ec_W hb_A w1 ∧ v = ec_R (if em_hr (ef_a w 32 i) (ef_a w 33 i) (ef_a w 30 i) (ef_a w 34 i) (ef_a w 35 c) = true then 1 else 0) := by
  have ti : ec_tw (i : Int) = i := ec_twn (by omega)
  have tc : ec_tw (c : Int) = c := ec_twn (by omega)
  have l := eg92_29_0_0 h
  rw [ti, tc, ef_rd w 35 c, ef_rd w 32 i, ef_rd w 33 i] at l
  obtain ⟨_, u, y, a1, a2⟩ := l
  obtain ⟨e, W⟩ := ew_within a1
  rw [ef_tw w 35 c, ef_tw w 32 i, ef_tw w 33 i] at e
  injection e with e iy
  rw [iy] at a2
  have b := a2 _ e W
  have fin : ∀ z : Int, (v, w1) = (ec_R z, w) → ec_W hb_A w → w = w1 ∧ ec_W hb_A w1 ∧ v = ec_R z := by
    intro z hr hW
    injection hr with f1 f2
    rw [f2]
    exact ⟨rfl, hW, f1⟩
  unfold em_hr
  by_cases p : ef_a w 32 i ≤ ef_a w 35 c ∧ ef_a w 35 c ≤ ef_a w 33 i
  · rw [if_pos p] at b
    rw [decide_eq_true p, Bool.true_and]
    have k1 := eg92_29_21_1 b (by decide)
    have k2 := eg92_29_21_2 b (by decide)
    rw [ti, ef_rd w 34 i, ef_rd w 30 i, ef_tw w 34 i, ef_tw w 30 i] at k1 k2
    by_cases q : ef_a w 30 i ≤ ef_a w 34 i
    · rw [if_pos (decide_eq_true q)]
      obtain ⟨_, hr, hW⟩ := k2 q
      exact fin _ hr hW
    · rw [if_neg (fun z => q (of_decide_eq_true z))]
      obtain ⟨_, hr, hW⟩ := k1 (by omega)
      exact fin _ hr hW
  · rw [if_neg p] at b
    rw [decide_eq_false p, Bool.false_and, if_neg (by decide)]
    obtain ⟨_, hr, hW⟩ := eg92_29_21_0 b rfl
    exact fin _ hr hW
theorem ew_fhA (hi : i < 6) (hk : k ≤ 10) (h7 : ec_fd w 29 7 = (k : Int)) (hcm : ∀ c, c < k → 0 ≤ ef_a w 35 c ∧ ef_a w 35 c ≤ 999) (h : ec_E hb_X n 93 0 [(0, .inr (.inl 93)), (1, .inl (i : Int))] [] w (v, w1)) : w = w1 ∧ ec_W hb_A w1 ∧ v = ec_R (em_oz (-3) (em_fh (fun c => em_hr (ef_a w 32 i) (ef_a w 33 i) (ef_a w 30 i) (ef_a w 34 i) (ef_a w 35 c)) (ef_a w 35) k)) := by
  have tm : ec_tw (-3) = -3 := rfl
  have lp : ∀ (d c : Nat), c + d = k → ec_E hb_X n 93 5 [(0, .inr (.inl 93)), (1, .inl (i : Int)), (2, .inl (em_oz (-3) (em_fh (fun c => em_hr (ef_a w 32 i) (ef_a w 33 i) (ef_a w 30 i) (ef_a w 34 i) (ef_a w 35 c)) (ef_a w 35) c))), (3, .inl (c : Int))] [] w (v, w1) → (v, w1) = (ec_R (em_oz (-3) (em_fh (fun c => em_hr (ef_a w 32 i) (ef_a w 33 i) (ef_a w 30 i) (ef_a w 34 i) (ef_a w 35 c)) (ef_a w 35) k)), w) ∧ ec_W hb_A w := by
    intro d
    induction d with
    | zero =>
      intro c hc h
      have l := eg93_29_5_0 h
      rw [h7, ec_twn (n := k) (by omega), ec_twn (n := c) (by omega)] at l
      obtain ⟨_, hr, hW⟩ := l (by omega)
      have ec : c = k := by omega
      rw [ec] at hr
      exact ⟨hr, hW⟩
    | succ d ih =>
      intro c hc h
      have l := eg93_29_5_1 h
      rw [h7, ec_twn (n := k) (by omega), ec_twn (n := c) (by omega)] at l
      obtain ⟨_, u, y, a1, a2⟩ := l (by omega)
      obtain ⟨iy, W, e⟩ := ew_ishA hi (by omega) a1
      rw [← iy] at a2 W
      have b := a2 _ e W
      have ih' := ih (c + 1) (by omega)
      have ef : em_fh (fun c => em_hr (ef_a w 32 i) (ef_a w 33 i) (ef_a w 30 i) (ef_a w 34 i) (ef_a w 35 c)) (ef_a w 35) (c + 1) = if em_hr (ef_a w 32 i) (ef_a w 33 i) (ef_a w 30 i) (ef_a w 34 i) (ef_a w 35 c) = true then (match em_fh (fun c => em_hr (ef_a w 32 i) (ef_a w 33 i) (ef_a w 30 i) (ef_a w 34 i) (ef_a w 35 c)) (ef_a w 35) c with
        | none => some (ef_a w 35 c)
        | some m => if ef_a w 35 c < m then some (ef_a w 35 c) else some m) else em_fh (fun c => em_hr (ef_a w 32 i) (ef_a w 33 i) (ef_a w 30 i) (ef_a w 34 i) (ef_a w 35 c)) (ef_a w 35) c := rfl
      rw [ef] at ih'
      by_cases q : em_hr (ef_a w 32 i) (ef_a w 33 i) (ef_a w 30 i) (ef_a w 34 i) (ef_a w 35 c) = true
      · rw [if_pos q] at b ih'
        cases em : em_fh (fun c => em_hr (ef_a w 32 i) (ef_a w 33 i) (ef_a w 30 i) (ef_a w 34 i) (ef_a w 35 c)) (ef_a w 35) c with
        | none =>
          rw [em] at b ih'
          have m := eg93_29_19_1 b (by decide)
          rw [ec_twn (n := c) (by omega), ef_rd w 35 c] at m
          exact ih' (eg93_29_45_0 (m rfl).2).2
        | some f =>
          rw [em] at b ih'
          have bf := em_fh_in c f (fun x hx => hcm x (by omega)) em
          dsimp only at ih'
          have b' : ec_E hb_X n 93 19 [(0, .inr (.inl 93)), (1, .inl (i : Int)), (2, .inl f), (3, .inl (c : Int))] [.inl 1] w (v, w1) := b
          have tf : ec_tw f = f := ec_tw_id (by omega) (by omega)
          have m2 := eg93_29_19_2 b' (by decide)
          have m3 := eg93_29_19_3 b' (by decide)
          rw [ec_twn (n := c) (by omega), ef_rd w 35 c, ef_tw w 35 c, tf, tm] at m2 m3
          by_cases r : ef_a w 35 c < f
          · rw [if_pos r] at ih'
            exact ih' (eg93_29_45_0 (m3 (by omega) r).2).2
          · rw [if_neg r] at ih'
            exact ih' (eg93_29_45_0 (m2 (by omega) (by omega)).2).2
      · rw [if_neg q] at b ih'
        exact ih' (eg93_29_45_0 (eg93_29_19_0 b rfl).2).2
  obtain ⟨hr, hW⟩ := lp k 0 (by omega) (eg93_29_0_0 h).2
  injection hr with f1 f2
  rw [f2]
  exact ⟨rfl, hW, f1⟩
theorem ew_farB {a b : Int} (hi : i < 6) (ha : ef_a w 152 (248 + 6 * i) = a) (hb : ef_a w 152 (248 + 6 * i + 1) = b) (ra : 0 ≤ a ∧ a ≤ 99) (rb : 0 ≤ b ∧ b ≤ 99) (h : ec_E hb_X n 229 0 [(0, .inr (.inl 215)), (1, .inl (i : Int))] [] w (v, w1)) : w = w1 ∧ ec_W hb_A w1 ∧ v = ec_R (em_far a b) := by
  have t0 : ec_tw 0 = 0 := rfl
  have p0 : 248 + 6 * (i : Int) = ((248 + 6 * i : Nat) : Int) := by omega
  have p1 : ((248 + 6 * i : Nat) : Int) + 1 = ((248 + 6 * i + 1 : Nat) : Int) := rfl
  have k0 := eg229_151_0_0 h
  have k1 := eg229_151_0_1 h
  rw [p0, p1, ec_twn (n := 248 + 6 * i) (by omega), ec_twn (n := 248 + 6 * i + 1) (by omega), ef_rd w 152 (248 + 6 * i), ef_rd w 152 (248 + 6 * i + 1), ha, hb, t0] at k0 k1
  have ta : ec_tw (a - 50) = a - 50 := ec_tw_id (by omega) (by omega)
  have tb : ec_tw (b - 50) = b - 50 := ec_tw_id (by omega) (by omega)
  rw [ta] at k0 k1
  have fin : ∀ z z' : Int, z = z' → (v, w1) = (ec_R z, w) → ec_W hb_A w → w = w1 ∧ ec_W hb_A w1 ∧ v = ec_R z' := by
    intro z z' ez hr hW
    injection hr with f1 f2
    rw [f2, ← ez]
    exact ⟨rfl, hW, f1⟩
  have rest : ∀ s0 : Int, s0 = (if a < 50 then 50 - a else a - 50) → ec_E hb_X n 229 46 [(0, .inr (.inl 215)), (1, .inl (i : Int)), (2, .inl (a - 50)), (3, .inl (b - 50))] [.inl s0] w (v, w1) → w = w1 ∧ ec_W hb_A w1 ∧ v = ec_R (em_far a b) := by
    intro s0 hs h46
    have m0 := eg229_151_46_0 h46
    have m1 := eg229_151_46_1 h46
    rw [tb, t0] at m0 m1
    unfold em_far
    rw [← hs]
    by_cases c : b < 50
    · obtain ⟨_, hr, hW⟩ := m1 (by omega)
      refine fin _ _ ?_ hr hW
      rw [if_pos c]
      omega
    · obtain ⟨_, hr, hW⟩ := m0 (by omega)
      refine fin _ _ ?_ hr hW
      rw [if_neg c]
  by_cases c : a < 50
  · refine rest (-(a - 50)) ?_ (k1 (by omega)).2
    rw [if_pos c]
    omega
  · refine rest (a - 50) ?_ (k0 (by omega)).2
    rw [if_neg c]
theorem ew_dhB {m a b cf ct rg : Int} (hi : i < 6) (rm : -2147483648 ≤ m ∧ m ≤ 2147483647) (ha : ef_a w 152 (248 + 6 * i) = a) (hb : ef_a w 152 (248 + 6 * i + 1) = b) (ra : 0 ≤ a ∧ a ≤ 99) (rb : 0 ≤ b ∧ b ≤ 99) (hcf : ef_a w 152 (248 + 6 * i + 3) = cf) (hct : ef_a w 152 (248 + 6 * i + 4) = ct) (hrg : ef_a w 152 (248 + 6 * i + 5) = rg) (h : ec_E hb_X n 232 0 [(0, .inr (.inl 215)), (1, .inl (i : Int)), (2, .inl m)] [] w (v, w1)) : w = w1 ∧ ec_W hb_A w1 ∧ v = ec_R (if em_hr cf ct (em_far a b) rg m = true then 1 else 0) := by
  have p0 : 248 + 6 * (i : Int) = ((248 + 6 * i : Nat) : Int) := by omega
  have p3 : ((248 + 6 * i : Nat) : Int) + 3 = ((248 + 6 * i + 3 : Nat) : Int) := rfl
  have p4 : ((248 + 6 * i : Nat) : Int) + 4 = ((248 + 6 * i + 4 : Nat) : Int) := rfl
  have p5 : ((248 + 6 * i : Nat) : Int) + 5 = ((248 + 6 * i + 5 : Nat) : Int) := rfl
  have tm : ec_tw m = m := ec_tw_id rm.1 rm.2
  have tcf : ec_tw cf = cf := by rw [← hcf]; exact ef_tw _ _ _
  have tct : ec_tw ct = ct := by rw [← hct]; exact ef_tw _ _ _
  have trg : ec_tw rg = rg := by rw [← hrg]; exact ef_tw _ _ _
  have l := eg232_151_0_0 h
  rw [p0, p3, p4, ec_twn (n := 248 + 6 * i + 3) (by omega), ec_twn (n := 248 + 6 * i + 4) (by omega), ef_rd w 152 (248 + 6 * i + 3), ef_rd w 152 (248 + 6 * i + 4), hcf, hct] at l
  obtain ⟨_, u, y, a1, a2⟩ := l
  obtain ⟨e, W⟩ := ew_in a1
  rw [tm, tcf, tct] at e
  injection e with e iy
  rw [iy] at a2
  have b1 := a2 _ e W
  have fin : ∀ z : Int, (v, w1) = (ec_R z, w) → ec_W hb_A w → w = w1 ∧ ec_W hb_A w1 ∧ v = ec_R z := by
    intro z hr hW
    injection hr with f1 f2
    rw [f2]
    exact ⟨rfl, hW, f1⟩
  unfold em_hr
  by_cases p : cf ≤ m ∧ m ≤ ct
  · rw [if_pos p] at b1
    rw [decide_eq_true p, Bool.true_and]
    obtain ⟨_, u2, y2, a3, a4⟩ := eg232_151_29_1 b1 (by decide)
    obtain ⟨i2, W2, e2⟩ := ew_farB hi ha hb ra rb a3
    rw [← i2] at a4 W2
    have b2 := a4 _ e2 W2
    have bf := em_far_in ra rb
    have tf : ec_tw (em_far a b) = em_far a b := ec_tw_id (by omega) (by omega)
    have k0 := eg232_151_37_0 b2
    have k1 := eg232_151_37_1 b2
    rw [p5, ec_twn (n := 248 + 6 * i + 5) (by omega), ef_rd w 152 (248 + 6 * i + 5), hrg, trg, tf] at k0 k1
    by_cases q : em_far a b ≤ rg
    · rw [if_pos (decide_eq_true q)]
      obtain ⟨_, hr, hW⟩ := k1 q
      exact fin _ hr hW
    · rw [if_neg (fun z => q (of_decide_eq_true z))]
      obtain ⟨_, hr, hW⟩ := k0 (by omega)
      exact fin _ hr hW
  · rw [if_neg p] at b1
    rw [decide_eq_false p, Bool.false_and, if_neg (by decide)]
    obtain ⟨_, hr, hW⟩ := eg232_151_29_0 b1 rfl
    exact fin _ hr hW
theorem ew_eaB {a b cf ct rg : Int} {cm : Nat → Int} (hi : i < 6) (hk : k ≤ 10) (h7 : ef_a w 152 7 = (k : Int)) (hcm : ∀ c, c < k → ef_a w 152 (284 + c) = cm c ∧ 0 ≤ cm c ∧ cm c ≤ 999) (ha : ef_a w 152 (248 + 6 * i) = a) (hb : ef_a w 152 (248 + 6 * i + 1) = b) (ra : 0 ≤ a ∧ a ≤ 99) (rb : 0 ≤ b ∧ b ≤ 99) (hcf : ef_a w 152 (248 + 6 * i + 3) = cf) (hct : ef_a w 152 (248 + 6 * i + 4) = ct) (hrg : ef_a w 152 (248 + 6 * i + 5) = rg) (h : ec_E hb_X n 234 0 [(0, .inr (.inl 215)), (1, .inl (i : Int))] [] w (v, w1)) : w = w1 ∧ ec_W hb_A w1 ∧ v = ec_R (em_oz 1000000 (em_fh (fun c => em_hr cf ct (em_far a b) rg (cm c)) cm k)) := by
  have t7 : ec_tw 7 = ((7 : Nat) : Int) := rfl
  have tF : ec_tw 1000000 = 1000000 := rfl
  have lp : ∀ (d c : Nat), c + d = k → ec_E hb_X n 234 5 [(0, .inr (.inl 215)), (1, .inl (i : Int)), (2, .inl (em_oz 1000000 (em_fh (fun c => em_hr cf ct (em_far a b) rg (cm c)) cm c))), (3, .inl (c : Int))] [] w (v, w1) → (v, w1) = (ec_R (em_oz 1000000 (em_fh (fun c => em_hr cf ct (em_far a b) rg (cm c)) cm k)), w) ∧ ec_W hb_A w := by
    intro d
    induction d with
    | zero =>
      intro c hc h
      have l := eg234_151_5_0 h
      rw [t7, ef_rd w 152 7, h7, ec_twn (n := k) (by omega), ec_twn (n := c) (by omega)] at l
      obtain ⟨_, hr, hW⟩ := l (by omega)
      have ec : c = k := by omega
      rw [ec] at hr
      exact ⟨hr, hW⟩
    | succ d ih =>
      intro c hc h
      have l := eg234_151_5_1 h
      have ep : 284 + (c : Int) = ((284 + c : Nat) : Int) := by omega
      obtain ⟨m1, m2⟩ := hcm c (by omega)
      rw [t7, ef_rd w 152 7, h7, ec_twn (n := k) (by omega), ec_twn (n := c) (by omega), ep, ec_twn (n := 284 + c) (by omega), ef_rd w 152 (284 + c), m1] at l
      obtain ⟨_, u, y, a1, a2⟩ := l (by omega)
      obtain ⟨iy, W, e⟩ := ew_dhB hi ⟨by omega, by omega⟩ ha hb ra rb hcf hct hrg a1
      rw [← iy] at a2 W
      have b1 := a2 _ e W
      have ih' := ih (c + 1) (by omega)
      have ef : em_fh (fun c => em_hr cf ct (em_far a b) rg (cm c)) cm (c + 1) = if em_hr cf ct (em_far a b) rg (cm c) = true then (match em_fh (fun c => em_hr cf ct (em_far a b) rg (cm c)) cm c with
        | none => some (cm c)
        | some m => if cm c < m then some (cm c) else some m) else em_fh (fun c => em_hr cf ct (em_far a b) rg (cm c)) cm c := rfl
      rw [ef] at ih'
      have tcm : ec_tw (cm c) = cm c := ec_tw_id (by omega) (by omega)
      by_cases q : em_hr cf ct (em_far a b) rg (cm c) = true
      · rw [if_pos q] at b1 ih'
        have k1 := eg234_151_35_1 b1 (by decide)
        have k2 := eg234_151_35_2 b1 (by decide)
        rw [tcm] at k1 k2
        cases em : em_fh (fun c => em_hr cf ct (em_far a b) rg (cm c)) cm c with
        | none =>
          rw [em] at ih' k2
          have e6 : em_oz 1000000 none = 1000000 := rfl
          rw [e6, tF] at k2
          exact ih' (eg234_151_50_0 (k2 (by omega)).2).2
        | some f =>
          rw [em] at ih' k1 k2
          have bf := em_fh_in c f (fun x hx => (hcm x (by omega)).2) em
          have e6 : em_oz 1000000 (some f) = f := rfl
          have tf : ec_tw f = f := ec_tw_id (by omega) (by omega)
          rw [e6, tf] at k1 k2
          dsimp only at ih'
          by_cases r : cm c < f
          · rw [if_pos r] at ih'
            exact ih' (eg234_151_50_0 (k2 r).2).2
          · rw [if_neg r] at ih'
            exact ih' (eg234_151_50_0 (k1 (by omega)).2).2
      · rw [if_neg q] at b1 ih'
        exact ih' (eg234_151_50_0 (eg234_151_35_0 b1 rfl).2).2
  obtain ⟨hr, hW⟩ := lp k 0 (by omega) (eg234_151_0_0 h).2
  injection hr with f1 f2
  rw [f2]
  exact ⟨rfl, hW, f1⟩
end EM2

end

noncomputable section
/-! MAYBE on both sides -/
def es_fa (o : Option Int) (m rd fr sp : Int) : Int := match o with
  | none => fr
  | some f => if m ≤ f + rd then fr else max 0 (fr - ec_dv (sp * ((m - f) - rd)) 10)
theorem es_pr {a b : Int} (h1 : 1 ≤ a ∧ a ≤ 40) (h2 : 0 ≤ b ∧ b ≤ 999) : 0 ≤ a * b ∧ a * b ≤ 39960 := by
  have k1 : 0 ≤ a * b := Int.mul_nonneg (by omega) h2.1
  have k2 : a * b ≤ 40 * 999 := Int.mul_le_mul h1.2 h2.2 h2.1 (by decide)
  exact ⟨k1, by omega⟩
theorem es_dv {a b : Int} (h1 : 1 ≤ a ∧ a ≤ 40) (h2 : 0 ≤ b ∧ b ≤ 999) : 0 ≤ ec_dv (a * b) 10 ∧ ec_dv (a * b) 10 ≤ 3996 := by
  obtain ⟨k1, k2⟩ := es_pr h1 h2
  rw [ec_dv_nn k1 (by omega) (by decide) (by decide)]
  omega
theorem es_fr_in {w : px_W} {s k i : Nat} (hS : es_S w s k) (hi : i < s) : 0 ≤ ef_a w 30 i ∧ ef_a w 30 i ≤ 100 := by
  obtain ⟨⟨b1, b2⟩, b3, _⟩ := hS.2.2.2.2.2.2.1 i hi
  rw [b3]
  exact em_far_in b1 b2
theorem es_fa_in {o : Option Int} {m rd fr sp : Int} (hf : ∀ f, o = some f → 0 ≤ f ∧ f ≤ 999) (hm : 0 ≤ m ∧ m ≤ 999) (hr : 0 ≤ rd ∧ rd ≤ 60) (hfr : 0 ≤ fr ∧ fr ≤ 100) (hsp : 1 ≤ sp ∧ sp ≤ 40) : 0 ≤ es_fa o m rd fr sp ∧ es_fa o m rd fr sp ≤ 100 := by
  cases o with
  | none => exact hfr
  | some f =>
    have bf := hf f rfl
    show 0 ≤ (if m ≤ f + rd then fr else max 0 (fr - ec_dv (sp * ((m - f) - rd)) 10)) ∧ (if m ≤ f + rd then fr else max 0 (fr - ec_dv (sp * ((m - f) - rd)) 10)) ≤ 100
    by_cases q : m ≤ f + rd
    · rw [if_pos q]
      exact hfr
    · rw [if_neg q]
      have bd := es_dv (a := sp) (b := (m - f) - rd) hsp ⟨by omega, by omega⟩
      omega
def es_X (w : px_W) (k l i : Nat) : Int := es_fa (es_f w k i) (ef_a w 36 l) (ef_a w 152 12) (ef_a w 30 i) (ef_a w 31 i)
def es_mb (w : px_W) (k l i : Nat) : Bool := decide (ef_a w 37 l ≤ es_X w k l i ∧ es_X w k l i ≤ ef_a w 38 l)
section ES4
variable {n s k i l L : Nat} {w w1 : px_W} {v : Option Value}
theorem es_X_in (hS : es_S w s k) (hT : es_T w s L) (hi : i < s) (hl : l < L) : 0 ≤ es_X w k l i ∧ es_X w k l i ≤ 100 := by
  obtain ⟨⟨q1, _⟩, q2⟩ := hT.2.2.2.2.2 l hl
  exact es_fa_in (fun f e => es_f_in hS e) (by rw [q1]; exact q2) hT.2.1.2 (es_fr_in hS hi) (hT.1 i hi)
theorem ew_faA {m : Int} (hS : es_S w s k) (hT : es_T w s L) (hi : i < s) (hm : 0 ≤ m ∧ m ≤ 999) (h : ec_E hb_X n 96 0 [(0, .inr (.inl 93)), (1, .inl (i : Int)), (2, .inl m)] [] w (v, w1)) : (v, w1) = (ec_R (es_fa (es_f w k i) m (ef_a w 152 12) (ef_a w 30 i) (ef_a w 31 i)), w) ∧ ec_W hb_A w := by
  have hs := hS.1
  have tm3 : ec_tw (-3) = -3 := rfl
  have ti : ec_tw (i : Int) = i := ec_twn (by omega)
  have tm : ec_tw m = m := ec_tw_id (by omega) (by omega)
  obtain ⟨_, u, y, a1, a2⟩ := eg96_29_0_0 h
  obtain ⟨iy, W, e⟩ := ew_fhS hS hi a1
  rw [← iy] at a2 W
  have b := a2 _ e W
  cases q : es_f w k i with
  | none =>
    rw [q] at b
    have l0 := eg96_29_5_0 b rfl
    rw [ti, ef_rd w 30 i] at l0
    obtain ⟨_, hr, hW⟩ := l0
    exact ⟨hr, hW⟩
  | some f =>
    rw [q] at b
    have b' : ec_E hb_X n 96 5 [(0, .inr (.inl 93)), (1, .inl (i : Int)), (2, .inl m)] [.inl f] w (v, w1) := b
    have bf := es_f_in hS q
    have br := hT.2.1.2
    have bfr := es_fr_in hS hi
    have bsp := hT.1 i hi
    have tf : ec_tw f = f := ec_tw_id (by omega) (by omega)
    have tfr : ec_tw (f + ef_a w 152 12) = f + ef_a w 152 12 := ec_tw_id (by omega) (by omega)
    have l1 := eg96_29_5_1 b'
    have l2 := eg96_29_5_2 b'
    rw [ti, ef_rd w 30 i, hT.2.1.1, tfr, tf, tm3, tm] at l1 l2
    rw [ef_rd w 31 i] at l1
    show (v, w1) = (ec_R (if m ≤ f + ef_a w 152 12 then ef_a w 30 i else max 0 (ef_a w 30 i - ec_dv (ef_a w 31 i * ((m - f) - ef_a w 152 12)) 10)), w) ∧ ec_W hb_A w
    by_cases c : m ≤ f + ef_a w 152 12
    · rw [if_pos c]
      obtain ⟨_, hr, hW⟩ := l2 (by omega) c
      exact ⟨hr, hW⟩
    · rw [if_neg c]
      obtain ⟨_, hr, hW⟩ := l1 (by omega) (by omega)
      have bd := es_dv (a := ef_a w 31 i) (b := (m - f) - ef_a w 152 12) bsp ⟨by omega, by omega⟩
      rw [ec_mx_max (a := 0) (b := ef_a w 30 i - ec_dv (ef_a w 31 i * ((m - f) - ef_a w 152 12)) 10) (by decide) ⟨by omega, by omega⟩] at hr
      exact ⟨hr, hW⟩
theorem ew_soA (hS : es_S w s k) (hT : es_T w s L) (hl : l < L) (h : ec_E hb_X n 95 0 [(0, .inr (.inl 93)), (1, .inl (l : Int))] [] w (v, w1)) : (v, w1) = (ec_R (es_bs (es_mb w k l) s), w) ∧ ec_W hb_A w := by
  have hs := hS.1
  have h1 := hS.2.2.1
  have hL := hT.2.2.1
  have tl : ec_tw (l : Int) = l := ec_twn (by omega)
  obtain ⟨⟨m1, _⟩, m2⟩ := hT.2.2.2.2.2 l hl
  have hm : 0 ≤ ef_a w 36 l ∧ ef_a w 36 l ≤ 999 := by
    rw [m1]
    exact m2
  have lp : ∀ (d i : Nat), i + d = s → ec_E hb_X n 95 4 [(0, .inr (.inl 93)), (1, .inl (l : Int)), (2, .inl (es_bs (es_mb w k l) i)), (3, .inl (i : Int))] [] w (v, w1) → (v, w1) = (ec_R (es_bs (es_mb w k l) s), w) ∧ ec_W hb_A w := by
    intro d
    induction d with
    | zero =>
      intro i hi h
      have l0 := eg95_29_4_0 h
      rw [h1, ec_twn (n := s) (by omega), ec_twn (n := i) (by omega)] at l0
      obtain ⟨_, hr, hW⟩ := l0 (by omega)
      have e : i = s := by omega
      rw [e] at hr
      exact ⟨hr, hW⟩
    | succ d ih =>
      intro i hi h
      have his : i < s := by omega
      have l1 := eg95_29_4_1 h
      rw [h1, ec_twn (n := s) (by omega), ec_twn (n := i) (by omega), tl, ef_rd w 36 l] at l1
      obtain ⟨_, u, y, a1, a2⟩ := l1 (by omega)
      obtain ⟨e1, W1⟩ := ew_faA hS hT his hm a1
      injection e1 with e1 i1
      rw [i1] at a2
      have e1' : u = ec_R (es_X w k l i) := e1
      have b1 := a2 _ e1' W1
      have l2 := eg95_29_23_0 b1
      rw [tl, ef_rd w 37 l, ef_rd w 38 l] at l2
      obtain ⟨_, u2, y2, a3, a4⟩ := l2
      obtain ⟨e2, W2⟩ := ew_within a3
      have bX := es_X_in hS hT his hl
      have tX : ec_tw (es_X w k l i) = es_X w k l i := ec_tw_id (by omega) (by omega)
      rw [ef_tw w 37 l, ef_tw w 38 l, tX] at e2
      injection e2 with e2 i2
      rw [i2] at a4
      have b2 := a4 _ e2 W2
      have ih' := ih (i + 1) (by omega)
      rw [es_bs_s] at ih'
      by_cases q : ef_a w 37 l ≤ es_X w k l i ∧ es_X w k l i ≤ ef_a w 38 l
      · have q' : es_mb w k l i = true := decide_eq_true q
        rw [if_pos q] at b2
        rw [if_pos q'] at ih'
        exact ih' (eg95_29_53_0 (eg95_29_43_1 b2 (by decide)).2).2
      · have q' : ¬ es_mb w k l i = true := fun z => q (of_decide_eq_true z)
        rw [if_neg q] at b2
        rw [if_neg q'] at ih'
        exact ih' (eg95_29_53_0 (eg95_29_43_0 b2 rfl).2).2
  exact lp s 0 (by omega) (eg95_29_0_0 h).2
theorem ew_so48 {m x1 x2 : Int} {r : Option Value × px_W} (hS : es_S w s k) (hT : es_T w s L) (hi : i < s) (hm : 0 ≤ m ∧ m ≤ 999) (h : ec_E hb_X n 238 48 [(0, .inr (.inl 215)), (1, .inl x1), (2, .inl x2), (3, .inl (i : Int)), (4, .inl ((m - em_oz 1000000 (es_f w k i)) - ef_a w 152 12))] [.inl (ef_a w 30 i)] w r) : ∃ x4 : Int, ec_E hb_X n 238 94 [(0, .inr (.inl 215)), (1, .inl x1), (2, .inl x2), (3, .inl (i : Int)), (4, .inl x4), (5, .inl (es_fa (es_f w k i) m (ef_a w 152 12) (ef_a w 30 i) (ef_a w 31 i)))] [] w r := by
  have hs := hS.1
  have t0 : ec_tw 0 = 0 := rfl
  have br := hT.2.1.2
  have bfr := es_fr_in hS hi
  have bsp := hT.1 i hi
  have sp : ef_a w 31 i = ef_a w 152 (248 + 6 * i + 2) := (hS.2.2.2.2.2.2.1 i hi).2.2.1
  have ep : 248 + 6 * (i : Int) + 2 = ((248 + 6 * i + 2 : Nat) : Int) := by omega
  have z0 : ef_a w 30 i - 0 = ef_a w 30 i := Int.sub_zero _
  have tfr : ec_tw (ef_a w 30 i) = ef_a w 30 i := ef_tw w 30 i
  have same : ∀ x4 : Int, ec_E hb_X n 238 78 [(0, .inr (.inl 215)), (1, .inl x1), (2, .inl x2), (3, .inl (i : Int)), (4, .inl x4)] [.inl 0, .inl (ef_a w 30 i)] w r → ec_E hb_X n 238 94 [(0, .inr (.inl 215)), (1, .inl x1), (2, .inl x2), (3, .inl (i : Int)), (4, .inl x4), (5, .inl (ef_a w 30 i))] [] w r := by
    intro x4 h78
    have h81 := (eg238_151_78_0 h78).2
    rw [z0] at h81
    exact (eg238_151_81_0 h81 (by rw [t0, tfr]; omega)).2
  cases q : es_f w k i with
  | none =>
    rw [q] at h
    have h' : ec_E hb_X n 238 48 [(0, .inr (.inl 215)), (1, .inl x1), (2, .inl x2), (3, .inl (i : Int)), (4, .inl ((m - 1000000) - ef_a w 152 12))] [.inl (ef_a w 30 i)] w r := h
    have tc : ec_tw ((m - 1000000) - ef_a w 152 12) = (m - 1000000) - ef_a w 152 12 := ec_tw_id (by omega) (by omega)
    exact ⟨_, same _ (eg238_151_48_0 h' (by rw [t0, tc]; omega)).2⟩
  | some f =>
    rw [q] at h
    have h' : ec_E hb_X n 238 48 [(0, .inr (.inl 215)), (1, .inl x1), (2, .inl x2), (3, .inl (i : Int)), (4, .inl ((m - f) - ef_a w 152 12))] [.inl (ef_a w 30 i)] w r := h
    have bf := es_f_in hS q
    have tc : ec_tw ((m - f) - ef_a w 152 12) = (m - f) - ef_a w 152 12 := ec_tw_id (by omega) (by omega)
    show ∃ x4 : Int, ec_E hb_X n 238 94 [(0, .inr (.inl 215)), (1, .inl x1), (2, .inl x2), (3, .inl (i : Int)), (4, .inl x4), (5, .inl (if m ≤ f + ef_a w 152 12 then ef_a w 30 i else max 0 (ef_a w 30 i - ec_dv (ef_a w 31 i * ((m - f) - ef_a w 152 12)) 10)))] [] w r
    by_cases c : m ≤ f + ef_a w 152 12
    · rw [if_pos c]
      exact ⟨_, same _ (eg238_151_48_0 h' (by rw [t0, tc]; omega)).2⟩
    · rw [if_neg c]
      have l1 := eg238_151_48_1 h'
      rw [tc, t0, ep, ec_twn (n := 248 + 6 * i + 2) (by omega), ef_rd w 152 (248 + 6 * i + 2), ← sp] at l1
      have h81 := (eg238_151_78_0 (l1 (by omega)).2).2
      have bd := es_dv (a := ef_a w 31 i) (b := (m - f) - ef_a w 152 12) bsp ⟨by omega, by omega⟩
      have tx : ec_tw (ef_a w 30 i - ec_dv (ef_a w 31 i * ((m - f) - ef_a w 152 12)) 10) = ef_a w 30 i - ec_dv (ef_a w 31 i * ((m - f) - ef_a w 152 12)) 10 := ec_tw_id (by omega) (by omega)
      by_cases c2 : 0 ≤ ef_a w 30 i - ec_dv (ef_a w 31 i * ((m - f) - ef_a w 152 12)) 10
      · have em : max 0 (ef_a w 30 i - ec_dv (ef_a w 31 i * ((m - f) - ef_a w 152 12)) 10) = ef_a w 30 i - ec_dv (ef_a w 31 i * ((m - f) - ef_a w 152 12)) 10 := by omega
        rw [em]
        exact ⟨_, (eg238_151_81_0 h81 (by rw [t0, tx]; exact c2)).2⟩
      · have em : max 0 (ef_a w 30 i - ec_dv (ef_a w 31 i * ((m - f) - ef_a w 152 12)) 10) = 0 := by omega
        rw [em]
        exact ⟨_, (eg238_151_81_1 h81 (by rw [t0, tx]; omega)).2⟩
theorem ew_soB (hS : es_S w s k) (hT : es_T w s L) (hl : l < L) (h : ec_E hb_X n 238 0 [(0, .inr (.inl 215)), (1, .inl (l : Int))] [] w (v, w1)) : (v, w1) = (ec_R (es_bs (es_mb w k l) s), w) ∧ ec_W hb_A w := by
  have hs := hS.1
  have h2 := hS.2.2.2.1
  have hL := hT.2.2.1
  have t6 : ec_tw 6 = ((6 : Nat) : Int) := rfl
  have t12 : ec_tw 12 = ((12 : Nat) : Int) := rfl
  obtain ⟨⟨m1, m3, m4⟩, m2⟩ := hT.2.2.2.2.2 l hl
  have hm : 0 ≤ ef_a w 36 l ∧ ef_a w 36 l ≤ 999 := by
    rw [m1]
    exact m2
  have e0 : 294 + 3 * (l : Int) = ((294 + 3 * l : Nat) : Int) := by omega
  have e1 : ((294 + 3 * l : Nat) : Int) + 1 = ((294 + 3 * l + 1 : Nat) : Int) := rfl
  have e2 : ((294 + 3 * l : Nat) : Int) + 2 = ((294 + 3 * l + 2 : Nat) : Int) := rfl
  have lp : ∀ (d i : Nat), i + d = s → ec_E hb_X n 238 4 [(0, .inr (.inl 215)), (1, .inl (l : Int)), (2, .inl (es_bs (es_mb w k l) i)), (3, .inl (i : Int))] [] w (v, w1) → (v, w1) = (ec_R (es_bs (es_mb w k l) s), w) ∧ ec_W hb_A w := by
    intro d
    induction d with
    | zero =>
      intro i hi h
      have l0 := eg238_151_4_0 h
      rw [t6, ef_rd w 152 6, h2, ec_twn (n := s) (by omega), ec_twn (n := i) (by omega)] at l0
      obtain ⟨_, hr, hW⟩ := l0 (by omega)
      have e : i = s := by omega
      rw [e] at hr
      exact ⟨hr, hW⟩
    | succ d ih =>
      intro i hi h
      have his : i < s := by omega
      have l1 := eg238_151_4_1 h
      rw [t6, ef_rd w 152 6, h2, ec_twn (n := s) (by omega), ec_twn (n := i) (by omega), e0, ec_twn (n := 294 + 3 * l) (by omega), ef_rd w 152 (294 + 3 * l), ← m1] at l1
      obtain ⟨_, u, y, a1, a2⟩ := l1 (by omega)
      obtain ⟨i1, W1, f1⟩ := ew_eaS hS his a1
      rw [← i1] at a2 W1
      have b1 := a2 _ f1 W1
      have l2 := eg238_151_32_0 b1
      rw [t12, ef_rd w 152 12] at l2
      obtain ⟨_, u2, y2, a3, a4⟩ := l2
      obtain ⟨i2, W2, f2⟩ := ew_farS hS his a3
      rw [← i2] at a4 W2
      obtain ⟨x4, b2⟩ := ew_so48 hS hT his hm (a4 _ f2 W2)
      have b2' : ec_E hb_X n 238 94 [(0, .inr (.inl 215)), (1, .inl (l : Int)), (2, .inl (es_bs (es_mb w k l) i)), (3, .inl (i : Int)), (4, .inl x4), (5, .inl (es_X w k l i))] [] w (v, w1) := b2
      have l3 := eg238_151_94_0 b2'
      rw [e0, e1, e2, ec_twn (n := 294 + 3 * l + 1) (by omega), ec_twn (n := 294 + 3 * l + 2) (by omega), ef_rd w 152 (294 + 3 * l + 1), ef_rd w 152 (294 + 3 * l + 2), ← m3, ← m4] at l3
      obtain ⟨_, u3, y3, a5, a6⟩ := l3
      obtain ⟨g3, W3⟩ := ew_in a5
      have bX := es_X_in hS hT his hl
      have tX : ec_tw (es_X w k l i) = es_X w k l i := ec_tw_id (by omega) (by omega)
      rw [ef_tw w 37 l, ef_tw w 38 l, tX] at g3
      injection g3 with g3 i3
      rw [i3] at a6
      have b3 := a6 _ g3 W3
      have ih' := ih (i + 1) (by omega)
      rw [es_bs_s] at ih'
      by_cases q : ef_a w 37 l ≤ es_X w k l i ∧ es_X w k l i ≤ ef_a w 38 l
      · have q' : es_mb w k l i = true := decide_eq_true q
        rw [if_pos q] at b3
        rw [if_pos q'] at ih'
        exact ih' (eg238_151_138_0 (eg238_151_128_1 b3 (by decide)).2).2
      · have q' : ¬ es_mb w k l i = true := fun z => q (of_decide_eq_true z)
        rw [if_neg q] at b3
        rw [if_neg q'] at ih'
        exact ih' (eg238_151_138_0 (eg238_151_128_0 b3 rfl).2).2
  exact lp s 0 (by omega) (eg238_151_0_0 h).2
theorem ew_isLB (hL : L ≤ 8) (h2 : ef_a w 152 8 = (L : Int)) {x1 : Int} (r1 : -2147483648 ≤ x1 ∧ x1 ≤ 2147483647) (h : ec_E hb_X n 237 0 [(0, .inr (.inl 215)), (1, .inl x1)] [] w (v, w1)) : w = w1 ∧ ec_W hb_A w1 ∧ v = ec_R (if 0 ≤ x1 ∧ x1 ≤ (L : Int) - 1 then 1 else 0) := by
  have t0 : ec_tw 0 = 0 := rfl
  have t8 : ec_tw 8 = ((8 : Nat) : Int) := rfl
  have tx : ec_tw x1 = x1 := ec_tw_id r1.1 r1.2
  have ts : ec_tw ((L : Int) - 1) = (L : Int) - 1 := ec_tw_id (by omega) (by omega)
  obtain ⟨_, u, y, a1, a2⟩ := eg237_151_0_0 h
  obtain ⟨e, W⟩ := ew_in a1
  rw [t8, ef_rd w 152 8, h2, t0, tx, ts] at e
  injection e with e iy
  rw [iy] at a2
  obtain ⟨_, hr, hW⟩ := eg237_151_14_0 (a2 _ e W)
  injection hr with f1 f2
  rw [f2]
  exact ⟨rfl, hW, f1⟩
theorem ew_mayA {x1 : Int} (r1 : -2147483648 ≤ x1 ∧ x1 ≤ 2147483647) (hS : es_S w s k) (hT : es_T w s L) (h : ec_E hb_X n 147 0 [(0, .inr (.inl 64)), (1, .inl x1)] [] w (v, w1)) : w1 = w ∧ v = ec_R (if 0 ≤ x1 ∧ x1 ≤ (L : Int) - 1 then es_bs (es_mb w k x1.toNat) s else -1) := by
  have hL := hT.2.2.1
  have h1 := hT.2.2.2.1
  have t0 : ec_tw 0 = 0 := rfl
  have tx : ec_tw x1 = x1 := ec_tw_id r1.1 r1.2
  have ts : ec_tw ((L : Int) - 1) = (L : Int) - 1 := ec_tw_id (by omega) (by omega)
  obtain ⟨_, u, y, a1, a2⟩ := eg147_0_0_0 h
  obtain ⟨e, W⟩ := ew_within a1
  rw [h1, t0, tx, ts] at e
  injection e with e iy
  rw [iy] at a2
  have b := a2 _ e W
  by_cases p : 0 ≤ x1 ∧ x1 ≤ (L : Int) - 1
  · rw [if_pos p] at b
    rw [if_pos p]
    obtain ⟨_, u2, y2, a3, a4⟩ := eg147_0_14_1 b (by decide)
    have ex : x1 = ((x1.toNat : Nat) : Int) := by omega
    have a3' : ec_E hb_X n 95 0 [(0, .inr (.inl 93)), (1, .inl ((x1.toNat : Nat) : Int))] [] w (u2, y2) := by
      rw [← ex]
      exact a3
    obtain ⟨e3, W3⟩ := ew_soA hS hT (by omega) a3'
    injection e3 with e3 i3
    rw [i3] at a4
    obtain ⟨_, hr, _⟩ := eg147_0_25_0 (a4 _ e3 W3)
    injection hr with f1 f2
    exact ⟨f2, f1⟩
  · rw [if_neg p] at b
    rw [if_neg p]
    obtain ⟨_, hr, _⟩ := eg147_0_14_0 b rfl
    injection hr with f1 f2
    exact ⟨f2, f1⟩
theorem ew_mayB {x1 : Int} (r1 : -2147483648 ≤ x1 ∧ x1 ≤ 2147483647) (hS : es_S w s k) (hT : es_T w s L) (h : ec_E hb_X n 239 0 [(0, .inr (.inl 215)), (1, .inl x1)] [] w (v, w1)) : w1 = w ∧ v = ec_R (if 0 ≤ x1 ∧ x1 ≤ (L : Int) - 1 then es_bs (es_mb w k x1.toNat) s else -1) := by
  have hL := hT.2.2.1
  obtain ⟨_, u, y, a1, a2⟩ := eg239_151_0_0 h
  obtain ⟨iy, W, e⟩ := ew_isLB hL hT.2.2.2.2.1 r1 a1
  rw [← iy] at a2 W
  have b := a2 _ e W
  by_cases p : 0 ≤ x1 ∧ x1 ≤ (L : Int) - 1
  · rw [if_pos p] at b
    rw [if_pos p]
    obtain ⟨_, u2, y2, a3, a4⟩ := eg239_151_5_1 b (by decide)
    have ex : x1 = ((x1.toNat : Nat) : Int) := by omega
    have a3' : ec_E hb_X n 238 0 [(0, .inr (.inl 215)), (1, .inl ((x1.toNat : Nat) : Int))] [] w (u2, y2) := by
      rw [← ex]
      exact a3
    obtain ⟨e3, W3⟩ := ew_soB hS hT (by omega) a3'
    injection e3 with e3 i3
    rw [i3] at a4
    obtain ⟨_, hr, _⟩ := eg239_151_13_0 (a4 _ e3 W3)
    injection hr with f1 f2
    exact ⟨f2, f1⟩
  · rw [if_neg p] at b
    rw [if_neg p]
    obtain ⟨_, hr, _⟩ := eg239_151_5_0 b rfl
    injection hr with f1 f2
    exact ⟨f2, f1⟩
end ES4
theorem es_mayBe2 {xs : List Int32} {n : Nat} {w wA wB : px_W} {vA vB : Option Value} {x1 : Int} (hR : es_RR w) (r1 : -2147483648 ≤ x1 ∧ x1 ≤ 2147483647) (hA : ec_F (hb_XL xs) n 147 [.inr (.inl 64), .inl x1] w (vA, wA)) (hB : ec_F (hb_XL xs) n 239 [.inr (.inl 215), .inl x1] wA (vB, wB)) : vA = vB ∧ es_RR wB := by
  obtain ⟨s, k, l, hS, hT⟩ := es_T_of hR
  obtain ⟨eA, fA⟩ := ew_mayA r1 hS hT (hb_FE hA)
  rw [eA] at hB
  obtain ⟨eB, fB⟩ := ew_mayB r1 hS hT (hb_FE hB)
  rw [eB]
  exact ⟨fA.trans fB.symm, hR⟩

end

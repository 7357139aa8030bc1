noncomputable section
/-! TAKEBACK: what stands; the relation -/
def eo_cn (m : Nat) : Nat → Nat
  | 0 => 0
  | j + 1 => eo_cn m j + (if Nat.testBit m j = true then 1 else 0)
def eq_bc (x : Int) : Int := ec_and (((ec_and (((ec_and (x - (ec_and (ec_ush x 1) 1431655765)) 858993459) + (ec_and (ec_ush (x - (ec_and (ec_ush x 1) 1431655765)) 2) 858993459)) + (ec_ush ((ec_and (x - (ec_and (ec_ush x 1) 1431655765)) 858993459) + (ec_and (ec_ush (x - (ec_and (ec_ush x 1) 1431655765)) 2) 858993459)) 4)) 252645135) + (ec_ush (ec_and (((ec_and (x - (ec_and (ec_ush x 1) 1431655765)) 858993459) + (ec_and (ec_ush (x - (ec_and (ec_ush x 1) 1431655765)) 2) 858993459)) + (ec_ush ((ec_and (x - (ec_and (ec_ush x 1) 1431655765)) 858993459) + (ec_and (ec_ush (x - (ec_and (ec_ush x 1) 1431655765)) 2) 858993459)) 4)) 252645135) 8)) + (ec_ush ((ec_and (((ec_and (x - (ec_and (ec_ush x 1) 1431655765)) 858993459) + (ec_and (ec_ush (x - (ec_and (ec_ush x 1) 1431655765)) 2) 858993459)) + (ec_ush ((ec_and (x - (ec_and (ec_ush x 1) 1431655765)) 858993459) + (ec_and (ec_ush (x - (ec_and (ec_ush x 1) 1431655765)) 2) 858993459)) 4)) 252645135) + (ec_ush (ec_and (((ec_and (x - (ec_and (ec_ush x 1) 1431655765)) 858993459) + (ec_and (ec_ush (x - (ec_and (ec_ush x 1) 1431655765)) 2) 858993459)) + (ec_ush ((ec_and (x - (ec_and (ec_ush x 1) 1431655765)) 858993459) + (ec_and (ec_ush (x - (ec_and (ec_ush x 1) 1431655765)) 2) 858993459)) 4)) 252645135) 8)) 16)) 63
theorem ew_bc {n : Nat} {w w1 : px_W} {v : Option Value} {x0 : Int} (h : ec_E hb_X n 294 0 [(0, .inl x0)] [] w (v, w1)) : w = w1 ∧ ec_W hb_A w1 ∧ v = ec_R (eq_bc x0) := by
  obtain ⟨_, e, W⟩ := eg294_0_0 h
  injection e with e1 e2
  rw [e2]
  exact ⟨rfl, W, e1⟩
theorem ew_on4 {m : Nat} (hm : m < 4096) : ∀ (k n j : Nat) (w w1 : px_W) (v : Option Value), j + k = 30 → ec_E hb_X n 200 4 [(0, .inl (m : Int)), (1, .inl (eo_cn m j : Int)), (2, .inl (j : Int))] [] w (v, w1) → w = w1 ∧ ec_W hb_A w1 ∧ v = ec_R (eo_cn m 30 : Int) := by
  intro k
  induction k with
  | zero =>
    intro n j w w1 v hj h
    have ej : j = 30 := by omega
    rw [ej] at h
    obtain ⟨_, hr, hW⟩ := eg200_4_0 h (Int.le_refl _)
    injection hr with e1 e2
    rw [e2]
    exact ⟨rfl, hW, e1⟩
  | succ k ih =>
    intro n j w w1 v hj h
    have t30 : ec_tw 30 = 30 := rfl
    have l := eg200_4_1 h
    rw [ec_bit (by omega) (by omega), ec_twn (n := j) (by omega), t30] at l
    have h2 := (l (by omega)).2
    have e : (eo_cn m j : Int) + (if Nat.testBit m j = true then 1 else 0) = (eo_cn m (j + 1) : Int) := by
      show _ = ((eo_cn m j + (if Nat.testBit m j = true then 1 else 0) : Nat) : Int)
      by_cases q : Nat.testBit m j = true
      · rw [if_pos q, if_pos q]
        omega
      · rw [if_neg q, if_neg q]
        omega
    rw [e] at h2
    exact ih n (j + 1) w w1 v (by omega) h2
theorem ew_ones {n m : Nat} {w w1 : px_W} {v : Option Value} (hm : m < 4096) (h : ec_E hb_X n 200 0 [(0, .inl (m : Int))] [] w (v, w1)) : w = w1 ∧ ec_W hb_A w1 ∧ v = ec_R (eo_cn m 30 : Int) := ew_on4 hm 30 n 0 w w1 v (by omega) (eg200_0_0 h).2
def ed_st (kn le ba : Nat → Int) (k : Int) : Nat → Int
  | 0 => 0
  | i + 1 => if kn i ≤ k ∧ (ba i = -1 ∨ k < ba i) ∧ ec_tw (ec_and (le i) (ec_xor (ed_st kn le ba k i) (-1))) = 0 then ec_or (ed_st kn le ba k i) (ec_shl 1 (i : Int)) else ed_st kn le ba k i
theorem ed_st_s (kn le ba : Nat → Int) (k : Int) (i : Nat) : ed_st kn le ba k (i + 1) = if kn i ≤ k ∧ (ba i = -1 ∨ k < ba i) ∧ ec_tw (ec_and (le i) (ec_xor (ed_st kn le ba k i) (-1))) = 0 then ec_or (ed_st kn le ba k i) (ec_shl 1 (i : Int)) else ed_st kn le ba k i := rfl
theorem ed_st_cg {kn le ba kn' le' ba' : Nat → Int} {k : Int} : ∀ m : Nat, (∀ i, i < m → kn i = kn' i ∧ le i = le' i ∧ ba i = ba' i) → ed_st kn le ba k m = ed_st kn' le' ba' k m
  | 0, _ => rfl
  | m + 1, e => by
    have e1 := ed_st_cg (kn := kn) (le := le) (ba := ba) (kn' := kn') (le' := le') (ba' := ba') (k := k) m (fun i hi => e i (by omega))
    obtain ⟨e2, e3, e4⟩ := e m (by omega)
    rw [ed_st_s, ed_st_s, e1, e2, e3, e4]
theorem ed_st_nat {kn le ba : Nat → Int} {k : Int} : ∀ m : Nat, m ≤ 12 → ∃ q : Nat, q < 2 ^ m ∧ ed_st kn le ba k m = (q : Int)
  | 0, _ => ⟨0, by decide, rfl⟩
  | m + 1, hm => by
    obtain ⟨q, hq, e⟩ := ed_st_nat (kn := kn) (le := le) (ba := ba) (k := k) m (by omega)
    have p : 2 ^ (m + 1) = 2 ^ m + 2 ^ m := by
      rw [Nat.pow_succ]
      omega
    obtain ⟨p1, p2⟩ := ed_pw m (by omega)
    obtain ⟨p3, p4⟩ := ed_pw (m + 1) (by omega)
    rw [ed_st_s, e]
    split
    · rw [ed_shl m (by omega), ec_orN (by omega) (by omega)]
      exact ⟨q ||| 2 ^ m, Nat.or_lt_two_pow (by omega) (by omega), rfl⟩
    · exact ⟨q, by omega, rfl⟩
theorem ed_st_in {kn le ba : Nat → Int} {k : Int} (m : Nat) (hm : m ≤ 12) : ec_tw (ed_st kn le ba k m) = ed_st kn le ba k m := by
  obtain ⟨q, hq, e⟩ := ed_st_nat (kn := kn) (le := le) (ba := ba) (k := k) m hm
  obtain ⟨p1, p2⟩ := ed_pw m (by omega)
  rw [e]
  exact ec_twn (by omega)
section ED2
variable {n m : Nat} {w w1 : px_W} {v : Option Value}
theorem ew_stA {k : Int} (rk : ec_tw k = k) (hm : m ≤ 12) (h1 : ec_fd w 39 1 = (m : Int)) (h : ec_E hb_X n 119 0 [(0, .inr (.inl 103)), (1, .inl k)] [] w (v, w1)) : (v, w1) = (ec_R (ed_st (ef_a w 43) (ef_a w 41) (ef_a w 42) k m), w) ∧ ec_W hb_A w := by
  have t0 : ec_tw 0 = 0 := rfl
  have tn : ec_tw (-1) = -1 := rfl
  have lp : ∀ (d i : Nat), i + d = m → ec_E hb_X n 119 4 [(0, .inr (.inl 103)), (1, .inl k), (2, .inl (ed_st (ef_a w 43) (ef_a w 41) (ef_a w 42) k i)), (3, .inl (i : Int))] [] w (v, w1) → (v, w1) = (ec_R (ed_st (ef_a w 43) (ef_a w 41) (ef_a w 42) k m), w) ∧ ec_W hb_A w := by
    intro d
    induction d with
    | zero =>
      intro i hi h
      have l := eg119_39_4_0 h
      rw [h1, ec_twn (n := m) (by omega), ec_twn (n := i) (by omega)] at l
      obtain ⟨_, hr, hW⟩ := l (by omega)
      have e : i = m := by omega
      rw [e] at hr
      exact ⟨hr, hW⟩
    | succ d ih =>
      intro i hi h
      have ti : ec_tw (i : Int) = i := ec_twn (by omega)
      have ih' := ih (i + 1) (by omega)
      rw [ed_st_s] at ih'
      obtain ⟨b, hb⟩ : ∃ b, b = ed_st (ef_a w 43) (ef_a w 41) (ef_a w 42) k i := ⟨_, rfl⟩
      rw [← hb] at h ih'
      have go : ∀ x4 : Int, ec_tw x4 = x4 → ((x4 = 0) ↔ (ef_a w 42 i = -1 ∨ k < ef_a w 42 i)) → ec_E hb_X n 119 39 [(0, .inr (.inl 103)), (1, .inl k), (2, .inl b), (3, .inl (i : Int)), (4, .inl x4)] [] w (v, w1) → (v, w1) = (ec_R (ed_st (ef_a w 43) (ef_a w 41) (ef_a w 42) k m), w) ∧ ec_W hb_A w := by
        intro x4 t4 h4 h39
        have k0 := eg119_39_39_0 h39
        have k1 := eg119_39_39_1 h39
        have k2 := eg119_39_39_2 h39
        have k3 := eg119_39_39_3 h39
        rw [ti, ef_rd w 43 i, ef_tw w 43 i, rk] at k0 k1 k2 k3
        rw [t4, t0] at k1
        rw [ef_rd w 41 i, t4, t0] at k2 k3
        by_cases c1 : ef_a w 43 i ≤ k
        · by_cases c2 : x4 = 0
          · by_cases c3 : ec_tw (ec_and (ef_a w 41 i) (ec_xor b (-1))) = 0
            · rw [if_pos ⟨c1, h4.mp c2, c3⟩] at ih'
              exact ih' (eg119_39_73_0 (k3 c1 c2 c3).2).2
            · rw [if_neg (fun z => c3 z.2.2)] at ih'
              exact ih' (eg119_39_73_0 (k2 c1 c2 c3).2).2
          · rw [if_neg (fun z => c2 (h4.mpr z.2.1))] at ih'
            exact ih' (eg119_39_73_0 (k1 c1 c2).2).2
        · rw [if_neg (fun z => c1 z.1)] at ih'
          exact ih' (eg119_39_73_0 (k0 (by omega)).2).2
      have l1 := eg119_39_4_1 h
      have l2 := eg119_39_4_2 h
      have l3 := eg119_39_4_3 h
      rw [h1, ec_twn (n := m) (by omega), ti, ef_rd w 42 i, ef_tw w 42 i, tn] at l1 l2 l3
      rw [rk] at l2 l3
      by_cases c : ef_a w 42 i = -1
      · exact go 0 rfl ⟨fun _ => .inl c, fun _ => rfl⟩ (l1 (by omega) c).2
      · by_cases c2 : k < ef_a w 42 i
        · exact go 0 rfl ⟨fun _ => .inr c2, fun _ => rfl⟩ (l2 (by omega) c c2).2
        · refine go 1 rfl ⟨fun z => absurd z (by decide), fun z => ?_⟩ (l3 (by omega) c (by omega)).2
          rcases z with z | z
          · exact absurd z c
          · exact absurd z c2
  exact lp m 0 (by omega) (eg119_39_0_0 h).2
theorem ew_stB {k : Int} (rk : ec_tw k = k) (hm : m ≤ 12) (h1 : ef_a w 152 9 = (m : Int)) (h3 : ∀ i, i < m → -1 ≤ ef_a w 152 (318 + 3 * i + 2)) (h : ec_E hb_X n 244 0 [(0, .inr (.inl 215)), (1, .inl k)] [] w (v, w1)) : (v, w1) = (ec_R (ed_st (fun i => ef_a w 152 (318 + 3 * i)) (fun i => ef_a w 152 (318 + 3 * i + 1)) (fun i => ef_a w 152 (318 + 3 * i + 2)) k m), w) ∧ ec_W hb_A w := by
  have t0 : ec_tw 0 = 0 := rfl
  have t9 : ec_tw 9 = ((9 : Nat) : Int) := rfl
  have lp : ∀ (d i : Nat), i + d = m → ec_E hb_X n 244 4 [(0, .inr (.inl 215)), (1, .inl k), (2, .inl (ed_st (fun i => ef_a w 152 (318 + 3 * i)) (fun i => ef_a w 152 (318 + 3 * i + 1)) (fun i => ef_a w 152 (318 + 3 * i + 2)) k i)), (3, .inl (i : Int))] [] w (v, w1) → (v, w1) = (ec_R (ed_st (fun i => ef_a w 152 (318 + 3 * i)) (fun i => ef_a w 152 (318 + 3 * i + 1)) (fun i => ef_a w 152 (318 + 3 * i + 2)) k m), w) ∧ ec_W hb_A w := by
    intro d
    induction d with
    | zero =>
      intro i hi h
      have l := eg244_151_4_0 h
      rw [t9, ef_rd w 152 9, h1, ec_twn (n := m) (by omega), ec_twn (n := i) (by omega)] at l
      obtain ⟨_, hr, hW⟩ := l (by omega)
      have e : i = m := by omega
      rw [e] at hr
      exact ⟨hr, hW⟩
    | succ d ih =>
      intro i hi h
      have ti : ec_tw (i : Int) = i := ec_twn (by omega)
      have ih' := ih (i + 1) (by omega)
      have eb := ed_st_in (kn := fun i => ef_a w 152 (318 + 3 * i)) (le := fun i => ef_a w 152 (318 + 3 * i + 1)) (ba := fun i => ef_a w 152 (318 + 3 * i + 2)) (k := k) i (by omega)
      rw [ed_st_s] at ih'
      obtain ⟨b, hb⟩ : ∃ b, b = ed_st (fun i => ef_a w 152 (318 + 3 * i)) (fun i => ef_a w 152 (318 + 3 * i + 1)) (fun i => ef_a w 152 (318 + 3 * i + 2)) k i := ⟨_, rfl⟩
      rw [← hb] at h ih' eb
      have b0 : -1 ≤ ef_a w 152 (318 + 3 * i + 2) := h3 i (by omega)
      have l := eg244_151_4_1 h
      rw [t9, ef_rd w 152 9, h1, ec_twn (n := m) (by omega), ti] at l
      have h24 := (l (by omega)).2
      obtain ⟨q, hq⟩ : ∃ q : Nat, q = 318 + 3 * i := ⟨_, rfl⟩
      have eq : 318 + 3 * (i : Int) = (q : Int) := by omega
      have q0 : ec_tw (q : Int) = (q : Int) := ec_twn (n := q) (by omega)
      have q1 : ec_tw ((q : Int) + 1) = ((q + 1 : Nat) : Int) := ec_twn (n := q + 1) (by omega)
      have q2 : ec_tw ((q : Int) + 2) = ((q + 2 : Nat) : Int) := ec_twn (n := q + 2) (by omega)
      rw [eq] at h24
      rw [← hq] at b0
      have ih2 : ec_E hb_X n 244 4 [(0, .inr (.inl 215)), (1, .inl k), (2, .inl (if ef_a w 152 q ≤ k ∧ (ef_a w 152 (q + 2) = -1 ∨ k < ef_a w 152 (q + 2)) ∧ ec_tw (ec_and (ef_a w 152 (q + 1)) (ec_xor b (-1))) = 0 then ec_or b (ec_shl 1 (i : Int)) else b)), (3, .inl ((i + 1 : Nat) : Int))] [] w (v, w1) → (v, w1) = (ec_R (ed_st (fun i => ef_a w 152 (318 + 3 * i)) (fun i => ef_a w 152 (318 + 3 * i + 1)) (fun i => ef_a w 152 (318 + 3 * i + 2)) k m), w) ∧ ec_W hb_A w := by
        rw [hq]
        exact ih'
      have yes : ec_E hb_X n 244 81 [(0, .inr (.inl 215)), (1, .inl k), (2, .inl b), (3, .inl (i : Int)), (4, .inl (q : Int))] [.inl 1] w (v, w1) → ec_E hb_X n 244 4 [(0, .inr (.inl 215)), (1, .inl k), (2, .inl (ec_or b (ec_shl 1 (i : Int)))), (3, .inl ((i + 1 : Nat) : Int))] [] w (v, w1) := fun z => (eg244_151_96_0 (eg244_151_81_1 z (by decide)).2).2
      have nay : ec_E hb_X n 244 81 [(0, .inr (.inl 215)), (1, .inl k), (2, .inl b), (3, .inl (i : Int)), (4, .inl (q : Int))] [.inl 0] w (v, w1) → ec_E hb_X n 244 4 [(0, .inr (.inl 215)), (1, .inl k), (2, .inl b), (3, .inl ((i + 1 : Nat) : Int))] [] w (v, w1) := fun z => by
        have z2 := (eg244_151_96_0 (eg244_151_81_0 z rfl).2).2
        rw [ec_or_0, eb] at z2
        exact z2
      have k0 := eg244_151_24_0 h24
      have k1 := eg244_151_24_1 h24
      have k2 := eg244_151_24_2 h24
      have k3 := eg244_151_24_3 h24
      have k4 := eg244_151_24_4 h24
      have k5 := eg244_151_24_5 h24
      rw [q0, ef_rd w 152 q, ef_tw w 152 q, rk] at k0
      rw [q0, q1, q2, ef_rd w 152 q, ef_rd w 152 (q + 1), ef_rd w 152 (q + 2), ef_tw w 152 q, ef_tw w 152 (q + 2), rk, t0] at k1 k2 k4 k5
      rw [q0, q2, ef_rd w 152 q, ef_rd w 152 (q + 2), ef_tw w 152 q, ef_tw w 152 (q + 2), rk, t0] at k3
      by_cases c1 : ef_a w 152 q ≤ k
      · by_cases c3 : ec_tw (ec_and (ef_a w 152 (q + 1)) (ec_xor b (-1))) = 0
        · by_cases c2 : ef_a w 152 (q + 2) < 0
          · rw [if_pos ⟨c1, .inl (by omega), c3⟩] at ih2
            exact ih2 (yes (k2 c1 c2 c3).2)
          · by_cases c4 : k < ef_a w 152 (q + 2)
            · rw [if_pos ⟨c1, .inr c4, c3⟩] at ih2
              exact ih2 (yes (k5 c1 (by omega) c4 c3).2)
            · rw [if_neg (fun z => by rcases z.2.1 with y | y <;> omega)] at ih2
              exact ih2 (nay (k3 c1 (by omega) (by omega)).2)
        · rw [if_neg (fun z => c3 z.2.2)] at ih2
          by_cases c2 : ef_a w 152 (q + 2) < 0
          · exact ih2 (nay (k1 c1 c2 c3).2)
          · by_cases c4 : k < ef_a w 152 (q + 2)
            · exact ih2 (nay (k4 c1 (by omega) c4 c3).2)
            · exact ih2 (nay (k3 c1 (by omega) (by omega)).2)
      · rw [if_neg (fun z => c1 z.1)] at ih2
        exact ih2 (nay (k0 (by omega)).2)
  exact lp m 0 (by omega) (eg244_151_0_0 h).2
theorem ew_tkA {x1 : Int} (r1 : -2147483648 ≤ x1 ∧ x1 ≤ 2147483647) (hm : m ≤ 12) (h1 : ec_fd w 39 1 = (m : Int)) (h : ec_E hb_X n 152 0 [(0, .inr (.inl 64)), (1, .inl x1)] [] w (v, w1)) : (¬ (0 ≤ x1 ∧ x1 ≤ (m : Int) - 1) ∧ w1 = w ∧ v = ec_R (-1)) ∨ ((0 ≤ x1 ∧ x1 ≤ (m : Int) - 1) ∧ ef_a w 42 x1.toNat ≠ -1 ∧ w1 = w ∧ v = ec_R (-4)) ∨ ((0 ≤ x1 ∧ x1 ≤ (m : Int) - 1) ∧ ef_a w 42 x1.toNat = -1 ∧ v = ec_R (eq_bc (ed_st (ef_a w1 43) (ef_a w1 41) (ef_a w1 42) (ec_fd w 1 0) m)) ∧ ef_s [42] w w1 ∧ ∀ i, ef_a w1 42 i = if i = x1.toNat then ec_fd w 1 0 else ef_a w 42 i) := by
  have t0 : ec_tw 0 = 0 := rfl
  have tn : ec_tw (-1) = -1 := rfl
  have tx : ec_tw x1 = x1 := ec_tw_id r1.1 r1.2
  have tk : ec_tw ((m : Int) - 1) = (m : Int) - 1 := ec_tw_id (by omega) (by omega)
  obtain ⟨_, u, y, a1, a2⟩ := eg152_0_0_0 h
  obtain ⟨e, W⟩ := ew_within a1
  rw [h1, t0, tx, tk] at e
  injection e with e iy
  rw [iy] at a2
  have b := a2 _ e W
  by_cases p : 0 ≤ x1 ∧ x1 ≤ (m : Int) - 1
  · rw [if_pos p] at b
    obtain ⟨c, hc⟩ : ∃ c : Nat, c = x1.toNat := ⟨_, rfl⟩
    have ex : x1 = (c : Int) := by omega
    have tc : ec_tw (c : Int) = c := ec_twn (by omega)
    rw [ex] at b
    have k0 := eg152_0_14_0 b (by decide)
    have k1 := eg152_0_14_1 b (by decide)
    rw [tc, ef_rd w 42 c, ef_tw w 42 c, tn] at k0 k1
    rw [← hc]
    by_cases q : ef_a w 42 c = -1
    · refine .inr (.inr ⟨p, q, ?_⟩)
      have a3 := (eg152_0_35_0 (k0 q).2).2
      rw [tc] at a3
      obtain ⟨W1, s1, g1⟩ := ed_w1 (k := 42) (n := 12) (p := c) (z := ec_fd w 1 0) W rfl (by omega)
      obtain ⟨y1, hy1⟩ : ∃ y, y = ec_wr w 42 (c : Int) (ec_fd w 1 0) := ⟨_, rfl⟩
      rw [← hy1] at a3 W1 s1 g1
      have n1 : ec_fd y1 1 0 = ec_fd w 1 0 := ef_s_f s1 (by decide) 0
      obtain ⟨_, u2, y2, a4, a5⟩ := eg152_0_51_0 a3
      rw [n1] at a4
      obtain ⟨e4, W4⟩ := ew_stA (ec_tw_fd w 1 0) hm ((ef_s_f s1 (by decide) 1).trans h1) a4
      injection e4 with e4 i4
      rw [i4] at a5
      obtain ⟨_, u3, y3, a6, a7⟩ := eg152_0_65_0 (a5 _ e4 W4)
      obtain ⟨i6, W6, e6⟩ := ew_bc a6
      rw [← i6] at a7 W6
      obtain ⟨_, hr, _⟩ := eg152_0_68_0 (a7 _ e6 W6)
      injection hr with f1 f2
      rw [f2]
      refine ⟨f1, s1, fun i => ?_⟩
      rw [g1 i, ec_tw_fd]
    · refine .inr (.inl ⟨p, q, ?_⟩)
      obtain ⟨_, hr, _⟩ := k1 q
      injection hr with f1 f2
      exact ⟨f2, f1⟩
  · rw [if_neg p] at b
    obtain ⟨_, hr, _⟩ := eg152_0_14_2 b rfl
    injection hr with f1 f2
    exact .inl ⟨p, f2, f1⟩
theorem ew_tkB {x1 : Int} (r1 : -2147483648 ≤ x1 ∧ x1 ≤ 2147483647) (hm : m ≤ 12) (h0 : 0 ≤ ef_a w 152 0) (h1 : ef_a w 152 9 = (m : Int)) (h3 : ∀ i, i < m → -1 ≤ ef_a w 152 (318 + 3 * i + 2)) (h : ec_E hb_X n 245 0 [(0, .inr (.inl 215)), (1, .inl x1)] [] w (v, w1)) : (¬ (0 ≤ x1 ∧ x1 ≤ (m : Int) - 1) ∧ w1 = w ∧ v = ec_R (-1)) ∨ ((0 ≤ x1 ∧ x1 ≤ (m : Int) - 1) ∧ 0 ≤ ef_a w 152 (318 + 3 * x1.toNat + 2) ∧ w1 = w ∧ v = ec_R (-4)) ∨ ((0 ≤ x1 ∧ x1 ≤ (m : Int) - 1) ∧ ef_a w 152 (318 + 3 * x1.toNat + 2) < 0 ∧ (∃ q : Nat, q < 4096 ∧ ed_st (fun i => ef_a w1 152 (318 + 3 * i)) (fun i => ef_a w1 152 (318 + 3 * i + 1)) (fun i => ef_a w1 152 (318 + 3 * i + 2)) (ef_a w 152 0) m = (q : Int) ∧ v = ec_R (eo_cn q 30 : Int)) ∧ ef_s [152] w w1 ∧ ∀ p, ef_a w1 152 p = if p = 318 + 3 * x1.toNat + 2 then ef_a w 152 0 else ef_a w 152 p) := by
  have t0 : ec_tw 0 = 0 := rfl
  have z0 : ec_tw 0 = ((0 : Nat) : Int) := rfl
  have t9 : ec_tw 9 = ((9 : Nat) : Int) := rfl
  have tx : ec_tw x1 = x1 := ec_tw_id r1.1 r1.2
  have tk : ec_tw ((m : Int) - 1) = (m : Int) - 1 := ec_tw_id (by omega) (by omega)
  obtain ⟨_, u, y, a1, a2⟩ := eg245_151_0_0 h
  obtain ⟨e, W⟩ := ew_in a1
  rw [t9, ef_rd w 152 9, h1, t0, tx, tk] at e
  injection e with e iy
  rw [iy] at a2
  have b := a2 _ e W
  by_cases p : 0 ≤ x1 ∧ x1 ≤ (m : Int) - 1
  · rw [if_pos p] at b
    obtain ⟨c, hc⟩ : ∃ c : Nat, c = x1.toNat := ⟨_, rfl⟩
    have ex : x1 = (c : Int) := by omega
    obtain ⟨g, hg⟩ : ∃ g : Nat, g = 318 + 3 * c + 2 := ⟨_, rfl⟩
    have eg : 318 + 3 * (c : Int) + 2 = (g : Int) := by omega
    have tg : ec_tw (g : Int) = g := ec_twn (by omega)
    rw [ex] at b
    have k0 := eg245_151_14_0 b (by decide)
    have k1 := eg245_151_14_1 b (by decide)
    rw [eg, tg, ef_rd w 152 g, ef_tw w 152 g, t0] at k0 k1
    rw [← hc, ← hg]
    by_cases q : ef_a w 152 g < 0
    · refine .inr (.inr ⟨p, q, ?_⟩)
      have a3 := (eg245_151_39_0 (k0 q).2).2
      rw [eg, tg, z0, ef_rd w 152 0] at a3
      obtain ⟨W1, s1, g1⟩ := ed_w1 (k := 152) (n := 1580) (p := g) (z := ef_a w 152 0) W rfl (by omega)
      obtain ⟨y1, hy1⟩ : ∃ y, y = ec_wr w 152 (g : Int) (ef_a w 152 0) := ⟨_, rfl⟩
      rw [← hy1] at a3 W1 s1 g1
      have n1 : ef_a y1 152 0 = ef_a w 152 0 := by
        rw [g1 0, if_neg (by omega)]
      have l := eg245_151_59_0 a3
      rw [z0, ef_rd y1 152 0, n1] at l
      obtain ⟨_, u2, y2, a4, a5⟩ := l
      have m1 : ef_a y1 152 9 = (m : Int) := by
        rw [g1 9, if_neg (by omega)]
        exact h1
      obtain ⟨e4, W4⟩ := ew_stB (ef_tw w 152 0) hm m1 (fun i hi => by
        rw [g1 (318 + 3 * i + 2)]
        split
        · rw [ef_tw]
          omega
        · exact h3 i hi) a4
      injection e4 with e4 i4
      rw [i4] at a5
      obtain ⟨qq, hq1, hq2⟩ := ed_st_nat (kn := fun i => ef_a y1 152 (318 + 3 * i)) (le := fun i => ef_a y1 152 (318 + 3 * i + 1)) (ba := fun i => ef_a y1 152 (318 + 3 * i + 2)) (k := ef_a w 152 0) m hm
      obtain ⟨pw1, pw2⟩ := ed_pw m (by omega)
      have hq3 : qq < 4096 := Nat.lt_of_lt_of_le hq1 pw2
      rw [hq2] at e4
      obtain ⟨_, u3, y3, a6, a7⟩ := eg245_151_69_0 (a5 _ e4 W4)
      obtain ⟨i6, W6, e6⟩ := ew_ones hq3 a6
      rw [← i6] at a7 W6
      obtain ⟨_, hr, _⟩ := eg245_151_72_0 (a7 _ e6 W6)
      injection hr with f1 f2
      rw [f2]
      refine ⟨⟨qq, hq3, hq2, f1⟩, s1, fun i => ?_⟩
      rw [g1 i, ef_tw]
    · refine .inr (.inl ⟨p, by omega, ?_⟩)
      obtain ⟨_, hr, _⟩ := k1 (by omega)
      injection hr with f1 f2
      exact ⟨f2, f1⟩
  · rw [if_neg p] at b
    obtain ⟨_, hr, _⟩ := eg245_151_14_2 b rfl
    injection hr with f1 f2
    exact .inl ⟨p, f2, f1⟩
end ED2
def ed_RR (w : px_W) : Prop := eh_RR w ∧ ed_R w
def ed_dc : List (Nat × Nat × Nat) := eh_dc ++ ed_dcR
theorem ed_dc_st {w w' : px_W} (hW : ec_W hb_A w) (hW' : ec_W hb_A w') (h : ∀ p ∈ ed_dc, ∀ i, p.2.1 ≤ i → i < p.2.2 → sy_get w' p.1 i = sy_get w p.1 i) (hR : ed_RR w) : ed_RR w' := ⟨eh_dc_st hW hW' (fun p hp => h p (List.mem_append_left _ hp)) hR.1, ed_dcR_st hW hW' (fun p hp => h p (List.mem_append_right _ hp)) hR.2⟩
/-- takeBack on both sides: nothing but a word's MINUTE changes; with it the answers, as they are counted -/
theorem ed_takeX {xs : List Int32} {n : Nat} {w wA wB : px_W} {vA vB : Option Value} {x1 : Int} (hR : ed_RR w) (r1 : -2147483648 ≤ x1 ∧ x1 ≤ 2147483647) (hA : ec_F (hb_XL xs) n 152 [.inr (.inl 64), .inl x1] w (vA, wA)) (hB : ec_F (hb_XL xs) n 245 [.inr (.inl 215), .inl x1] wA (vB, wB)) : (vA = vB ∨ ∃ q : Nat, q < 4096 ∧ vA = ec_R (eq_bc (q : Int)) ∧ vB = ec_R (eo_cn q 30 : Int)) ∧ ed_RR wB := by
  obtain ⟨m, hm, h1', h2', h3⟩ := hR.2.1
  have h1 : ec_fd w 39 1 = (m : Int) := h1'
  have h2 : ef_a w 152 9 = (m : Int) := h2'
  have now : ef_a w 152 0 = ec_fd w 1 0 := hR.1.1.2.2.1.1
  have nb : 0 ≤ ec_fd w 1 0 := hR.1.1.2.2.1.2.1
  have h4 : ∀ i, i < m → ef_a w 43 i = ef_a w 152 (318 + 3 * i) ∧ ef_a w 41 i = ef_a w 152 (318 + 3 * i + 1) ∧ ef_a w 42 i = ef_a w 152 (318 + 3 * i + 2) ∧ -1 ≤ ef_a w 152 (318 + 3 * i + 2) := h3
  rcases ew_tkA r1 hm h1 (hb_FE hA) with ⟨p, eA, fA⟩ | ⟨p, q, eA, fA⟩ | ⟨p, q, fA, sA, gA⟩
  · rw [eA] at hB
    rcases ew_tkB r1 hm (by omega) h2 (fun i hi => (h4 i hi).2.2.2) (hb_FE hB) with ⟨_, eB, fB⟩ | ⟨p2, _⟩ | ⟨p2, _⟩
    · rw [eB]
      exact ⟨.inl (fA.trans fB.symm), hR⟩
    · exact absurd p2 p
    · exact absurd p2 p
  · rw [eA] at hB
    obtain ⟨_, _, q3, q4⟩ := h4 x1.toNat (by omega)
    rcases ew_tkB r1 hm (by omega) h2 (fun i hi => (h4 i hi).2.2.2) (hb_FE hB) with ⟨p2, _⟩ | ⟨_, _, eB, fB⟩ | ⟨_, q2, _⟩
    · exact absurd p p2
    · rw [eB]
      exact ⟨.inl (fA.trans fB.symm), hR⟩
    · omega
  · obtain ⟨_, _, q3, q4⟩ := h4 x1.toNat (by omega)
    have d1 : ef_a wA 152 = ef_a w 152 := ef_s_a sA (by decide)
    rcases ew_tkB (w := wA) r1 hm (by rw [d1]; omega) (by rw [d1]; exact h2) (fun i hi => by rw [d1]; exact (h4 i hi).2.2.2) (hb_FE hB) with ⟨p2, _⟩ | ⟨_, q2, _⟩ | ⟨_, _, ⟨qq, hq, eq, fB⟩, sB, gB⟩
    · exact absurd p p2
    · rw [d1] at q2
      omega
    · rw [d1] at gB eq
      have s12 : ef_s [42, 152] w wB := ef_s_trans (ef_s_mono sA (by decide)) (ef_s_mono sB (by decide))
      have hc : x1.toNat < m := by omega
      have a42 : ∀ i, ef_a wB 42 i = if i = x1.toNat then ec_fd w 1 0 else ef_a w 42 i := fun i => by
        rw [ef_s_a sB (by decide)]
        exact gA i
      have rel : ∀ i, i < m → ef_a wB 43 i = ef_a wB 152 (318 + 3 * i) ∧ ef_a wB 41 i = ef_a wB 152 (318 + 3 * i + 1) ∧ ef_a wB 42 i = ef_a wB 152 (318 + 3 * i + 2) ∧ -1 ≤ ef_a wB 152 (318 + 3 * i + 2) := by
        intro i hi
        obtain ⟨z1, z2, z3, z4⟩ := h4 i hi
        rw [ef_s_a s12 (k := 43) (by decide), ef_s_a s12 (k := 41) (by decide), a42 i, gB (318 + 3 * i), if_neg (by omega), gB (318 + 3 * i + 1), if_neg (by omega), gB (318 + 3 * i + 2)]
        refine ⟨z1, z2, ?_⟩
        by_cases c : i = x1.toNat
        · rw [if_pos c, if_pos (by omega)]
          exact ⟨now.symm, by omega⟩
        · rw [if_neg c, if_neg (by omega)]
          exact ⟨z3, z4⟩
      refine ⟨.inr ⟨qq, hq, ?_, fB⟩, ⟨?_, ?_, ?_⟩, ⟨m, hm, ?_, ?_, rel⟩, ed_kcg ed_dep (by decide) (by decide) (by decide) (by decide) s12 (ef_s_f s12 (by decide) 2) hR.2.2⟩
      · have est := ed_st_cg (kn := ef_a wA 43) (le := ef_a wA 41) (ba := ef_a wA 42) (kn' := fun i => ef_a wB 152 (318 + 3 * i)) (le' := fun i => ef_a wB 152 (318 + 3 * i + 1)) (ba' := fun i => ef_a wB 152 (318 + 3 * i + 2)) (k := ec_fd w 1 0) m (fun i hi => by
          obtain ⟨z1, z2, z3, _⟩ := rel i hi
          rw [ef_s_a sB (k := 43) (by decide)] at z1
          rw [ef_s_a sB (k := 41) (by decide)] at z2
          rw [ef_s_a sB (k := 42) (by decide)] at z3
          exact ⟨z1, z2, z3⟩)
        rw [fA, est, ← now, eq]
      · exact eh_hu_st (fun f _ => ef_s_f s12 (by decide) f) (fun k p k1 k2 _ => congrFun (ef_s_a s12 (fun e => by simp only [List.mem_cons, List.not_mem_nil, or_false] at e; omega)) p) (fun p k1 k2 => by rw [gB p, if_neg (by omega)]) hR.1.1
      · exact eh_wd_st (ef_s_f s12 (by decide) 8) (ef_s_f s12 (by decide) 9) (fun p _ => congrFun (ef_s_a s12 (by decide)) p) hR.1.2.1
      · exact eh_kp_s s12 (by decide) (ef_s_f s12 (by decide) 2) hR.1.2.2
      · show ec_fd wB 39 1 = (m : Int)
        rw [ef_s_f s12 (by decide)]
        exact h1
      · show ef_a wB 152 9 = (m : Int)
        rw [gB 9, if_neg (by omega)]
        exact h2
theorem ed_keepR {xs : List Int32} {n : Nat} {w wA wB : px_W} {vA vB : Option Value} (hR : ed_RR w) (hA : ec_F (hb_XL xs) n 171 [.inr (.inl 64)] w (vA, wA)) (hB : ec_F (hb_XL xs) n 292 [.inr (.inl 215)] wA (vB, wB)) : ed_RR wB := ⟨ew_hkeep2 hR.1 hA hB, ed_keep2 hR.2 hA hB⟩
theorem ed_againR {xs : List Int32} {n : Nat} {w wA wB : px_W} {vA vB : Option Value} (hR : ed_RR w) (hA : ec_F (hb_XL xs) n 172 [.inr (.inl 64)] w (vA, wA)) (hB : ec_F (hb_XL xs) n 293 [.inr (.inl 215)] wA (vB, wB)) : ed_RR wB := ⟨ew_hagain2 hR.1 hA hB, ed_again2 hR.2 hA hB⟩

end

noncomputable section
/-! WHAT SET ANSWERS -/
theorem ew_chV {n : Nat} {w : px_W} {r : Option Value × px_W} {x1 x2 x3 : Int} {c : Nat} (hx : ec_tw x1 = (c : Int)) (h2 : 0 ≤ ec_tw x2 ∧ ec_tw x2 ≤ 2) (h : ec_E hb_X n 34 0 [(0, .inr (.inl 65)), (1, .inl x1), (2, .inl x2), (3, .inl x3)] [] w r) : ∃ (j : Nat) (w' : px_W), eh_j x2 j ∧ r = (ec_R (ef_a w (1 + j) c), w') ∧ ec_W hb_A w' := by
  have t0 : ec_tw 0 = 0 := rfl
  have t1 : ec_tw 1 = 1 := rfl
  rcases (show ec_tw x2 = 0 ∨ ec_tw x2 = 1 ∨ ec_tw x2 = 2 by omega) with k | k | k
  · obtain ⟨_, v, w1, q1, q2⟩ := eg34_1_0_2 h (by rw [k, t0])
    rw [hx] at q1 q2
    obtain ⟨y1, e1, W1, s2, g2⟩ := ew_weigh_1 q1
    injection e1 with e1 i1
    subst i1
    obtain ⟨_, hr, hW⟩ := eg34_1_65c_0 (q2 e1 W1)
    rw [ef_rd] at hr
    exact ⟨1, _, .inl ⟨rfl, k⟩, hr, hW⟩
  · obtain ⟨_, v, w1, q1, q2⟩ := eg34_1_0_1 h (by rw [k, t0]; decide) (by rw [k, t1])
    rw [hx] at q1 q2
    obtain ⟨y1, e1, W1, s2, g2⟩ := ew_weigh_1 q1
    injection e1 with e1 i1
    subst i1
    obtain ⟨_, hr, hW⟩ := eg34_1_65b_0 (q2 e1 W1)
    rw [ef_rd] at hr
    exact ⟨3, _, .inr (.inl ⟨rfl, k⟩), hr, hW⟩
  · obtain ⟨_, v, w1, q1, q2⟩ := eg34_1_0_0 h (by rw [k, t0]; decide) (by rw [k, t1]; decide)
    rw [hx] at q1 q2
    obtain ⟨y1, e1, W1, s2, g2⟩ := ew_weigh_1 q1
    injection e1 with e1 i1
    subst i1
    obtain ⟨_, hr, hW⟩ := eg34_1_65_0 (q2 e1 W1)
    rw [ef_rd] at hr
    exact ⟨4, _, .inr (.inr ⟨rfl, k⟩), hr, hW⟩
theorem ew_setAv {n : Nat} {w : px_W} {r : Option Value × px_W} {x1 x2 x3 : Int} (h : ec_E hb_X n 122 0 [(0, .inr (.inl 64)), (1, .inl x1), (2, .inl x2), (3, .inl x3)] [] w r) : (¬ eh_oks x1 x2 x3 ∧ r.1 = ec_R (-1)) ∨ (eh_oks x1 x2 x3 ∧ ∃ j, eh_j x2 j ∧ r.1 = ec_R (ef_a w (1 + j) (ec_tw x1).toNat)) := by
  have t0 : ec_tw 0 = 0 := rfl
  have t7 : ec_tw 7 = 7 := rfl
  obtain ⟨_, v, w1, q1, q2⟩ := eg122_0_0_0 h
  obtain ⟨e1, W1⟩ := ew_within q1
  injection e1 with e1 i1
  have i2 := i1.symm
  subst i2
  have q3 := q2 _ e1 W1
  rw [t0, t7] at q3
  by_cases g1 : 0 ≤ ec_tw x1 ∧ ec_tw x1 ≤ 7
  · rw [if_pos g1] at q3
    obtain ⟨_, v, w1, q4, q5⟩ := eg122_0_7_1 q3 (by decide)
    obtain ⟨z, e2, W2, hz⟩ := ew_mbA q4
    injection e2 with e2 j1
    have j2 := j1.symm
    subst j2
    have q6 := q5 z e2 W2
    rcases hz with ⟨g2, hz⟩ | ⟨g2, hz⟩
    · obtain ⟨_, v, w1, q7, q8⟩ := eg122_0_15_0 q6 (by rw [hz]; decide)
      obtain ⟨_, e3, W3⟩ := eg110_10_0_0 q7
      injection e3 with e3 k1
      have k2 := k1.symm
      subst k2
      obtain ⟨_, v, w1, q9, q10⟩ := eg122_0_27_0 (q8 e3 W3)
      have b2 : 0 ≤ ec_tw x2 ∧ ec_tw x2 ≤ 2 := by
        unfold eh_okv at g2
        omega
      obtain ⟨j, w2, hj, e4, W4⟩ := ew_chV (c := (ec_tw x1).toNat) (by omega) b2 q9
      injection e4 with e4 k3
      subst k3
      obtain ⟨_, hr, _⟩ := eg122_0_37_0 (q10 _ e4 W4)
      rw [hr]
      have s0 : ef_s [10] w (ec_pf w 10 3 0) := ef_s_pf List.mem_cons_self
      refine .inr ⟨⟨g1, g2⟩, j, hj, ?_⟩
      have hj2 : j = 1 ∨ j = 3 ∨ j = 4 := by
        unfold eh_j at hj
        omega
      exact congrArg ec_R (congrFun (ef_s_a s0 (by simp only [List.mem_singleton]; omega)) _)
    · obtain ⟨_, hr, _⟩ := eg122_0_15_1 q6 (by rw [hz])
      rw [hr]
      exact .inl ⟨fun e => g2 e.2, rfl⟩
  · rw [if_neg g1] at q3
    obtain ⟨_, hr, _⟩ := eg122_0_7_0 q3 rfl
    rw [hr]
    exact .inl ⟨fun e => g1 e.1, rfl⟩
theorem ew_s68v {n : Nat} {w : px_W} {r : Option Value × px_W} {x1 x2 x3 s0 : Int} {c j : Nat} (hc : c < 8) (hx : ec_tw x1 = (c : Int)) (hj : j = 1 ∨ j = 3 ∨ j = 4) (hs : s0 = ((8 + 8 * j : Nat) : Int)) (hp : 0 ≤ (if j = 1 then ec_tw x3 else ef_a w 152 (16 + c))) (h : ec_E hb_X n 192 68 [(0, .inr (.inl 215)), (1, .inl x1), (2, .inl x2), (3, .inl x3)] [.inl s0] w r) : r.1 = ec_R (ef_a w 152 (8 + 8 * j + c)) := by
  have t0 : ec_tw 0 = 0 := rfl
  have ad : ∀ b : Nat, b < 100 → ec_tw ((b : Int) + x1) = ((b + c : Nat) : Int) := by
    intro b hb
    rw [← ec_tw_addr, hx]
    exact (ec_tw_id (by omega) (by omega)).trans (by omega)
  have e16 : ec_tw (16 + x1) = ((16 + c : Nat) : Int) := ad 16 (by decide)
  have e24 : ec_tw (24 + x1) = ((24 + c : Nat) : Int) := ad 24 (by decide)
  have ej : ec_tw (s0 + x1) = ((8 + 8 * j + c : Nat) : Int) := by
    rw [hs]
    exact ad _ (by omega)
  obtain ⟨_, v, w1, q1, q2⟩ := eg192_151_68_0 h
  rw [ej] at q2
  rw [e16, e24, ej] at q1
  have W0 := h.1
  have W1 : ec_W hb_A (ec_wr w 152 ((8 + 8 * j + c : Nat) : Int) x3) := ec_W_wr W0
  have a24 : ec_rd (ec_wr w 152 ((8 + 8 * j + c : Nat) : Int) x3) 152 ((24 + c : Nat) : Int) = ef_a w 152 (24 + c) := by
    rw [ec_rd_wr (n := 1580) W0 rfl (by omega) (by omega) (by omega), if_neg (by omega), ef_rd]
  have a16 : ec_rd (ec_wr w 152 ((8 + 8 * j + c : Nat) : Int) x3) 152 ((16 + c : Nat) : Int) = if j = 1 then ec_tw x3 else ef_a w 152 (16 + c) := by
    rw [ec_rd_wr (n := 1580) W0 rfl (by omega) (by omega) (by omega)]
    by_cases h1 : j = 1
    · rw [if_pos (by omega), if_pos h1]
    · rw [if_neg (by omega), if_neg h1, ef_rd]
  rw [a24, a16] at q1
  have tb : ec_tw (if j = 1 then ec_tw x3 else ef_a w 152 (16 + c)) = if j = 1 then ec_tw x3 else ef_a w 152 (16 + c) := by
    by_cases h1 : j = 1
    · rw [if_pos h1, ec_tw_tw]
    · rw [if_neg h1, ef_tw]
  obtain ⟨z, e1, W2, f1⟩ := ew_witB (by rw [t0, tb]; exact hp) q1
  injection e1 with e1 i1
  have i2 := i1.symm
  subst i2
  obtain ⟨_, hr, hW⟩ := eg192_151_121_0 (q2 z e1 W2)
  exact congrArg Prod.fst hr
theorem ew_setBv {n : Nat} {w : px_W} {r : Option Value × px_W} {x1 x2 x3 : Int} (hp : ∀ c, c < 8 → 0 ≤ ef_a w 152 (16 + c)) (h : ec_E hb_X n 192 0 [(0, .inr (.inl 215)), (1, .inl x1), (2, .inl x2), (3, .inl x3)] [] w r) : (¬ eh_oks x1 x2 x3 ∧ r.1 = ec_R (-1)) ∨ (eh_oks x1 x2 x3 ∧ ∃ j, eh_j x2 j ∧ r.1 = ec_R (ef_a w 152 (8 + 8 * j + (ec_tw x1).toNat))) := by
  have t0 : ec_tw 0 = 0 := rfl
  have t1 : ec_tw 1 = 1 := rfl
  have t2 : ec_tw 2 = 2 := rfl
  have t9 : ec_tw 9 = 9 := rfl
  have t10 : ec_tw 10 = 10 := rfl
  have t999 : ec_tw 999 = 999 := rfl
  obtain ⟨_, v, w1, q1, q2⟩ := eg192_151_0_0 h
  obtain ⟨e1, W1⟩ := ew_isCell q1
  injection e1 with e1 i1
  have i2 := i1.symm
  subst i2
  have q3 := q2 _ e1 W1
  by_cases g1 : 0 ≤ ec_tw x1 ∧ ec_tw x1 ≤ 7
  · rw [if_pos g1] at q3
    obtain ⟨_, v, w1, q4, q5⟩ := eg192_151_4_1 q3 (by decide)
    obtain ⟨e2, W2⟩ := ew_in q4
    injection e2 with e2 j1
    have j2 := j1.symm
    subst j2
    have q6 := q5 _ e2 W2
    rw [t0, t2] at q6
    have hc : (ec_tw x1).toNat < 8 := by omega
    have hx : ec_tw x1 = ((ec_tw x1).toNat : Int) := by omega
    by_cases g2 : 0 ≤ ec_tw x2 ∧ ec_tw x2 ≤ 2
    · rw [if_pos g2] at q6
      by_cases k : ec_tw x2 = 0
      · have q7 := (eg192_151_27_1 (eg192_151_13_2 q6 (by decide) (by rw [k, t0])).2 (by rw [k, t0])).2
        obtain ⟨_, v, w1, q8, q9⟩ := eg192_151_39_0 q7
        obtain ⟨e3, W3⟩ := ew_in q8
        injection e3 with e3 k1
        have k2 := k1.symm
        subst k2
        have q10 := q9 _ e3 W3
        rw [t10, t999] at q10
        by_cases g3 : 10 ≤ ec_tw x3 ∧ ec_tw x3 ≤ 999
        · rw [if_pos g3] at q10
          have q11 := (eg192_151_42_2 q10 (by decide) (by rw [k, t0])).2
          exact .inr ⟨⟨g1, .inl ⟨k, g3⟩⟩, 1, .inl ⟨rfl, k⟩, ew_s68v (j := 1) hc hx (.inl rfl) rfl (by rw [if_pos rfl]; omega) q11⟩
        · rw [if_neg g3] at q10
          obtain ⟨_, hr, _⟩ := eg192_151_42_3 q10 rfl
          rw [hr]
          exact .inl ⟨fun e => by have := e.2; unfold eh_okv at this; omega, rfl⟩
      · have q7 := (eg192_151_27_0 (eg192_151_13_1 q6 (by decide) (by rw [t0]; exact k)).2 (by rw [t0]; exact k)).2
        obtain ⟨_, v, w1, q8, q9⟩ := eg192_151_39_0 q7
        obtain ⟨e3, W3⟩ := ew_in q8
        injection e3 with e3 k1
        have k2 := k1.symm
        subst k2
        have q10 := q9 _ e3 W3
        rw [t0, t9] at q10
        by_cases g3 : 0 ≤ ec_tw x3 ∧ ec_tw x3 ≤ 9
        · rw [if_pos g3] at q10
          by_cases k1 : ec_tw x2 = 1
          · have q11 := (eg192_151_42_1 q10 (by decide) (by rw [t0]; exact k) (by rw [k1, t1])).2
            exact .inr ⟨⟨g1, .inr ⟨by omega, g3⟩⟩, 3, .inr (.inl ⟨rfl, k1⟩), ew_s68v (j := 3) hc hx (.inr (.inl rfl)) rfl (by rw [if_neg (by decide)]; exact hp _ hc) q11⟩
          · have q11 := (eg192_151_42_0 q10 (by decide) (by rw [t0]; exact k) (by rw [t1]; exact k1)).2
            exact .inr ⟨⟨g1, .inr ⟨by omega, g3⟩⟩, 4, .inr (.inr ⟨rfl, by omega⟩), ew_s68v (j := 4) hc hx (.inr (.inr rfl)) rfl (by rw [if_neg (by decide)]; exact hp _ hc) q11⟩
        · rw [if_neg g3] at q10
          obtain ⟨_, hr, _⟩ := eg192_151_42_3 q10 rfl
          rw [hr]
          exact .inl ⟨fun e => by have := e.2; unfold eh_okv at this; omega, rfl⟩
    · rw [if_neg g2] at q6
      obtain ⟨_, hr, _⟩ := eg192_151_13_0 q6 rfl
      rw [hr]
      exact .inl ⟨fun e => by have := e.2; unfold eh_okv at this; omega, rfl⟩
  · rw [if_neg g1] at q3
    obtain ⟨_, hr, _⟩ := eg192_151_4_0 q3 rfl
    rw [hr]
    exact .inl ⟨fun e => g1 e.1, rfl⟩
theorem ew_set3 {xs : List Int32} {x1 x2 x3 : Int} {n : Nat} {w wA wB : px_W} {vA vB : Option Value} (hR : eh_RR w) (hA : ec_F (hb_XL xs) n 122 [.inr (.inl 64), .inl x1, .inl x2, .inl x3] w (vA, wA)) (hB : ec_F (hb_XL xs) n 192 [.inr (.inl 215), .inl x1, .inl x2, .inl x3] wA (vB, wB)) : vA = vB ∧ eh_RR wB := by
  refine ⟨?_, ew_set2 hR hA hB⟩
  obtain ⟨⟨h1, h2, h3, h4⟩, hw, hkp⟩ := hR
  have r16 : ∀ c, c < 8 → ef_a w 152 (16 + c) = ef_a w 2 c := fun c hc => h1 1 c (by decide) (by decide) hc (fun e => absurd e (by decide))
  have hD : ∀ c, c < 8 → (0 ≤ ef_a w 3 c ∧ ef_a w 3 c ≤ ef_a w 2 c) ∧ (10 ≤ ef_a w 2 c ∧ ef_a w 2 c ≤ 999) ∧ (0 ≤ ef_a w 4 c ∧ ef_a w 4 c ≤ 9) ∧ (0 ≤ ef_a w 5 c ∧ ef_a w 5 c ≤ 9) := h2
  have hv := ew_setAv (hb_FE hA)
  rcases ew_setA (hb_FE hA) with ⟨g1, g2⟩ | ⟨g1, j, hj, sA, fA, dA, rA⟩
  · have g3 : wA = w := g2
    rw [g3] at hB
    rcases ew_setBv (fun c hc => by have := hD c hc; rw [r16 c hc]; omega) (hb_FE hB) with ⟨k1, k2⟩ | ⟨k1, _⟩
    · rcases hv with ⟨_, a2⟩ | ⟨a1, _⟩
      · exact (show vA = ec_R (-1) from a2).trans (show vB = ec_R (-1) from k2).symm
      · exact absurd a1 g1
    · exact absurd k1 g1
  · have sA' : ef_s [1, 2, 3, 4, 5, 10] w wA := sA
    have d152 : ef_a wA 152 = ef_a w 152 := ef_s_a sA' (by decide)
    rcases ew_setBv (fun c hc => by have := hD c hc; rw [d152, r16 c hc]; omega) (hb_FE hB) with ⟨k1, _⟩ | ⟨_, j2, hj2, k2⟩
    · exact absurd g1 k1
    · rcases hv with ⟨a1, _⟩ | ⟨_, j1, hj1, a2⟩
      · exact absurd g1 a1
      · have ej : j2 = j1 := by
          unfold eh_j at hj1 hj2
          omega
        subst ej
        have b1 := g1.1
        have hc : (ec_tw x1).toNat < 8 := by omega
        have hj3 : 1 ≤ j2 ∧ j2 ≤ 4 := by
          unfold eh_j at hj2
          omega
        have e : ef_a w 152 (8 + 8 * j2 + (ec_tw x1).toNat) = ef_a w (1 + j2) (ec_tw x1).toNat := h1 j2 _ (by omega) (by omega) hc (fun e => by omega)
        have a3 : vA = ec_R (ef_a w (1 + j2) (ec_tw x1).toNat) := a2
        have k3 : vB = ec_R (ef_a wA 152 (8 + 8 * j2 + (ec_tw x1).toNat)) := k2
        rw [a3, k3, d152, e]

end

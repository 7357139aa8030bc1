noncomputable section
/-! LEGS are the same on both sides; run and leg at the law's head -/
def el_P : ej_T := fun F R D => ∃ N : Nat, N ≤ 7 ∧ F 52 0 = (N : Int) ∧ D 11 = (N : Int) ∧ ∀ i, i < N → (R 54 i = D (354 + 2 * i) ∧ 1 ≤ R 54 i ∧ R 54 i ≤ 99) ∧ R 55 i = D (354 + 2 * i + 1) ∧ 0 ≤ R 55 i ∧ R 55 i ≤ 9
def el_FL : List (Nat × Nat) := [(52, 0)]
def el_RL : List (Nat × Nat) := [(54, 7), (55, 7)]
def el_DL : List (Nat × Nat) := [(11, 12), (354, 368)]
theorem el_dep : ej_dep el_FL el_RL el_DL el_P := by
  intro F F' R R' D D' hF hR hD h
  obtain ⟨N, h7, h1, h2, h3⟩ := h
  have f0 : F' 52 0 = F 52 0 := hF (52, 0) List.mem_cons_self
  have r54 : ∀ p, p < 7 → R' 54 p = R 54 p := hR (54, 7) List.mem_cons_self
  have r55 : ∀ p, p < 7 → R' 55 p = R 55 p := hR (55, 7) (List.mem_cons_of_mem _ List.mem_cons_self)
  have d11 : D' 11 = D 11 := hD (11, 12) List.mem_cons_self 11 (by decide) (by decide)
  have d354 : ∀ p, 354 ≤ p → p < 368 → D' p = D p := hD (354, 368) (List.mem_cons_of_mem _ List.mem_cons_self)
  refine ⟨N, h7, f0.trans h1, d11.trans h2, fun i hi => ?_⟩
  rw [r54 i (by omega), r55 i (by omega), d354 (354 + 2 * i) (by omega) (by omega), d354 (354 + 2 * i + 1) (by omega) (by omega)]
  exact h3 i hi
def el_RR (w : px_W) : Prop := ej_RR el_P w
def el_dc : List (Nat × Nat × Nat) := ej_dc el_FL el_RL el_DL
theorem el_dc_st {w w' : px_W} (hW : ec_W hb_A w) (hW' : ec_W hb_A w') (h : ∀ p ∈ el_dc, ∀ i, p.2.1 ≤ i → i < p.2.2 → sy_get w' p.1 i = sy_get w p.1 i) (hR : el_RR w) : el_RR w' := ej_dc_st (by decide +kernel) el_dep hW hW' h hR
theorem el_keep2 {xs : List Int32} {n : Nat} {w wA wB : px_W} {vA vB : Option Value} (hR : el_RR w) (hA : ec_F (hb_XL xs) n 171 [.inr (.inl 64)] w (vA, wA)) (hB : ec_F (hb_XL xs) n 292 [.inr (.inl 215)] wA (vB, wB)) : el_RR wB := ej_keep2 (by decide +kernel) (by decide +kernel) el_dep hR hA hB
theorem el_again2 {xs : List Int32} {n : Nat} {w wA wB : px_W} {vA vB : Option Value} (hR : el_RR w) (hA : ec_F (hb_XL xs) n 172 [.inr (.inl 64)] w (vA, wA)) (hB : ec_F (hb_XL xs) n 293 [.inr (.inl 215)] wA (vB, wB)) : el_RR wB := ej_again2 (by decide +kernel) (by decide +kernel) el_dep hR hA hB
theorem el_run2 {xs : List Int32} {n : Nat} {w wA wB : px_W} {vA vB : Option Value} {x1 x2 : Int} (hR : el_RR w) (r1 : -2147483648 ≤ x1 ∧ x1 ≤ 2147483647) (r2 : -2147483648 ≤ x2 ∧ x2 ≤ 2147483647) (hA : ec_F (hb_XL xs) n 161 [.inr (.inl 64), .inl x1, .inl x2] w (vA, wA)) (hB : ec_F (hb_XL xs) n 269 [.inr (.inl 215), .inl x1, .inl x2] wA (vB, wB)) : vA = vB ∧ el_RR wB := by
  obtain ⟨N, h7, h1, h2, h3⟩ := hR.1
  have q1 : ec_fd w 52 0 = (N : Int) := h1
  have q2 : ef_a w 152 11 = (N : Int) := h2
  have q3 : ∀ i, i < N → (ef_a w 54 i = ef_a w 152 (354 + 2 * i) ∧ 1 ≤ ef_a w 54 i ∧ ef_a w 54 i ≤ 99) ∧ ef_a w 55 i = ef_a w 152 (354 + 2 * i + 1) ∧ 0 ≤ ef_a w 55 i ∧ ef_a w 55 i ≤ 9 := h3
  obtain ⟨w1, e1, W1, S1, f1⟩ := ew_runA (mi := ef_a w 54) (ic := ef_a w 55) h7 r1 r2 (fun i hi => ⟨(q3 i hi).1.2, (q3 i hi).2.2⟩) q1 (fun i hi => ⟨rfl, rfl⟩) (hb_FE hA)
  injection e1 with e1 i1
  subst i1
  have d1 : ef_a wA 152 = ef_a w 152 := ef_s_a S1 (by decide)
  obtain ⟨e2, W2⟩ := ew_runB (mi := ef_a w 54) (ic := ef_a w 55) (N := N) h7 r1 r2 (fun i hi => ⟨(q3 i hi).1.2, (q3 i hi).2.2⟩) (by rw [d1]; exact q2) (fun i hi => by rw [d1]; exact ⟨(q3 i hi).1.1.symm, (q3 i hi).2.1.symm⟩) (hb_FE hB)
  injection e2 with e2 i2
  refine ⟨e1.trans e2.symm, ?_⟩
  rw [i2]
  refine ej_RR_of el_dep (ef_s_f S1 (by decide) 14) (ef_s_f S1 (by decide) 2) (fun q hq => ?_) (fun q hq p hp => ?_) (fun q hq p _ _ => ⟨congrFun d1 p, congrFun (ef_s_a S1 (by decide)) p⟩) hR
  · have e := List.mem_singleton.mp hq
    rw [e]
    exact ⟨f1.trans q1.symm, ef_s_f S1 (by decide) 0⟩
  · rcases List.mem_cons.mp hq with e | hq
    · rw [e]
      exact ⟨congrFun (ef_s_a S1 (by decide)) p, congrFun (ef_s_a S1 (by decide)) p⟩
    · have e := List.mem_singleton.mp hq
      rw [e]
      exact ⟨congrFun (ef_s_a S1 (by decide)) p, congrFun (ef_s_a S1 (by decide)) p⟩
/-! leg -/
def el_ok (N : Nat) (x1 x2 : Int) : Prop := (1 ≤ ec_tw x1 ∧ ec_tw x1 ≤ 99) ∧ (0 ≤ ec_tw x2 ∧ ec_tw x2 ≤ 9) ∧ N < 7
theorem ew_legA {n N : Nat} {w wA : px_W} {vA : Option Value} {x1 x2 : Int} (h7 : N ≤ 7) (h0 : ec_fd w 52 0 = (N : Int)) (h : ec_E hb_X n 160 0 [(0, .inr (.inl 64)), (1, .inl x1), (2, .inl x2)] [] w (vA, wA)) : (¬ el_ok N x1 x2 ∧ wA = w) ∨ (el_ok N x1 x2 ∧ wA = ec_pf (ec_wr (ec_wr w 54 (N : Int) x1) 55 (N : Int) x2) 52 0 ((N : Int) + 1)) := by
  have t0 : ec_tw 0 = 0 := rfl
  have t1 : ec_tw 1 = 1 := rfl
  have t7 : ec_tw 7 = 7 := rfl
  have t9 : ec_tw 9 = 9 := rfl
  have t99 : ec_tw 99 = 99 := rfl
  have tN : ec_tw (N : Int) = N := ec_twn (by omega)
  obtain ⟨_, v1, w1, a1, a2⟩ := eg160_0_0_0 h
  obtain ⟨e1, W1⟩ := ew_within a1
  rw [t1, t99] at e1
  injection e1 with e1 i1
  have i1 := i1.symm
  subst i1
  have a3 := a2 _ e1 W1
  by_cases p1 : 1 ≤ ec_tw x1 ∧ ec_tw x1 ≤ 99
  · rw [if_pos p1] at a3
    obtain ⟨_, v2, w2, a4, a5⟩ := eg160_0_7_1 a3 (by decide)
    obtain ⟨e2, W2⟩ := ew_within a4
    rw [t0, t9] at e2
    injection e2 with e2 i2
    have i2 := i2.symm
    subst i2
    have a6 := a5 _ e2 W2
    by_cases p2 : 0 ≤ ec_tw x2 ∧ ec_tw x2 ≤ 9
    · rw [if_pos p2] at a6
      have j0 := eg160_0_17_0 a6 (by decide)
      have j1 := eg160_0_17_1 a6 (by decide)
      rw [h0, tN, t7] at j0 j1
      by_cases p3 : N < 7
      · obtain ⟨_, v3, w3, a7, a8⟩ := j0 (by omega)
        obtain ⟨_, e3, W3⟩ := eg46_52_0_0 a7
        rw [h0, tN, ec_fd_wr_o (by decide), h0, tN, ec_fd_wr_o (by decide), ec_fd_wr_o (by decide), h0] at e3 W3
        injection e3 with e3 i3
        have i3 := i3.symm
        subst i3
        obtain ⟨_, hr, _⟩ := eg160_0_48_0 (a8 _ e3 W3)
        injection hr with _ hr
        exact .inr ⟨⟨p1, p2, p3⟩, hr⟩
      · obtain ⟨_, hr, _⟩ := j1 (by omega)
        injection hr with _ hr
        exact .inl ⟨fun e => p3 e.2.2, hr⟩
    · rw [if_neg p2] at a6
      obtain ⟨_, hr, _⟩ := eg160_0_17_2 a6 rfl
      injection hr with _ hr
      exact .inl ⟨fun e => p2 e.2.1, hr⟩
  · rw [if_neg p1] at a3
    obtain ⟨_, hr, _⟩ := eg160_0_7_0 a3 rfl
    injection hr with _ hr
    exact .inl ⟨fun e => p1 e.1, hr⟩
theorem ew_legB {n N : Nat} {w wB : px_W} {vB : Option Value} {x1 x2 : Int} (h7 : N ≤ 7) (h0 : ef_a w 152 11 = (N : Int)) (h : ec_E hb_X n 268 0 [(0, .inr (.inl 215)), (1, .inl x1), (2, .inl x2)] [] w (vB, wB)) : (¬ el_ok N x1 x2 ∧ wB = w) ∨ (el_ok N x1 x2 ∧ wB = ec_wr (ec_wr (ec_wr w 152 ((354 + 2 * N : Nat) : Int) x1) 152 ((354 + 2 * N + 1 : Nat) : Int) x2) 152 ((11 : Nat) : Int) ((N : Int) + 1)) := by
  have t0 : ec_tw 0 = 0 := rfl
  have t1 : ec_tw 1 = 1 := rfl
  have t7 : ec_tw 7 = 7 := rfl
  have t9 : ec_tw 9 = 9 := rfl
  have t99 : ec_tw 99 = 99 := rfl
  have t11 : ec_tw 11 = ((11 : Nat) : Int) := rfl
  have tN : ec_tw (N : Int) = N := ec_twn (by omega)
  obtain ⟨_, v1, w1, a1, a2⟩ := eg268_151_0_0 h
  obtain ⟨e1, W1⟩ := ew_in a1
  rw [t1, t99] at e1
  injection e1 with e1 i1
  have i1 := i1.symm
  subst i1
  have a3 := a2 _ e1 W1
  by_cases p1 : 1 ≤ ec_tw x1 ∧ ec_tw x1 ≤ 99
  · rw [if_pos p1] at a3
    obtain ⟨_, v2, w2, a4, a5⟩ := eg268_151_7_1 a3 (by decide)
    obtain ⟨e2, W2⟩ := ew_in a4
    rw [t0, t9] at e2
    injection e2 with e2 i2
    have i2 := i2.symm
    subst i2
    have a6 := a5 _ e2 W2
    by_cases p2 : 0 ≤ ec_tw x2 ∧ ec_tw x2 ≤ 9
    · rw [if_pos p2] at a6
      have j0 := eg268_151_17_0 a6 (by decide)
      have j1 := eg268_151_17_1 a6 (by decide)
      rw [t11, ef_rd w 152 11, h0, tN, t7] at j0 j1
      by_cases p3 : N < 7
      · obtain ⟨_, hr, _⟩ := j0 (by omega)
        have u1 : ∀ i : Nat, 354 ≤ i → i < 1580 → ef_a (ec_wr w 152 (i : Int) x1) 152 11 = (N : Int) := fun i hi hi2 => by
          rw [ef_a_wr (n := 1580) W2 rfl (by omega) (by omega)]
          unfold ef_u
          rw [Int.toNat_natCast, if_neg (by omega)]
          exact h0
        have u2 : ∀ i k : Nat, 354 ≤ i → i < 1580 → 354 ≤ k → k < 1580 → ef_a (ec_wr (ec_wr w 152 (i : Int) x1) 152 (k : Int) x2) 152 11 = (N : Int) := fun i k hi hi2 hk hk2 => by
          rw [ef_a_wr (n := 1580) (ec_W_wr W2) rfl (by omega) (by omega)]
          unfold ef_u
          rw [Int.toNat_natCast, if_neg (by omega)]
          exact u1 i hi hi2
        have p1' : ec_tw (354 + 2 * (N : Int)) = ((354 + 2 * N : Nat) : Int) := by
          rw [ec_tw_id (by omega) (by omega)]
          omega
        have p2' : ec_tw (354 + 2 * (N : Int) + 1) = ((354 + 2 * N + 1 : Nat) : Int) := by
          rw [ec_tw_id (by omega) (by omega)]
          omega
        rw [p1', ef_rd (ec_wr w 152 ((354 + 2 * N : Nat) : Int) x1) 152 11, u1 (354 + 2 * N) (by omega) (by omega), p2', ef_rd (ec_wr (ec_wr w 152 ((354 + 2 * N : Nat) : Int) x1) 152 ((354 + 2 * N + 1 : Nat) : Int) x2) 152 11, u2 (354 + 2 * N) (354 + 2 * N + 1) (by omega) (by omega) (by omega) (by omega)] at hr
        injection hr with _ hr
        exact .inr ⟨⟨p1, p2, p3⟩, hr⟩
      · obtain ⟨_, hr, _⟩ := j1 (by omega)
        injection hr with _ hr
        exact .inl ⟨fun e => p3 e.2.2, hr⟩
    · rw [if_neg p2] at a6
      obtain ⟨_, hr, _⟩ := eg268_151_17_2 a6 rfl
      injection hr with _ hr
      exact .inl ⟨fun e => p2 e.2.1, hr⟩
  · rw [if_neg p1] at a3
    obtain ⟨_, hr, _⟩ := eg268_151_7_0 a3 rfl
    injection hr with _ hr
    exact .inl ⟨fun e => p1 e.1, hr⟩
theorem el_leg2 {xs : List Int32} {n : Nat} {w wA wB : px_W} {vA vB : Option Value} {x1 x2 : Int} (hR : el_RR w) (hA : ec_F (hb_XL xs) n 160 [.inr (.inl 64), .inl x1, .inl x2] w (vA, wA)) (hB : ec_F (hb_XL xs) n 268 [.inr (.inl 215), .inl x1, .inl x2] wA (vB, wB)) : el_RR wB := by
  obtain ⟨N, h7, h1, h2, h3⟩ := hR.1
  have q1 : ec_fd w 52 0 = (N : Int) := h1
  have q2 : ef_a w 152 11 = (N : Int) := h2
  have q3 : ∀ i, i < N → (ef_a w 54 i = ef_a w 152 (354 + 2 * i) ∧ 1 ≤ ef_a w 54 i ∧ ef_a w 54 i ≤ 99) ∧ ef_a w 55 i = ef_a w 152 (354 + 2 * i + 1) ∧ 0 ≤ ef_a w 55 i ∧ ef_a w 55 i ≤ 9 := h3
  have W0 := hA.1
  rcases ew_legA h7 q1 (hb_FE hA) with ⟨p, e⟩ | ⟨p, e⟩
  · rw [e] at hB
    rcases ew_legB h7 q2 (hb_FE hB) with ⟨_, e2⟩ | ⟨p2, _⟩
    · rw [e2]
      exact hR
    · exact absurd p2 p
  · have Wa : ec_W hb_A (ec_wr w 54 (N : Int) x1) := ec_W_wr W0
    have Wb : ec_W hb_A (ec_wr (ec_wr w 54 (N : Int) x1) 55 (N : Int) x2) := ec_W_wr Wa
    obtain ⟨⟨c1, c2⟩, ⟨c3, c4⟩, c5⟩ := p
    have s1 : ef_s [52, 54, 55] w wA := by
      rw [e]
      exact ef_s_trans (ef_s_trans (ef_s_wr (by decide)) (ef_s_wr (by decide))) (ef_s_pf (by decide))
    have f52 : ec_fd wA 52 0 = (N : Int) + 1 := by
      rw [e, ec_fd_pf (k := 52) (f := 0) Wb rfl (by decide), if_pos rfl, ec_tw_id (by omega) (by omega)]
    have a54 : ∀ i, ef_a wA 54 i = if i = N then ec_tw x1 else ef_a w 54 i := by
      intro i
      rw [e, ef_s_a (ef_s_pf (S := [52]) List.mem_cons_self) (by decide), ef_a_wr_o (by decide), ef_a_wr (n := 7) W0 rfl (by omega) (by omega)]
      unfold ef_u
      rw [Int.toNat_natCast]
    have a55 : ∀ i, ef_a wA 55 i = if i = N then ec_tw x2 else ef_a w 55 i := by
      intro i
      rw [e, ef_s_a (ef_s_pf (S := [52]) List.mem_cons_self) (by decide), ef_a_wr (n := 7) Wa rfl (by omega) (by omega), ef_a_wr_o (by decide)]
      unfold ef_u
      rw [Int.toNat_natCast]
    have d1 : ef_a wA 152 = ef_a w 152 := ef_s_a s1 (by decide)
    have WA : ec_W hb_A wA := hB.1
    rcases ew_legB (w := wA) h7 (by rw [d1]; exact q2) (hb_FE hB) with ⟨p2, _⟩ | ⟨_, e2⟩
    · exact absurd ⟨⟨c1, c2⟩, ⟨c3, c4⟩, c5⟩ p2
    · have s2 : ef_s [152] wA wB := by
        rw [e2]
        exact ef_s_trans (ef_s_trans (ef_s_wr (by decide)) (ef_s_wr (by decide))) (ef_s_wr (by decide))
      have Wc : ec_W hb_A (ec_wr wA 152 ((354 + 2 * N : Nat) : Int) x1) := ec_W_wr WA
      have Wd : ec_W hb_A (ec_wr (ec_wr wA 152 ((354 + 2 * N : Nat) : Int) x1) 152 ((354 + 2 * N + 1 : Nat) : Int) x2) := ec_W_wr Wc
      have d2 : ∀ p, ef_a wB 152 p = if p = 11 then (N : Int) + 1 else if p = 354 + 2 * N + 1 then ec_tw x2 else if p = 354 + 2 * N then ec_tw x1 else ef_a w 152 p := by
        intro p
        rw [e2, ef_a_wr (n := 1580) Wd rfl (by omega) (by omega), ef_a_wr (n := 1580) Wc rfl (by omega) (by omega), ef_a_wr (n := 1580) WA rfl (by omega) (by omega), d1, ec_tw_id (a := (N : Int) + 1) (by omega) (by omega)]
        unfold ef_u
        rw [Int.toNat_natCast, Int.toNat_natCast, Int.toNat_natCast]
      have s12 : ∀ k, k ∉ [52, 54, 55, 152] → wB[k]? = w[k]? := fun k hk => ((ef_s_mono s2 (by decide) : ef_s [52, 54, 55, 152] wA wB) k hk).trans ((ef_s_mono s1 (by decide) : ef_s [52, 54, 55, 152] w wA) k hk)
      have s12' : ef_s [52, 54, 55, 152] w wB := s12
      refine ⟨⟨N + 1, by omega, ?_, ?_, fun i hi => ?_⟩, ?_⟩
      · show ec_fd wB 52 0 = ((N + 1 : Nat) : Int)
        rw [ef_s_f s2 (by decide), f52]
        omega
      · show ef_a wB 152 11 = ((N + 1 : Nat) : Int)
        rw [d2, if_pos rfl]
        omega
      · show (ef_a wB 54 i = ef_a wB 152 (354 + 2 * i) ∧ 1 ≤ ef_a wB 54 i ∧ ef_a wB 54 i ≤ 99) ∧ ef_a wB 55 i = ef_a wB 152 (354 + 2 * i + 1) ∧ 0 ≤ ef_a wB 55 i ∧ ef_a wB 55 i ≤ 9
        rw [ef_s_a s2 (k := 54) (by decide), ef_s_a s2 (k := 55) (by decide), a54, a55, d2 (354 + 2 * i), d2 (354 + 2 * i + 1), if_neg (by omega : ¬ 354 + 2 * i = 11), if_neg (by omega : ¬ 354 + 2 * i = 354 + 2 * N + 1), if_neg (by omega : ¬ 354 + 2 * i + 1 = 11)]
        by_cases q : i = N
        · rw [if_pos q, if_pos q, if_pos (by omega : 354 + 2 * i = 354 + 2 * N), if_pos (by omega : 354 + 2 * i + 1 = 354 + 2 * N + 1)]
          exact ⟨⟨rfl, c1, c2⟩, rfl, c3, c4⟩
        · rw [if_neg q, if_neg q, if_neg (by omega : ¬ 354 + 2 * i = 354 + 2 * N), if_neg (by omega : ¬ 354 + 2 * i + 1 = 354 + 2 * N + 1), if_neg (by omega : ¬ 354 + 2 * i + 1 = 354 + 2 * N)]
          exact q3 i (by omega)
      · have k1 : ec_fd wB 0 14 = ec_fd w 0 14 := ef_s_f s12' (by decide) 14
        have k2 : ec_fd wB 151 2 = ec_fd w 151 2 := ef_s_f s12' (by decide) 2
        rcases hR.2 with ⟨g1, g2⟩ | ⟨g1, g2, g3⟩
        · exact .inl ⟨k1.trans g1, k2.trans g2⟩
        · refine .inr ⟨k1.trans g1, k2.trans g2, ej_P_of el_dep (fun q hq => ?_) (fun q hq p hp => ?_) (fun q hq p _ _ => congrFun (ef_s_a s12' (by decide)) p) g3⟩
          · have eq := List.mem_singleton.mp hq
            rw [eq]
            exact ef_s_f s12' (by decide) 0
          · rcases List.mem_cons.mp hq with eq | hq
            · rw [eq]
              exact congrFun (ef_s_a s12' (by decide)) p
            · have eq := List.mem_singleton.mp hq
              rw [eq]
              exact congrFun (ef_s_a s12' (by decide)) p

end

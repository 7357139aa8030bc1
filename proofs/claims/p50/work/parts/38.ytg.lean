noncomputable section
/-! SHIPS and CALLS are the same on both sides, live and kept -/
theorem ec_rm_tw (a b : Int) : ec_rm (ec_tw a) b = ec_rm a b := by
  unfold ec_rm
  rw [ec_of_tw]
theorem ec_rm_eq (a b : Int) : ec_rm a b = ec_tw (a - ec_dv a b * b) := by
  unfold ec_rm ec_tw ec_dv
  rw [Int32.ofInt_sub, Int32.ofInt_mul, Int32.ofInt_toInt]
theorem ec_rm_nn {a b : Int} (h1 : 0 ≤ a) (h2 : a ≤ 2147483647) (h3 : 0 < b) (h4 : b ≤ 2147483647) : ec_rm a b = a % b := by
  rw [ec_rm_eq, ec_dv_nn h1 h2 h3 h4]
  have e : a - a / b * b = a % b := by
    rw [Int.emod_def, Int.mul_comm]
  rw [e]
  have n1 := Int.emod_nonneg a (Int.ne_of_gt h3)
  have n2 := Int.emod_lt_of_pos a h3
  exact ec_tw_id (by omega) (by omega)
theorem em_w1 {w : px_W} {k n p : Nat} {sg : sy_Sg} {z : Int} (hW : ec_W hb_A w) (ha : hb_A[k]? = some (.inl (n, sg))) (hp : p < n) : ec_W hb_A (ec_wr w k (p : Int) z) ∧ ef_s [k] w (ec_wr w k (p : Int) z) ∧ ∀ i, ef_a (ec_wr w k (p : Int) z) k i = if i = p then ec_tw z else ef_a w k i := by
  refine ⟨ec_W_wr hW, ef_s_wr List.mem_cons_self, fun i => ?_⟩
  rw [ef_a_wr (n := n) hW ha (by omega) (by omega)]
  unfold ef_u
  rw [Int.toNat_natCast]
def em_far (a b : Int) : Int := (if a < 50 then 50 - a else a - 50) + (if b < 50 then 50 - b else b - 50)
theorem em_far_in {a b : Int} (h1 : 0 ≤ a ∧ a ≤ 99) (h2 : 0 ≤ b ∧ b ≤ 99) : 0 ≤ em_far a b ∧ em_far a b ≤ 100 := by
  unfold em_far
  split <;> split <;> omega
theorem em_ab {a : Int} (h : 0 ≤ a ∧ a ≤ 99) : ec_ab (a - 50) = if a < 50 then 50 - a else a - 50 := by
  unfold ec_ab
  rw [ec_tw_id (a := a - 50) (by omega) (by omega)]
  by_cases c : a < 50
  · rw [if_neg (by omega), if_pos c]
    omega
  · rw [if_pos (by omega), if_neg c]
def em_P : ej_T := fun F R D => (∃ s : Nat, s ≤ 6 ∧ F 29 1 = (s : Int) ∧ D 6 = (s : Int) ∧ ∀ i, i < s → ((0 ≤ D (248 + 6 * i) ∧ D (248 + 6 * i) ≤ 99) ∧ 0 ≤ D (248 + 6 * i + 1) ∧ D (248 + 6 * i + 1) ≤ 99) ∧ R 30 i = em_far (D (248 + 6 * i)) (D (248 + 6 * i + 1)) ∧ R 31 i = D (248 + 6 * i + 2) ∧ R 32 i = D (248 + 6 * i + 3) ∧ R 33 i = D (248 + 6 * i + 4) ∧ R 34 i = D (248 + 6 * i + 5)) ∧ ∃ k : Nat, k ≤ 10 ∧ F 29 7 = (k : Int) ∧ D 7 = (k : Int) ∧ ∀ c, c < k → R 35 c = D (284 + c) ∧ 0 ≤ R 35 c ∧ R 35 c ≤ 999
def em_FL : List (Nat × Nat) := [(29, 1), (29, 7)]
def em_RL : List (Nat × Nat) := [(30, 6), (31, 6), (32, 6), (33, 6), (34, 6), (35, 10)]
def em_DL : List (Nat × Nat) := [(6, 8), (248, 294)]
theorem em_dep : ej_dep em_FL em_RL em_DL em_P := by
  intro F F' R R' D D' hF hR hD h
  obtain ⟨⟨s, hs, h1, h2, h3⟩, k, hk, g1, g2, g3⟩ := h
  have f1 : F' 29 1 = F 29 1 := hF (29, 1) (by decide)
  have f7 : F' 29 7 = F 29 7 := hF (29, 7) (by decide)
  have r30 : ∀ p, p < 6 → R' 30 p = R 30 p := hR (30, 6) (by decide)
  have r31 : ∀ p, p < 6 → R' 31 p = R 31 p := hR (31, 6) (by decide)
  have r32 : ∀ p, p < 6 → R' 32 p = R 32 p := hR (32, 6) (by decide)
  have r33 : ∀ p, p < 6 → R' 33 p = R 33 p := hR (33, 6) (by decide)
  have r34 : ∀ p, p < 6 → R' 34 p = R 34 p := hR (34, 6) (by decide)
  have r35 : ∀ p, p < 10 → R' 35 p = R 35 p := hR (35, 10) (by decide)
  have d6 : ∀ p, 6 ≤ p → p < 8 → D' p = D p := hD (6, 8) (by decide)
  have d248 : ∀ p, 248 ≤ p → p < 294 → D' p = D p := hD (248, 294) (by decide)
  refine ⟨⟨s, hs, f1.trans h1, (d6 6 (by decide) (by decide)).trans h2, fun i hi => ?_⟩, k, hk, f7.trans g1, (d6 7 (by decide) (by decide)).trans g2, fun c hc => ?_⟩
  · rw [r30 i (by omega), r31 i (by omega), r32 i (by omega), r33 i (by omega), r34 i (by omega), d248 (248 + 6 * i) (by omega) (by omega), d248 (248 + 6 * i + 1) (by omega) (by omega), d248 (248 + 6 * i + 2) (by omega) (by omega), d248 (248 + 6 * i + 3) (by omega) (by omega), d248 (248 + 6 * i + 4) (by omega) (by omega), d248 (248 + 6 * i + 5) (by omega) (by omega)]
    exact h3 i hi
  · rw [r35 c (by omega), d248 (284 + c) (by omega) (by omega)]
    exact g3 c hc
def em_R (w : px_W) : Prop := ej_RR em_P w
def em_dcS : List (Nat × Nat × Nat) := ej_dc em_FL em_RL em_DL
theorem em_dcS_st {w w' : px_W} (hW : ec_W hb_A w) (hW' : ec_W hb_A w') (h : ∀ p ∈ em_dcS, ∀ i, p.2.1 ≤ i → i < p.2.2 → sy_get w' p.1 i = sy_get w p.1 i) (hR : em_R w) : em_R w' := ej_dc_st (by decide +kernel) em_dep hW hW' h hR
theorem em_keep2 {xs : List Int32} {n : Nat} {w wA wB : px_W} {vA vB : Option Value} (hR : em_R w) (hA : ec_F (hb_XL xs) n 171 [.inr (.inl 64)] w (vA, wA)) (hB : ec_F (hb_XL xs) n 292 [.inr (.inl 215)] wA (vB, wB)) : em_R wB := ej_keep2 (by decide +kernel) (by decide +kernel) em_dep hR hA hB
theorem em_again2 {xs : List Int32} {n : Nat} {w wA wB : px_W} {vA vB : Option Value} (hR : em_R w) (hA : ec_F (hb_XL xs) n 172 [.inr (.inl 64)] w (vA, wA)) (hB : ec_F (hb_XL xs) n 293 [.inr (.inl 215)] wA (vB, wB)) : em_R wB := ej_again2 (by decide +kernel) (by decide +kernel) em_dep hR hA hB
/-- the kept part, behind writes that don't reach it -/
theorem em_kc {S : List Nat} {w w' : px_W} (s : ef_s S w w') (hS : ∀ k ∈ S, k = 29 ∨ (30 ≤ k ∧ k ≤ 35) ∨ k = 151 ∨ k = 152 ∨ k = 169 ∨ k = 170 ∨ k = 171) (f2 : ec_fd w' 151 2 = ec_fd w 151 2) (h : ej_kc em_P w) : ej_kc em_P w' := by
  have no : ∀ k, k ≠ 29 → (k < 30 ∨ 35 < k) → k ≠ 151 → k ≠ 152 → k < 169 → k ∉ S := fun k n1 n2 n3 n4 n5 e => by
    have := hS k e
    omega
  have k1 : ec_fd w' 0 14 = ec_fd w 0 14 := ef_s_f s (no 0 (by decide) (by decide) (by decide) (by decide) (by decide)) 14
  rcases h with ⟨g1, g2⟩ | ⟨g1, g2, g3⟩
  · exact .inl ⟨k1.trans g1, f2.trans g2⟩
  · refine .inr ⟨k1.trans g1, f2.trans g2, ej_P_of em_dep (fun q hq => ?_) (fun q hq p hp => ?_) (fun q hq p _ _ => congrFun (ef_s_a s (no 153 (by decide) (by decide) (by decide) (by decide) (by decide))) p) g3⟩
    · have e : q.1 = 29 := (by decide : ∀ q ∈ em_FL, q.1 = 29) q hq
      rw [e]
      exact ef_s_f s (no 87 (by decide) (by decide) (by decide) (by decide) (by decide)) _
    · have e : 30 ≤ q.1 ∧ q.1 ≤ 35 := (by decide : ∀ q ∈ em_RL, 30 ≤ q.1 ∧ q.1 ≤ 35) q hq
      exact congrFun (ef_s_a s (no _ (by omega) (by omega) (by omega) (by omega) (by omega))) p
theorem em_f {w w' : px_W} (s : ef_s [151, 169, 170, 171] w w') (f : ∀ g, g < 24 → ec_fd w' 151 g = ec_fd w 151 g) (h : em_R w) : em_R w' := by
  refine ⟨ej_P_of em_dep (fun q hq => ?_) (fun q hq p hp => ?_) (fun q hq p _ _ => congrFun (ef_s_a s (by decide)) p) h.1, em_kc s (by decide) (f 2 (by decide)) h.2⟩
  · have e : q.1 = 29 := (by decide : ∀ q ∈ em_FL, q.1 = 29) q hq
    rw [e]
    exact ef_s_f s (by decide) _
  · have e : 30 ≤ q.1 ∧ q.1 ≤ 35 := (by decide : ∀ q ∈ em_RL, 30 ≤ q.1 ∧ q.1 ≤ 35) q hq
    refine congrFun (ef_s_a s (fun z => ?_)) p
    simp only [List.mem_cons, List.not_mem_nil, or_false] at z
    omega
/-! ship -/
def em_ok (s : Nat) (x1 x2 x3 x4 : Int) : Prop := (0 ≤ ec_tw x1 ∧ ec_tw x1 ≤ 9999) ∧ (1 ≤ ec_tw x2 ∧ ec_tw x2 ≤ 40) ∧ (0 ≤ ec_tw x3 ∧ ec_tw x3 ≤ 999999) ∧ (0 ≤ ec_tw x4 ∧ ec_tw x4 ≤ 200) ∧ ec_tw (ec_dv x3 1000) ≤ ec_tw (ec_rm x3 1000) ∧ s < 6
section EM1
variable {n s : Nat} {w w1 : px_W} {v : Option Value} {x1 x2 x3 x4 : Int}
theorem ew_addS (hs : s < 6) (h1 : ec_fd w 29 1 = (s : Int)) (h : ec_E hb_X n 88 0 [(0, .inr (.inl 93)), (1, .inl x1), (2, .inl x2), (3, .inl x3), (4, .inl x4)] [] w (v, w1)) : v = ec_R (s : Int) ∧ ec_W hb_A w1 ∧ ef_s [29, 30, 31, 32, 33, 34] w w1 ∧ ec_fd w1 29 1 = ((s + 1 : Nat) : Int) ∧ (∀ f, f ≠ 1 → ec_fd w1 29 f = ec_fd w 29 f) ∧ ∀ i, ef_a w1 30 i = (if i = s then ec_tw (ec_ab (ec_dv x1 100 - 50) + ec_ab (ec_rm x1 100 - 50)) else ef_a w 30 i) ∧ ef_a w1 31 i = (if i = s then ec_tw x2 else ef_a w 31 i) ∧ ef_a w1 32 i = (if i = s then ec_tw (ec_dv x3 1000) else ef_a w 32 i) ∧ ef_a w1 33 i = (if i = s then ec_tw (ec_rm x3 1000) else ef_a w 33 i) ∧ ef_a w1 34 i = (if i = s then ec_tw x4 else ef_a w 34 i) := by
  have ts : ec_tw (s : Int) = s := ec_twn (by omega)
  have a1 := (eg88_29_0_0 h).2
  rw [h1, ts] at a1
  obtain ⟨W1, s1, r1⟩ := em_w1 (k := 30) (n := 6) (p := s) (z := ec_ab (ec_dv x1 100 - 50) + ec_ab (ec_rm x1 100 - 50)) h.1 rfl hs
  obtain ⟨y1, hy1⟩ : ∃ y, y = ec_wr w 30 (s : Int) (ec_ab (ec_dv x1 100 - 50) + ec_ab (ec_rm x1 100 - 50)) := ⟨_, rfl⟩
  rw [← hy1] at a1 W1 s1 r1
  have f1 : ec_fd y1 29 1 = (s : Int) := (ef_s_f s1 (by decide) 1).trans h1
  have a2 := (eg88_29_30_0 a1).2
  rw [f1, ts] at a2
  obtain ⟨W2, s2, r2⟩ := em_w1 (k := 31) (n := 6) (p := s) (z := x2) W1 rfl hs
  obtain ⟨y2, hy2⟩ : ∃ y, y = ec_wr y1 31 (s : Int) x2 := ⟨_, rfl⟩
  rw [← hy2] at a2 W2 s2 r2
  have f2 : ec_fd y2 29 1 = (s : Int) := (ef_s_f s2 (by decide) 1).trans f1
  have a3 := (eg88_29_40_0 a2).2
  rw [f2, ts] at a3
  obtain ⟨W3, s3, r3⟩ := em_w1 (k := 32) (n := 6) (p := s) (z := ec_dv x3 1000) W2 rfl hs
  obtain ⟨y3, hy3⟩ : ∃ y, y = ec_wr y2 32 (s : Int) (ec_dv x3 1000) := ⟨_, rfl⟩
  rw [← hy3] at a3 W3 s3 r3
  have f3 : ec_fd y3 29 1 = (s : Int) := (ef_s_f s3 (by decide) 1).trans f2
  have a4 := (eg88_29_54_0 a3).2
  rw [f3, ts] at a4
  obtain ⟨W4, s4, r4⟩ := em_w1 (k := 33) (n := 6) (p := s) (z := ec_rm x3 1000) W3 rfl hs
  obtain ⟨y4, hy4⟩ : ∃ y, y = ec_wr y3 33 (s : Int) (ec_rm x3 1000) := ⟨_, rfl⟩
  rw [← hy4] at a4 W4 s4 r4
  have f4 : ec_fd y4 29 1 = (s : Int) := (ef_s_f s4 (by decide) 1).trans f3
  have a5 := (eg88_29_68_0 a4).2
  rw [f4, ts] at a5
  obtain ⟨W5, s5, r5⟩ := em_w1 (k := 34) (n := 6) (p := s) (z := x4) W4 rfl hs
  obtain ⟨y5, hy5⟩ : ∃ y, y = ec_wr y4 34 (s : Int) x4 := ⟨_, rfl⟩
  rw [← hy5] at a5 W5 s5 r5
  have f5 : ec_fd y5 29 1 = (s : Int) := (ef_s_f s5 (by decide) 1).trans f4
  obtain ⟨_, hr, hW⟩ := eg88_29_79_0 a5
  rw [f5] at hr hW
  injection hr with e1 e2
  have F : ∀ f, ec_fd w1 29 f = if f = 1 then ((s + 1 : Nat) : Int) else ec_fd y5 29 f := by
    intro f
    rw [e2, ec_fd_pf (k := 29) (f := 1) W5 rfl (by decide)]
    have ev : ec_tw ((s : Int) + 1) = ((s + 1 : Nat) : Int) := ec_twn (n := s + 1) (by omega)
    rw [ev]
  have s6 : ef_s [29] y5 w1 := by
    rw [e2]
    exact ef_s_pf List.mem_cons_self
  have sall : ef_s [29, 30, 31, 32, 33, 34] w w1 := ef_s_trans (ef_s_trans (ef_s_trans (ef_s_trans (ef_s_trans (ef_s_mono s1 (by decide)) (ef_s_mono s2 (by decide))) (ef_s_mono s3 (by decide))) (ef_s_mono s4 (by decide))) (ef_s_mono s5 (by decide))) (ef_s_mono s6 (by decide))
  refine ⟨e1, by rw [e2]; exact hW, sall, by rw [F 1, if_pos rfl], fun f hf => ?_, fun i => ⟨?_, ?_, ?_, ?_, ?_⟩⟩
  · rw [F f, if_neg hf, ef_s_f s5 (by decide), ef_s_f s4 (by decide), ef_s_f s3 (by decide), ef_s_f s2 (by decide), ef_s_f s1 (by decide)]
  · rw [ef_s_a s6 (by decide), ef_s_a s5 (by decide), ef_s_a s4 (by decide), ef_s_a s3 (by decide), ef_s_a s2 (by decide), r1 i]
  · rw [ef_s_a s6 (by decide), ef_s_a s5 (by decide), ef_s_a s4 (by decide), ef_s_a s3 (by decide), r2 i, ef_s_a s1 (by decide)]
  · rw [ef_s_a s6 (by decide), ef_s_a s5 (by decide), ef_s_a s4 (by decide), r3 i, ef_s_a s2 (by decide), ef_s_a s1 (by decide)]
  · rw [ef_s_a s6 (by decide), ef_s_a s5 (by decide), r4 i, ef_s_a s3 (by decide), ef_s_a s2 (by decide), ef_s_a s1 (by decide)]
  · rw [ef_s_a s6 (by decide), r5 i, ef_s_a s4 (by decide), ef_s_a s3 (by decide), ef_s_a s2 (by decide), ef_s_a s1 (by decide)]
theorem ew_shipA (hs : s ≤ 6) (h1 : ec_fd w 29 1 = (s : Int)) (h : ec_E hb_X n 141 0 [(0, .inr (.inl 64)), (1, .inl x1), (2, .inl x2), (3, .inl x3), (4, .inl x4)] [] w (v, w1)) : (¬ em_ok s x1 x2 x3 x4 ∧ w1 = w) ∨ (em_ok s x1 x2 x3 x4 ∧ ∃ u : Option Value, ec_E hb_X n 88 0 [(0, .inr (.inl 93)), (1, .inl x1), (2, .inl x2), (3, .inl x3), (4, .inl x4)] [] w (u, w1)) := by
  have t0 : ec_tw 0 = 0 := rfl
  have t1 : ec_tw 1 = 1 := rfl
  have t6 : ec_tw 6 = 6 := rfl
  have t40 : ec_tw 40 = 40 := rfl
  have t200 : ec_tw 200 = 200 := rfl
  have t9 : ec_tw 9999 = 9999 := rfl
  have t99 : ec_tw 999999 = 999999 := rfl
  have out : ∀ z : Int, (v, w1) = (ec_R z, w) → w1 = w := fun z e => (Prod.mk.inj e).2
  obtain ⟨_, u, y, a1, a2⟩ := eg141_0_0_0 h
  obtain ⟨e, W⟩ := ew_within a1
  rw [t0, t9] at e
  injection e with e i
  rw [i] at a2
  have b1 := a2 _ e W
  clear a1 a2 e i
  by_cases p1 : 0 ≤ ec_tw x1 ∧ ec_tw x1 ≤ 9999
  · rw [if_pos p1] at b1
    obtain ⟨_, u, y, a1, a2⟩ := eg141_0_8_1 b1 (by decide)
    obtain ⟨e, W⟩ := ew_within a1
    rw [t1, t40] at e
    injection e with e i
    rw [i] at a2
    have b2 := a2 _ e W
    clear a1 a2 e i
    by_cases p2 : 1 ≤ ec_tw x2 ∧ ec_tw x2 ≤ 40
    · rw [if_pos p2] at b2
      obtain ⟨_, u, y, a1, a2⟩ := eg141_0_18_1 b2 (by decide)
      obtain ⟨e, W⟩ := ew_within a1
      rw [t0, t99] at e
      injection e with e i
      rw [i] at a2
      have b3 := a2 _ e W
      clear a1 a2 e i
      by_cases p3 : 0 ≤ ec_tw x3 ∧ ec_tw x3 ≤ 999999
      · rw [if_pos p3] at b3
        obtain ⟨_, u, y, a1, a2⟩ := eg141_0_28_1 b3 (by decide)
        obtain ⟨e, W⟩ := ew_within a1
        rw [t0, t200] at e
        injection e with e i
        rw [i] at a2
        have b4 := a2 _ e W
        clear a1 a2 e i
        by_cases p4 : 0 ≤ ec_tw x4 ∧ ec_tw x4 ≤ 200
        · rw [if_pos p4] at b4
          by_cases p5 : ec_tw (ec_dv x3 1000) ≤ ec_tw (ec_rm x3 1000)
          · have k0 := eg141_0_40_0 b4 (by decide) p5
            have k1 := eg141_0_40_1 b4 (by decide) p5
            rw [h1, ec_twn (n := s) (by omega), t6] at k0 k1
            by_cases p6 : s < 6
            · obtain ⟨_, u, y, a1, a2⟩ := k0 (by omega)
              obtain ⟨q1, q2, _⟩ := ew_addS p6 h1 a1
              refine .inr ⟨⟨p1, p2, p3, p4, p5, p6⟩, u, ?_⟩
              have ey : w1 = y := (Prod.mk.inj (eg141_0_89_0 (a2 _ q1 q2)).2.1).2
              rw [ey]
              exact a1
            · obtain ⟨_, hr, _⟩ := k1 (by omega)
              exact .inl ⟨fun z => p6 z.2.2.2.2.2, out _ hr⟩
          · obtain ⟨_, hr, _⟩ := eg141_0_40_2 b4 (by decide) (by omega)
            exact .inl ⟨fun z => p5 z.2.2.2.2.1, out _ hr⟩
        · rw [if_neg p4] at b4
          obtain ⟨_, hr, _⟩ := eg141_0_40_3 b4 rfl
          exact .inl ⟨fun z => p4 z.2.2.2.1, out _ hr⟩
      · rw [if_neg p3] at b3
        obtain ⟨_, hr, _⟩ := eg141_0_28_0 b3 rfl
        exact .inl ⟨fun z => p3 z.2.2.1, out _ hr⟩
    · rw [if_neg p2] at b2
      obtain ⟨_, hr, _⟩ := eg141_0_18_0 b2 rfl
      exact .inl ⟨fun z => p2 z.2.1, out _ hr⟩
  · rw [if_neg p1] at b1
    obtain ⟨_, hr, _⟩ := eg141_0_8_0 b1 rfl
    exact .inl ⟨fun z => p1 z.1, out _ hr⟩
theorem ew_shipB (hs : s ≤ 6) (h1 : ef_a w 152 6 = (s : Int)) (h : ec_E hb_X n 227 0 [(0, .inr (.inl 215)), (1, .inl x1), (2, .inl x2), (3, .inl x3), (4, .inl x4)] [] w (v, w1)) : (¬ em_ok s x1 x2 x3 x4 ∧ w1 = w) ∨ (em_ok s x1 x2 x3 x4 ∧ ef_s [152] w w1 ∧ ∀ p, ef_a w1 152 p = if p = 6 then ((s + 1 : Nat) : Int) else if p = 248 + 6 * s + 5 then ec_tw x4 else if p = 248 + 6 * s + 4 then ec_tw (ec_rm x3 1000) else if p = 248 + 6 * s + 3 then ec_tw (ec_dv x3 1000) else if p = 248 + 6 * s + 2 then ec_tw x2 else if p = 248 + 6 * s + 1 then ec_tw (ec_rm x1 100) else if p = 248 + 6 * s then ec_tw (ec_dv x1 100) else ef_a w 152 p) := by
  have t0 : ec_tw 0 = 0 := rfl
  have t1 : ec_tw 1 = 1 := rfl
  have t6 : ec_tw 6 = 6 := rfl
  have t6' : ec_tw 6 = ((6 : Nat) : Int) := rfl
  have t40 : ec_tw 40 = 40 := rfl
  have t200 : ec_tw 200 = 200 := rfl
  have t9 : ec_tw 9999 = 9999 := rfl
  have t99 : ec_tw 999999 = 999999 := rfl
  have out : ∀ z : Int, (v, w1) = (ec_R z, w) → w1 = w := fun z e => (Prod.mk.inj e).2
  obtain ⟨_, u, y, a1, a2⟩ := eg227_151_0_0 h
  obtain ⟨e, W⟩ := ew_in a1
  rw [t0, t9] at e
  injection e with e i
  rw [i] at a2
  have b1 := a2 _ e W
  clear a1 a2 e i
  by_cases p1 : 0 ≤ ec_tw x1 ∧ ec_tw x1 ≤ 9999
  · rw [if_pos p1] at b1
    obtain ⟨_, u, y, a1, a2⟩ := eg227_151_8_1 b1 (by decide)
    obtain ⟨e, W⟩ := ew_in a1
    rw [t1, t40] at e
    injection e with e i
    rw [i] at a2
    have b2 := a2 _ e W
    clear a1 a2 e i
    by_cases p2 : 1 ≤ ec_tw x2 ∧ ec_tw x2 ≤ 40
    · rw [if_pos p2] at b2
      obtain ⟨_, u, y, a1, a2⟩ := eg227_151_18_1 b2 (by decide)
      obtain ⟨e, W⟩ := ew_in a1
      rw [t0, t99] at e
      injection e with e i
      rw [i] at a2
      have b3 := a2 _ e W
      clear a1 a2 e i
      by_cases p3 : 0 ≤ ec_tw x3 ∧ ec_tw x3 ≤ 999999
      · rw [if_pos p3] at b3
        by_cases p5 : ec_tw (ec_dv x3 1000) ≤ ec_tw (ec_rm x3 1000)
        · obtain ⟨_, u, y, a1, a2⟩ := eg227_151_28_2 b3 (by decide) p5
          obtain ⟨e, W⟩ := ew_in a1
          rw [t0, t200] at e
          injection e with e i
          rw [i] at a2
          have b4 := a2 _ e W
          clear a1 a2 e i
          by_cases p4 : 0 ≤ ec_tw x4 ∧ ec_tw x4 ≤ 200
          · rw [if_pos p4] at b4
            have k0 := eg227_151_53_0 b4 (by decide)
            have k1 := eg227_151_53_1 b4 (by decide)
            rw [t6', ef_rd w 152 6, h1, ec_twn (n := s) (by omega)] at k0 k1
            by_cases p6 : s < 6
            · refine .inr ⟨⟨p1, p2, p3, p4, p5, p6⟩, ?_⟩
              have c0 := (k0 (by omega)).2
              obtain ⟨q, hq⟩ : ∃ q : Nat, q = 248 + 6 * s := ⟨_, rfl⟩
              have eq : 248 + 6 * (s : Int) = (q : Int) := by omega
              rw [eq] at c0
              have q0 : ec_tw (q : Int) = (q : Int) := ec_twn (n := q) (by omega)
              have q1 : ec_tw ((q : Int) + 1) = ((q + 1 : Nat) : Int) := ec_twn (n := q + 1) (by omega)
              have q2 : ec_tw ((q : Int) + 2) = ((q + 2 : Nat) : Int) := ec_twn (n := q + 2) (by omega)
              have q3 : ec_tw ((q : Int) + 3) = ((q + 3 : Nat) : Int) := ec_twn (n := q + 3) (by omega)
              have q4 : ec_tw ((q : Int) + 4) = ((q + 4 : Nat) : Int) := ec_twn (n := q + 4) (by omega)
              have q5 : ec_tw ((q : Int) + 5) = ((q + 5 : Nat) : Int) := ec_twn (n := q + 5) (by omega)
              have a1 := (eg227_151_89_0 c0).2
              rw [q0] at a1
              obtain ⟨W1, s1, r1⟩ := em_w1 (k := 152) (n := 1580) (p := q) (z := ec_dv x1 100) c0.1 rfl (by omega)
              obtain ⟨y1, hy1⟩ : ∃ y, y = ec_wr w 152 (q : Int) (ec_dv x1 100) := ⟨_, rfl⟩
              rw [← hy1] at a1 W1 s1 r1
              have a2 := (eg227_151_100_0 a1).2
              rw [q1] at a2
              obtain ⟨W2, s2, r2⟩ := em_w1 (k := 152) (n := 1580) (p := q + 1) (z := ec_rm x1 100) W1 rfl (by omega)
              obtain ⟨y2, hy2⟩ : ∃ y, y = ec_wr y1 152 ((q + 1 : Nat) : Int) (ec_rm x1 100) := ⟨_, rfl⟩
              rw [← hy2] at a2 W2 s2 r2
              have a3 := (eg227_151_113_0 a2).2
              rw [q2] at a3
              obtain ⟨W3, s3, r3⟩ := em_w1 (k := 152) (n := 1580) (p := q + 2) (z := x2) W2 rfl (by omega)
              obtain ⟨y3, hy3⟩ : ∃ y, y = ec_wr y2 152 ((q + 2 : Nat) : Int) x2 := ⟨_, rfl⟩
              rw [← hy3] at a3 W3 s3 r3
              have a4 := (eg227_151_123_0 a3).2
              rw [q3] at a4
              obtain ⟨W4, s4, r4⟩ := em_w1 (k := 152) (n := 1580) (p := q + 3) (z := ec_dv x3 1000) W3 rfl (by omega)
              obtain ⟨y4, hy4⟩ : ∃ y, y = ec_wr y3 152 ((q + 3 : Nat) : Int) (ec_dv x3 1000) := ⟨_, rfl⟩
              rw [← hy4] at a4 W4 s4 r4
              have a5 := (eg227_151_137_0 a4).2
              rw [q4] at a5
              obtain ⟨W5, s5, r5⟩ := em_w1 (k := 152) (n := 1580) (p := q + 4) (z := ec_rm x3 1000) W4 rfl (by omega)
              obtain ⟨y5, hy5⟩ : ∃ y, y = ec_wr y4 152 ((q + 4 : Nat) : Int) (ec_rm x3 1000) := ⟨_, rfl⟩
              rw [← hy5] at a5 W5 s5 r5
              have a6 := (eg227_151_151_0 a5).2
              rw [q5] at a6
              obtain ⟨W6, s6, r6⟩ := em_w1 (k := 152) (n := 1580) (p := q + 5) (z := x4) W5 rfl (by omega)
              obtain ⟨y6, hy6⟩ : ∃ y, y = ec_wr y5 152 ((q + 5 : Nat) : Int) x4 := ⟨_, rfl⟩
              rw [← hy6] at a6 W6 s6 r6
              have r66 : ef_a y6 152 6 = (s : Int) := by
                rw [r6 6, if_neg (by omega), r5 6, if_neg (by omega), r4 6, if_neg (by omega), r3 6, if_neg (by omega), r2 6, if_neg (by omega), r1 6, if_neg (by omega)]
                exact h1
              have a7 := (eg227_151_162_0 a6).2
              rw [t6', ef_rd y6 152 6, r66] at a7
              obtain ⟨W7, s7, r7⟩ := em_w1 (k := 152) (n := 1580) (p := 6) (z := (s : Int) + 1) W6 rfl (by decide)
              have ey : w1 = ec_wr y6 152 ((6 : Nat) : Int) ((s : Int) + 1) := (Prod.mk.inj (eg227_151_173_0 a7).2.1).2
              have ev : ec_tw ((s : Int) + 1) = ((s + 1 : Nat) : Int) := ec_twn (n := s + 1) (by omega)
              rw [← ey] at s7 r7
              refine ⟨ef_s_trans (ef_s_trans (ef_s_trans (ef_s_trans (ef_s_trans (ef_s_trans s1 s2) s3) s4) s5) s6) s7, fun p => ?_⟩
              rw [r7 p, ev, r6 p, r5 p, r4 p, r3 p, r2 p, r1 p, hq]
            · obtain ⟨_, hr, _⟩ := k1 (by omega)
              exact .inl ⟨fun z => p6 z.2.2.2.2.2, out _ hr⟩
          · rw [if_neg p4] at b4
            obtain ⟨_, hr, _⟩ := eg227_151_53_2 b4 rfl
            exact .inl ⟨fun z => p4 z.2.2.2.1, out _ hr⟩
        · obtain ⟨_, hr, _⟩ := eg227_151_28_1 b3 (by decide) (by omega)
          exact .inl ⟨fun z => p5 z.2.2.2.2.1, out _ hr⟩
      · rw [if_neg p3] at b3
        obtain ⟨_, hr, _⟩ := eg227_151_28_0 b3 rfl
        exact .inl ⟨fun z => p3 z.2.2.1, out _ hr⟩
    · rw [if_neg p2] at b2
      obtain ⟨_, hr, _⟩ := eg227_151_18_0 b2 rfl
      exact .inl ⟨fun z => p2 z.2.1, out _ hr⟩
  · rw [if_neg p1] at b1
    obtain ⟨_, hr, _⟩ := eg227_151_8_0 b1 rfl
    exact .inl ⟨fun z => p1 z.1, out _ hr⟩
end EM1
theorem em_ship2 {xs : List Int32} {n : Nat} {w wA wB : px_W} {vA vB : Option Value} {x1 x2 x3 x4 : Int} (hR : em_R w) (hA : ec_F (hb_XL xs) n 141 [.inr (.inl 64), .inl x1, .inl x2, .inl x3, .inl x4] w (vA, wA)) (hB : ec_F (hb_XL xs) n 227 [.inr (.inl 215), .inl x1, .inl x2, .inl x3, .inl x4] wA (vB, wB)) : em_R wB := by
  obtain ⟨⟨s, hs, h1', h2', h3'⟩, k, hk, g1', g2', g3'⟩ := hR.1
  have h1 : ec_fd w 29 1 = (s : Int) := h1'
  have h2 : ef_a w 152 6 = (s : Int) := h2'
  rcases ew_shipA hs h1 (hb_FE hA) with ⟨p, eA⟩ | ⟨p, u, hE⟩
  · rw [eA] at hB
    rcases ew_shipB hs h2 (hb_FE hB) with ⟨_, eB⟩ | ⟨p2, _⟩
    · rw [eB]
      exact hR
    · exact absurd p2 p
  · obtain ⟨o1, o2, o3, o4, o5, o6⟩ := p
    obtain ⟨_, WA, sA, fA, gA, rA⟩ := ew_addS o6 h1 hE
    have d1 : ef_a wA 152 = ef_a w 152 := ef_s_a sA (by decide)
    rcases ew_shipB (w := wA) hs (by rw [d1]; exact h2) (hb_FE hB) with ⟨p2, _⟩ | ⟨_, sB, dB⟩
    · exact absurd ⟨o1, o2, o3, o4, o5, o6⟩ p2
    · have s12 : ef_s [29, 30, 31, 32, 33, 34, 152] w wB := ef_s_trans (ef_s_mono sA (by decide)) (ef_s_mono sB (by decide))
      have dv : ec_dv x1 100 = ec_tw x1 / 100 := by
        rw [← ec_dv_tw]
        exact ec_dv_nn o1.1 (by omega) (by decide) (by decide)
      have rm : ec_rm x1 100 = ec_tw x1 % 100 := by
        rw [← ec_rm_tw]
        exact ec_rm_nn o1.1 (by omega) (by decide) (by decide)
      refine ⟨⟨⟨s + 1, by omega, ?_, ?_, fun i hi => ?_⟩, k, hk, ?_, ?_, fun c hc => ?_⟩, em_kc s12 (by decide) (ef_s_f s12 (by decide) 2) hR.2⟩
      · show ec_fd wB 29 1 = ((s + 1 : Nat) : Int)
        rw [ef_s_f sB (by decide)]
        exact fA
      · show ef_a wB 152 6 = ((s + 1 : Nat) : Int)
        rw [dB 6, if_pos rfl]
      · show ((0 ≤ ef_a wB 152 (248 + 6 * i) ∧ ef_a wB 152 (248 + 6 * i) ≤ 99) ∧ 0 ≤ ef_a wB 152 (248 + 6 * i + 1) ∧ ef_a wB 152 (248 + 6 * i + 1) ≤ 99) ∧ ef_a wB 30 i = em_far (ef_a wB 152 (248 + 6 * i)) (ef_a wB 152 (248 + 6 * i + 1)) ∧ ef_a wB 31 i = ef_a wB 152 (248 + 6 * i + 2) ∧ ef_a wB 32 i = ef_a wB 152 (248 + 6 * i + 3) ∧ ef_a wB 33 i = ef_a wB 152 (248 + 6 * i + 4) ∧ ef_a wB 34 i = ef_a wB 152 (248 + 6 * i + 5)
        obtain ⟨a30, a31, a32, a33, a34⟩ := rA i
        rw [ef_s_a sB (k := 30) (by decide), ef_s_a sB (k := 31) (by decide), ef_s_a sB (k := 32) (by decide), ef_s_a sB (k := 33) (by decide), ef_s_a sB (k := 34) (by decide), a30, a31, a32, a33, a34]
        by_cases q : i = s
        · have e0 : ef_a wB 152 (248 + 6 * i) = ec_tw (ec_dv x1 100) := by
            rw [dB, if_neg (by omega), if_neg (by omega), if_neg (by omega), if_neg (by omega), if_neg (by omega), if_neg (by omega), if_pos (by omega)]
          have e1 : ef_a wB 152 (248 + 6 * i + 1) = ec_tw (ec_rm x1 100) := by
            rw [dB, if_neg (by omega), if_neg (by omega), if_neg (by omega), if_neg (by omega), if_neg (by omega), if_pos (by omega)]
          have e2 : ef_a wB 152 (248 + 6 * i + 2) = ec_tw x2 := by
            rw [dB, if_neg (by omega), if_neg (by omega), if_neg (by omega), if_neg (by omega), if_pos (by omega)]
          have e3 : ef_a wB 152 (248 + 6 * i + 3) = ec_tw (ec_dv x3 1000) := by
            rw [dB, if_neg (by omega), if_neg (by omega), if_neg (by omega), if_pos (by omega)]
          have e4 : ef_a wB 152 (248 + 6 * i + 4) = ec_tw (ec_rm x3 1000) := by
            rw [dB, if_neg (by omega), if_neg (by omega), if_pos (by omega)]
          have e5 : ef_a wB 152 (248 + 6 * i + 5) = ec_tw x4 := by
            rw [dB, if_neg (by omega), if_pos (by omega)]
          have b0 : 0 ≤ ec_dv x1 100 ∧ ec_dv x1 100 ≤ 99 := by
            rw [dv]
            omega
          have b1 : 0 ≤ ec_rm x1 100 ∧ ec_rm x1 100 ≤ 99 := by
            rw [rm]
            omega
          have t0 : ec_tw (ec_dv x1 100) = ec_dv x1 100 := ec_tw_id (by omega) (by omega)
          have t1 : ec_tw (ec_rm x1 100) = ec_rm x1 100 := ec_tw_id (by omega) (by omega)
          rw [e0, e1, e2, e3, e4, e5, if_pos q, if_pos q, if_pos q, if_pos q, if_pos q, t0, t1, em_ab b0, em_ab b1]
          refine ⟨⟨b0, b1⟩, ?_, rfl, rfl, rfl, rfl⟩
          have bf := em_far_in b0 b1
          exact ec_tw_id (a := em_far (ec_dv x1 100) (ec_rm x1 100)) (by omega) (by omega)
        · have old : ∀ j, j < 6 → ef_a wB 152 (248 + 6 * i + j) = ef_a w 152 (248 + 6 * i + j) := by
            intro j hj
            rw [dB, if_neg (by omega), if_neg (by omega), if_neg (by omega), if_neg (by omega), if_neg (by omega), if_neg (by omega), if_neg (by omega), d1]
          have old0 : ef_a wB 152 (248 + 6 * i) = ef_a w 152 (248 + 6 * i) := old 0 (by decide)
          rw [old0, old 1 (by decide), old 2 (by decide), old 3 (by decide), old 4 (by decide), old 5 (by decide), if_neg q, if_neg q, if_neg q, if_neg q, if_neg q]
          exact h3' i (by omega)
      · show ec_fd wB 29 7 = (k : Int)
        rw [ef_s_f sB (by decide), gA 7 (by decide)]
        exact g1'
      · show ef_a wB 152 7 = (k : Int)
        rw [dB, if_neg (by omega), if_neg (by omega), if_neg (by omega), if_neg (by omega), if_neg (by omega), if_neg (by omega), if_neg (by omega), d1]
        exact g2'
      · show ef_a wB 35 c = ef_a wB 152 (284 + c) ∧ 0 ≤ ef_a wB 35 c ∧ ef_a wB 35 c ≤ 999
        rw [ef_s_a s12 (by decide), dB, if_neg (by omega), if_neg (by omega), if_neg (by omega), if_neg (by omega), if_neg (by omega), if_neg (by omega), if_neg (by omega), d1]
        exact g3' c hc
/-! call -/
def em_okC (k : Nat) (x1 : Int) : Prop := (0 ≤ ec_tw x1 ∧ ec_tw x1 ≤ 999) ∧ k < 10
theorem ew_callA {n k : Nat} {w w1 : px_W} {v : Option Value} {x1 : Int} (hk : k ≤ 10) (h1 : ec_fd w 29 7 = (k : Int)) (h : ec_E hb_X n 143 0 [(0, .inr (.inl 64)), (1, .inl x1)] [] w (v, w1)) : (¬ em_okC k x1 ∧ w1 = w) ∨ (em_okC k x1 ∧ ef_s [29, 35] w w1 ∧ ec_fd w1 29 7 = ((k + 1 : Nat) : Int) ∧ (∀ f, f ≠ 7 → ec_fd w1 29 f = ec_fd w 29 f) ∧ ∀ i, ef_a w1 35 i = if i = k then ec_tw x1 else ef_a w 35 i) := by
  have t10 : ec_tw 10 = 10 := rfl
  have tk : ec_tw (k : Int) = k := ec_twn (by omega)
  obtain ⟨_, u, y, a1, a2⟩ := eg143_0_0_0 h
  obtain ⟨i, W, e⟩ := ew_ismA a1
  rw [← i] at a2 W
  have b := a2 _ e W
  by_cases p : 0 ≤ ec_tw x1 ∧ ec_tw x1 ≤ 999
  · rw [if_pos p] at b
    have k0 := eg143_0_4_0 b (by decide)
    have k1 := eg143_0_4_1 b (by decide)
    rw [h1, tk, t10] at k0 k1
    by_cases q : k < 10
    · obtain ⟨_, u2, y2, a3, a4⟩ := k0 (by omega)
      have kk := eg89_29_0_0 a3
      have g29 : ∀ (i z : Int), ec_fd (ec_wr w 35 i z) 29 7 = ec_fd w 29 7 := fun _ _ => ec_fd_wr_o (by decide)
      simp only [g29] at kk
      rw [h1, tk] at kk
      obtain ⟨_, hr3, W3⟩ := kk
      injection hr3 with e3 i3
      rw [← i3] at W3
      have ey : w1 = y2 := (Prod.mk.inj (eg143_0_34_0 (a4 _ e3 W3)).2.1).2
      obtain ⟨W1, s1, r1⟩ := em_w1 (k := 35) (n := 10) (p := k) (z := x1) W rfl q
      refine .inr ⟨⟨p, q⟩, ?_, ?_, fun f hf => ?_, fun i => ?_⟩
      · rw [ey, i3]
        exact ef_s_trans (ef_s_mono s1 (by decide)) (ef_s_pf (by decide))
      · rw [ey, i3, ec_fd_pf (k := 29) (f := 7) W1 rfl (by decide), if_pos rfl]
        exact ec_twn (n := k + 1) (by omega)
      · rw [ey, i3, ec_fd_pf (k := 29) (f := 7) W1 rfl (by decide), if_neg hf]
        exact ef_s_f s1 (by decide) f
      · rw [ey, i3, ef_s_a (ef_s_pf (S := [29]) List.mem_cons_self) (by decide), r1 i]
    · obtain ⟨_, hr, _⟩ := k1 (by omega)
      exact .inl ⟨fun z => q z.2, (Prod.mk.inj hr).2⟩
  · rw [if_neg p] at b
    obtain ⟨_, hr, _⟩ := eg143_0_4_2 b rfl
    exact .inl ⟨fun z => p z.1, (Prod.mk.inj hr).2⟩
theorem ew_callB {n k : Nat} {w w1 : px_W} {v : Option Value} {x1 : Int} (hk : k ≤ 10) (h1 : ef_a w 152 7 = (k : Int)) (h : ec_E hb_X n 231 0 [(0, .inr (.inl 215)), (1, .inl x1)] [] w (v, w1)) : (¬ em_okC k x1 ∧ w1 = w) ∨ (em_okC k x1 ∧ ef_s [152] w w1 ∧ ∀ p, ef_a w1 152 p = if p = 7 then ((k + 1 : Nat) : Int) else if p = 284 + k then ec_tw x1 else ef_a w 152 p) := by
  have t10 : ec_tw 10 = 10 := rfl
  have t7 : ec_tw 7 = ((7 : Nat) : Int) := rfl
  have tk : ec_tw (k : Int) = k := ec_twn (by omega)
  obtain ⟨_, u, y, a1, a2⟩ := eg231_151_0_0 h
  obtain ⟨i, W, e⟩ := ew_ismB a1
  rw [← i] at a2 W
  have b := a2 _ e W
  by_cases p : 0 ≤ ec_tw x1 ∧ ec_tw x1 ≤ 999
  · rw [if_pos p] at b
    have k0 := eg231_151_4_0 b (by decide)
    have k1 := eg231_151_4_1 b (by decide)
    have ep : 284 + (k : Int) = ((284 + k : Nat) : Int) := by omega
    rw [t7, ef_rd w 152 7, h1, tk, t10] at k0 k1
    rw [ep, ec_twn (n := 284 + k) (by omega)] at k0
    by_cases q : k < 10
    · have c1 := (k0 (by omega)).2
      obtain ⟨W1, s1, r1⟩ := em_w1 (k := 152) (n := 1580) (p := 284 + k) (z := x1) W rfl (by omega)
      obtain ⟨y1, hy1⟩ : ∃ y, y = ec_wr w 152 ((284 + k : Nat) : Int) x1 := ⟨_, rfl⟩
      rw [← hy1] at c1 W1 s1 r1
      have r17 : ef_a y1 152 7 = (k : Int) := by
        rw [r1 7, if_neg (by omega)]
        exact h1
      have c2 := (eg231_151_41_0 c1).2
      rw [t7, ef_rd y1 152 7, r17] at c2
      obtain ⟨W2, s2, r2⟩ := em_w1 (k := 152) (n := 1580) (p := 7) (z := (k : Int) + 1) W1 rfl (by decide)
      have ey : w1 = ec_wr y1 152 ((7 : Nat) : Int) ((k : Int) + 1) := (Prod.mk.inj (eg231_151_52_0 c2).2.1).2
      have ev : ec_tw ((k : Int) + 1) = ((k + 1 : Nat) : Int) := ec_twn (n := k + 1) (by omega)
      rw [← ey] at s2 r2
      refine .inr ⟨⟨p, q⟩, ef_s_trans s1 s2, fun j => ?_⟩
      rw [r2 j, ev, r1 j]
    · obtain ⟨_, hr, _⟩ := k1 (by omega)
      exact .inl ⟨fun z => q z.2, (Prod.mk.inj hr).2⟩
  · rw [if_neg p] at b
    obtain ⟨_, hr, _⟩ := eg231_151_4_2 b rfl
    exact .inl ⟨fun z => p z.1, (Prod.mk.inj hr).2⟩
theorem em_call2 {xs : List Int32} {n : Nat} {w wA wB : px_W} {vA vB : Option Value} {x1 : Int} (hR : em_R w) (hA : ec_F (hb_XL xs) n 143 [.inr (.inl 64), .inl x1] w (vA, wA)) (hB : ec_F (hb_XL xs) n 231 [.inr (.inl 215), .inl x1] wA (vB, wB)) : em_R wB := by
  obtain ⟨⟨s, hs, h1', h2', h3'⟩, k, hk, g1', g2', g3'⟩ := hR.1
  have g1 : ec_fd w 29 7 = (k : Int) := g1'
  have g2 : ef_a w 152 7 = (k : Int) := g2'
  rcases ew_callA hk g1 (hb_FE hA) with ⟨p, eA⟩ | ⟨p, sA, fA, gA, rA⟩
  · rw [eA] at hB
    rcases ew_callB hk g2 (hb_FE hB) with ⟨_, eB⟩ | ⟨p2, _⟩
    · rw [eB]
      exact hR
    · exact absurd p2 p
  · have d1 : ef_a wA 152 = ef_a w 152 := ef_s_a sA (by decide)
    rcases ew_callB (w := wA) hk (by rw [d1]; exact g2) (hb_FE hB) with ⟨p2, _⟩ | ⟨_, sB, dB⟩
    · exact absurd p p2
    · obtain ⟨o1, o2⟩ := p
      have s12 : ef_s [29, 35, 152] w wB := ef_s_trans (ef_s_mono sA (by decide)) (ef_s_mono sB (by decide))
      have oldD : ∀ p, p ≠ 7 → p ≠ 284 + k → ef_a wB 152 p = ef_a w 152 p := fun p n1 n2 => by
        rw [dB p, if_neg n1, if_neg n2, d1]
      refine ⟨⟨⟨s, hs, ?_, ?_, fun i hi => ?_⟩, k + 1, by omega, ?_, ?_, fun c hc => ?_⟩, em_kc s12 (by decide) (ef_s_f s12 (by decide) 2) hR.2⟩
      · show ec_fd wB 29 1 = (s : Int)
        rw [ef_s_f sB (by decide), gA 1 (by decide)]
        exact h1'
      · show ef_a wB 152 6 = (s : Int)
        rw [oldD 6 (by decide) (by omega)]
        exact h2'
      · show ((0 ≤ ef_a wB 152 (248 + 6 * i) ∧ ef_a wB 152 (248 + 6 * i) ≤ 99) ∧ 0 ≤ ef_a wB 152 (248 + 6 * i + 1) ∧ ef_a wB 152 (248 + 6 * i + 1) ≤ 99) ∧ ef_a wB 30 i = em_far (ef_a wB 152 (248 + 6 * i)) (ef_a wB 152 (248 + 6 * i + 1)) ∧ ef_a wB 31 i = ef_a wB 152 (248 + 6 * i + 2) ∧ ef_a wB 32 i = ef_a wB 152 (248 + 6 * i + 3) ∧ ef_a wB 33 i = ef_a wB 152 (248 + 6 * i + 4) ∧ ef_a wB 34 i = ef_a wB 152 (248 + 6 * i + 5)
        rw [ef_s_a s12 (k := 30) (by decide), ef_s_a s12 (k := 31) (by decide), ef_s_a s12 (k := 32) (by decide), ef_s_a s12 (k := 33) (by decide), ef_s_a s12 (k := 34) (by decide), oldD (248 + 6 * i) (by omega) (by omega), oldD (248 + 6 * i + 1) (by omega) (by omega), oldD (248 + 6 * i + 2) (by omega) (by omega), oldD (248 + 6 * i + 3) (by omega) (by omega), oldD (248 + 6 * i + 4) (by omega) (by omega), oldD (248 + 6 * i + 5) (by omega) (by omega)]
        exact h3' i hi
      · show ec_fd wB 29 7 = ((k + 1 : Nat) : Int)
        rw [ef_s_f sB (by decide)]
        exact fA
      · show ef_a wB 152 7 = ((k + 1 : Nat) : Int)
        rw [dB 7, if_pos rfl]
      · show ef_a wB 35 c = ef_a wB 152 (284 + c) ∧ 0 ≤ ef_a wB 35 c ∧ ef_a wB 35 c ≤ 999
        rw [ef_s_a sB (k := 35) (by decide), rA c, dB (284 + c), if_neg (by omega : ¬ 284 + c = 7)]
        by_cases q : c = k
        · rw [if_pos q, if_pos (by omega)]
          exact ⟨rfl, o1⟩
        · rw [if_neg q, if_neg (by omega), d1]
          exact g3' c (by omega)

end

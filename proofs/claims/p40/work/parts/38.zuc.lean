noncomputable section
/-! RULES: feed -/
theorem er_by (y : Int64) : 0 ≤ ((y &&& Int64.ofInt 255).toInt32).toInt ∧ ((y &&& Int64.ofInt 255).toInt32).toInt ≤ 255 := by
  have h : ((y &&& Int64.ofInt 255).toInt32).toBitVec.toNat ≤ 255 := by
    rw [Int64.toBitVec_toInt32, Int64.toBitVec_and, BitVec.signExtend_eq_setWidth_of_le _ (by decide), BitVec.toNat_setWidth, BitVec.toNat_and]
    have e : (Int64.ofInt 255).toBitVec.toNat = 255 := by decide +kernel
    rw [e]
    exact Nat.le_trans (Nat.mod_le _ _) Nat.and_le_right
  have e2 : ((y &&& Int64.ofInt 255).toInt32).toInt = (((y &&& Int64.ofInt 255).toInt32).toBitVec.toNat : Int) := BitVec.toInt_eq_toNat_of_lt (by omega)
  omega
/-- the k-th of eight bytes -/
def er_fb (x : Int64) (k : Nat) : Int := ((x >>> ((Int32.ofInt (8 * (k : Int))).toInt64 &&& 63)) &&& (Int64.ofInt 255)).toInt32.toInt
theorem er_fb_in (x : Int64) (k : Nat) : 0 ≤ er_fb x k ∧ er_fb x k ≤ 255 := er_by _
theorem ew_tkl {x1 : Int64} {x3 : Int} {N m : Nat} (hm : N + m ≤ 200) (tx : ec_tw x3 = (m : Int)) : ∀ (f n i : Nat) (w w1 : px_W) (v : Option Value), f + i = m → ec_fd w 137 0 = ((N + i : Nat) : Int) → ec_E hb_X n 52 3 [(0, .inr (.inl 201)), (1, .inr (.inr x1)), (3, .inl x3), (4, .inl (i : Int))] [] w (v, w1) → v = ec_R ((N + m : Nat) : Int) ∧ ec_W hb_A w1 ∧ ef_s [137, 138] w w1 ∧ (∀ g, g ≠ 0 → ec_fd w1 137 g = ec_fd w 137 g) ∧ ec_fd w1 137 0 = ((N + m : Nat) : Int) ∧ ∀ y, ef_a w1 138 y = if N + i ≤ y ∧ y < N + m then er_fb x1 (y - N) else ef_a w 138 y := by
  have t200 : ec_tw 200 = 200 := rfl
  intro f
  induction f with
  | zero =>
    intro n i w w1 v hi h0 h
    have l := eg52_137_3_0 h
    rw [tx, ec_twn (n := i) (by omega), h0] at l
    obtain ⟨_, hr, hW⟩ := l (by omega)
    injection hr with e1 e2
    have ei : i = m := by omega
    rw [e2]
    rw [ei] at e1 h0
    refine ⟨e1, hW, ef_s_refl, fun _ _ => rfl, h0, fun y => ?_⟩
    rw [if_neg (by omega)]
  | succ f ih =>
    intro n i w w1 v hi h0 h
    have hW := h.1
    have g0 : ∀ (p z : Int), ec_fd (ec_wr w 138 p z) 137 0 = ec_fd w 137 0 := fun _ _ => ec_fd_wr_o (by decide)
    have l := eg52_137_3_2 h
    rw [tx, ec_twn (n := i) (by omega)] at l
    simp only [g0] at l
    rw [h0, ec_twn (n := N + i) (by omega)] at l
    have l2 := (l (by omega) (by rw [t200]; omega)).2
    have Wa : ec_W hb_A (ec_wr w 138 ((N + i : Nat) : Int) (er_fb x1 i)) := ec_W_wr hW
    have Wb : ec_W hb_A (ec_pf (ec_wr w 138 ((N + i : Nat) : Int) (er_fb x1 i)) 137 0 (((N + i : Nat) : Int) + 1)) := ec_W_pf (k := 137) (f := 0) rfl rfl Wa
    have F : ∀ g, ec_fd (ec_pf (ec_wr w 138 ((N + i : Nat) : Int) (er_fb x1 i)) 137 0 (((N + i : Nat) : Int) + 1)) 137 g = if g = 0 then ((N + (i + 1) : Nat) : Int) else ec_fd w 137 g := by
      intro g
      rw [ec_fd_pf (k := 137) (f := 0) Wa rfl (by decide), ec_fd_wr_o (by decide)]
      by_cases e : g = 0
      · rw [if_pos e, if_pos e]
        exact ec_twn (n := N + (i + 1)) (by omega)
      · rw [if_neg e, if_neg e]
    have A : ∀ y, ef_a (ec_pf (ec_wr w 138 ((N + i : Nat) : Int) (er_fb x1 i)) 137 0 (((N + i : Nat) : Int) + 1)) 138 y = if y = N + i then er_fb x1 i else ef_a w 138 y := by
      intro y
      have b := er_fb_in x1 i
      rw [ef_s_a (ef_s_pf (S := [137]) List.mem_cons_self) (by decide), ef_a_wr (n := 200) hW rfl (by omega) (by omega), ec_tw_id (a := er_fb x1 i) (by omega) (by omega)]
      unfold ef_u
      rw [Int.toNat_natCast]
    have S : ef_s [137, 138] w (ec_pf (ec_wr w 138 ((N + i : Nat) : Int) (er_fb x1 i)) 137 0 (((N + i : Nat) : Int) + 1)) := ef_s_trans (ef_s_wr (by decide)) (ef_s_pf (by decide))
    obtain ⟨y1, y2, y3, y4, y5, y6⟩ := ih n (i + 1) _ w1 v (by omega) ((F 0).trans (if_pos rfl)) l2
    refine ⟨y1, y2, ef_s_trans S y3, fun g hg => ?_, y5, fun y => ?_⟩
    · rw [y4 g hg, F g, if_neg hg]
    · rw [y6 y, A y]
      by_cases e : y = N + i
      · rw [if_neg (by omega), if_pos e, if_pos (by omega), e]
        congr 1
        omega
      · rw [if_neg e]
        by_cases e2 : N + (i + 1) ≤ y ∧ y < N + m
        · rw [if_pos e2, if_pos (by omega)]
        · rw [if_neg e2, if_neg (by omega)]
theorem ew_fdl {x1 : Int64} {x3 : Int} {N m : Nat} (hm : N + m ≤ 200) (tx : ec_tw x3 = (m : Int)) : ∀ (f n i : Nat) (w w1 : px_W) (v : Option Value), f + i = m → ec_fd w 151 4 = ((N + i : Nat) : Int) → ec_E hb_X n 247 30 [(0, .inr (.inl 215)), (1, .inr (.inr x1)), (3, .inl x3), (4, .inl (i : Int))] [] w (v, w1) → v = ec_R ((N + m : Nat) : Int) ∧ ec_W hb_A w1 ∧ ef_s [151, 154] w w1 ∧ (∀ g, g ≠ 4 → ec_fd w1 151 g = ec_fd w 151 g) ∧ ec_fd w1 151 4 = ((N + m : Nat) : Int) ∧ ∀ y, ef_a w1 154 y = if N + i ≤ y ∧ y < N + m then er_fb x1 (y - N) else ef_a w 154 y := by
  have t200 : ec_tw 200 = 200 := rfl
  intro f
  induction f with
  | zero =>
    intro n i w w1 v hi h0 h
    have l := eg247_151_30_0 h
    rw [tx, ec_twn (n := i) (by omega), h0] at l
    obtain ⟨_, hr, hW⟩ := l (by omega)
    injection hr with e1 e2
    have ei : i = m := by omega
    rw [e2]
    rw [ei] at e1 h0
    refine ⟨e1, hW, ef_s_refl, fun _ _ => rfl, h0, fun y => ?_⟩
    rw [if_neg (by omega)]
  | succ f ih =>
    intro n i w w1 v hi h0 h
    have hW := h.1
    have g0 : ∀ (p z : Int), ec_fd (ec_wr w 154 p z) 151 4 = ec_fd w 151 4 := fun _ _ => ec_fd_wr_o (by decide)
    have l := eg247_151_30_1 h
    rw [tx, ec_twn (n := i) (by omega)] at l
    simp only [g0] at l
    rw [h0, ec_twn (n := N + i) (by omega)] at l
    have l2 := (l (by omega)).2
    have Wa : ec_W hb_A (ec_wr w 154 ((N + i : Nat) : Int) (er_fb x1 i)) := ec_W_wr hW
    have Wb : ec_W hb_A (ec_pf (ec_wr w 154 ((N + i : Nat) : Int) (er_fb x1 i)) 151 4 (((N + i : Nat) : Int) + 1)) := ec_W_pf (k := 151) (f := 4) rfl rfl Wa
    have F : ∀ g, ec_fd (ec_pf (ec_wr w 154 ((N + i : Nat) : Int) (er_fb x1 i)) 151 4 (((N + i : Nat) : Int) + 1)) 151 g = if g = 4 then ((N + (i + 1) : Nat) : Int) else ec_fd w 151 g := by
      intro g
      rw [ec_fd_pf (k := 151) (f := 4) Wa rfl (by decide), ec_fd_wr_o (by decide)]
      by_cases e : g = 4
      · rw [if_pos e, if_pos e]
        exact ec_twn (n := N + (i + 1)) (by omega)
      · rw [if_neg e, if_neg e]
    have A : ∀ y, ef_a (ec_pf (ec_wr w 154 ((N + i : Nat) : Int) (er_fb x1 i)) 151 4 (((N + i : Nat) : Int) + 1)) 154 y = if y = N + i then er_fb x1 i else ef_a w 154 y := by
      intro y
      have b := er_fb_in x1 i
      rw [ef_s_a (ef_s_pf (S := [151]) List.mem_cons_self) (by decide), ef_a_wr (n := 200) hW rfl (by omega) (by omega), ec_tw_id (a := er_fb x1 i) (by omega) (by omega)]
      unfold ef_u
      rw [Int.toNat_natCast]
    have S : ef_s [151, 154] w (ec_pf (ec_wr w 154 ((N + i : Nat) : Int) (er_fb x1 i)) 151 4 (((N + i : Nat) : Int) + 1)) := ef_s_trans (ef_s_wr (by decide)) (ef_s_pf (by decide))
    obtain ⟨y1, y2, y3, y4, y5, y6⟩ := ih n (i + 1) _ w1 v (by omega) ((F 4).trans (if_pos rfl)) l2
    refine ⟨y1, y2, ef_s_trans S y3, fun g hg => ?_, y5, fun y => ?_⟩
    · rw [y4 g hg, F g, if_neg hg]
    · rw [y6 y, A y]
      by_cases e : y = N + i
      · rw [if_neg (by omega), if_pos e, if_pos (by omega), e]
        congr 1
        omega
      · rw [if_neg e]
        by_cases e2 : N + (i + 1) ≤ y ∧ y < N + m
        · rw [if_pos e2, if_pos (by omega)]
        · rw [if_neg e2, if_neg (by omega)]
/-- THE TAPE is the same on both sides -/
def er_TP (w : px_W) : Prop := ∃ N : Nat, N ≤ 200 ∧ ec_fd w 137 0 = (N : Int) ∧ ec_fd w 151 4 = (N : Int) ∧ ∀ y, y < N → ef_a w 154 y = ef_a w 138 y ∧ 0 ≤ ef_a w 138 y ∧ ef_a w 138 y ≤ 255
def er_fok (N : Nat) (x : Int) : Prop := (1 ≤ ec_tw x ∧ ec_tw x ≤ 8) ∧ (N : Int) + ec_tw x ≤ 200
theorem er_fsum {N : Nat} {x : Int} (hN : N ≤ 200) (h : 1 ≤ ec_tw x ∧ ec_tw x ≤ 8) : ec_tw ((N : Int) + x) = (N : Int) + ec_tw x := by
  rw [Int.add_comm, ← ec_tw_addl, Int.add_comm]
  exact ec_tw_id (by omega) (by omega)
theorem ew_feedA {N n : Nat} {x1 : Int64} {x3 : Int} {w w1 : px_W} {v : Option Value} (hN : N ≤ 200) (h0 : ec_fd w 137 0 = (N : Int)) (h : ec_E hb_X n 154 0 [(0, .inr (.inl 64)), (1, .inr (.inr x1)), (3, .inl x3)] [] w (v, w1)) : (¬ er_fok N x3 ∧ w1 = w) ∨ (er_fok N x3 ∧ ec_W hb_A w1 ∧ ef_s [137, 138] w w1 ∧ ec_fd w1 137 0 = ((N + (ec_tw x3).toNat : Nat) : Int) ∧ ∀ y, ef_a w1 138 y = if N ≤ y ∧ y < N + (ec_tw x3).toNat then er_fb x1 (y - N) else ef_a w 138 y) := by
  have t1 : ec_tw 1 = 1 := rfl
  have t8 : ec_tw 8 = 8 := rfl
  have t200 : ec_tw 200 = 200 := rfl
  obtain ⟨_, u, w2, a1, a2⟩ := eg154_0_0_0 h
  obtain ⟨e1, W1⟩ := ew_within a1
  rw [t1, t8] at e1
  injection e1 with e1 i1
  rw [i1] at a2
  have a3 := a2 _ e1 W1
  by_cases p : 1 ≤ ec_tw x3 ∧ ec_tw x3 ≤ 8
  · rw [if_pos p] at a3
    have k0 := eg154_0_7_0 a3 (by decide)
    have k1 := eg154_0_7_1 a3 (by decide)
    rw [h0, er_fsum hN p, t200] at k0 k1
    by_cases q : (N : Int) + ec_tw x3 ≤ 200
    · obtain ⟨_, u2, w3, b1, b2⟩ := k0 q
      obtain ⟨m, hm⟩ : ∃ m : Nat, ec_tw x3 = (m : Int) := ⟨(ec_tw x3).toNat, by omega⟩
      obtain ⟨y1, y2, y3, _, y5, y6⟩ := ew_tkl (N := N) (m := m) (x1 := x1) (x3 := x3) (by omega) hm m n 0 w w3 u2 (by omega) h0 (eg52_137_0_0 b1).2
      obtain ⟨_, hr, _⟩ := eg154_0_41_0 (b2 _ y1 y2)
      injection hr with _ hr
      rw [hr]
      have em : (ec_tw x3).toNat = m := by omega
      rw [em]
      exact .inr ⟨⟨p, q⟩, y2, y3, y5, y6⟩
    · obtain ⟨_, hr, _⟩ := k1 (by omega)
      injection hr with _ hr
      exact .inl ⟨fun z => q z.2, hr⟩
  · rw [if_neg p] at a3
    obtain ⟨_, hr, _⟩ := eg154_0_7_2 a3 rfl
    injection hr with _ hr
    exact .inl ⟨fun z => p z.1, hr⟩
theorem ew_feedB {N n : Nat} {x1 : Int64} {x3 : Int} {w w1 : px_W} {v : Option Value} (hN : N ≤ 200) (h0 : ec_fd w 151 4 = (N : Int)) (h : ec_E hb_X n 247 0 [(0, .inr (.inl 215)), (1, .inr (.inr x1)), (3, .inl x3)] [] w (v, w1)) : (¬ er_fok N x3 ∧ w1 = w) ∨ (er_fok N x3 ∧ ec_W hb_A w1 ∧ ef_s [151, 154] w w1 ∧ (∀ g, g ≠ 4 → ec_fd w1 151 g = ec_fd w 151 g) ∧ ec_fd w1 151 4 = ((N + (ec_tw x3).toNat : Nat) : Int) ∧ ∀ y, ef_a w1 154 y = if N ≤ y ∧ y < N + (ec_tw x3).toNat then er_fb x1 (y - N) else ef_a w 154 y) := by
  have t1 : ec_tw 1 = 1 := rfl
  have t8 : ec_tw 8 = 8 := rfl
  have t200 : ec_tw 200 = 200 := rfl
  obtain ⟨_, u, w2, a1, a2⟩ := eg247_151_0_0 h
  obtain ⟨e1, W1⟩ := ew_in a1
  rw [t1, t8] at e1
  injection e1 with e1 i1
  rw [i1] at a2
  have a3 := a2 _ e1 W1
  by_cases p : 1 ≤ ec_tw x3 ∧ ec_tw x3 ≤ 8
  · rw [if_pos p] at a3
    have k0 := eg247_151_7_0 a3 (by decide)
    have k1 := eg247_151_7_1 a3 (by decide)
    rw [h0, er_fsum hN p, t200] at k0 k1
    by_cases q : (N : Int) + ec_tw x3 ≤ 200
    · obtain ⟨m, hm⟩ : ∃ m : Nat, ec_tw x3 = (m : Int) := ⟨(ec_tw x3).toNat, by omega⟩
      obtain ⟨_, y2, y3, y4, y5, y6⟩ := ew_fdl (N := N) (m := m) (x1 := x1) (x3 := x3) (by omega) hm m n 0 w w1 v (by omega) h0 (k0 q).2
      have em : (ec_tw x3).toNat = m := by omega
      rw [em]
      exact .inr ⟨⟨p, q⟩, y2, y3, y4, y5, y6⟩
    · obtain ⟨_, hr, _⟩ := k1 (by omega)
      injection hr with _ hr
      exact .inl ⟨fun z => q z.2, hr⟩
  · rw [if_neg p] at a3
    obtain ⟨_, hr, _⟩ := eg247_151_7_2 a3 rfl
    injection hr with _ hr
    exact .inl ⟨fun z => p z.1, hr⟩
theorem ew_feed {xs : List Int32} {n : Nat} {x1 : Int64} {x3 : Int} {w wA wB : px_W} {vA vB : Option Value} (hT : er_TP w) (hA : ec_F (hb_XL xs) n 154 [.inr (.inl 64), .inr (.inr x1), .inl x3] w (vA, wA)) (hB : ec_F (hb_XL xs) n 247 [.inr (.inl 215), .inr (.inr x1), .inl x3] wA (vB, wB)) : er_TP wB ∧ ef_s [137, 138, 151, 154] w wB ∧ ∀ g, g ≠ 4 → ec_fd wB 151 g = ec_fd w 151 g := by
  obtain ⟨N, hN, h1, h2, h3⟩ := hT
  rcases ew_feedA hN h1 (hb_FE hA) with ⟨p, e⟩ | ⟨p, WA, s1, f1, r1⟩
  · rw [e] at hB
    rcases ew_feedB hN h2 (hb_FE hB) with ⟨_, e2⟩ | ⟨p2, _⟩
    · rw [e2]
      exact ⟨⟨N, hN, h1, h2, h3⟩, ef_s_refl, fun _ _ => rfl⟩
    · exact absurd p2 p
  · have q2 : ec_fd wA 151 4 = (N : Int) := (ef_s_f s1 (by decide) 4).trans h2
    rcases ew_feedB hN q2 (hb_FE hB) with ⟨p2, _⟩ | ⟨_, WB, s2, g2, f2, r2⟩
    · exact absurd p p2
    · obtain ⟨p1, p3⟩ := p
      refine ⟨⟨N + (ec_tw x3).toNat, by omega, (ef_s_f s2 (by decide) 0).trans f1, f2, fun y hy => ?_⟩, ef_s_trans (ef_s_mono s1 (by decide)) (ef_s_mono s2 (by decide)), fun g hg => (g2 g hg).trans (ef_s_f s1 (by decide) g)⟩
      rw [r2 y, ef_s_a s2 (k := 138) (by decide), r1 y, ef_s_a s1 (k := 154) (by decide)]
      by_cases e : N ≤ y
      · rw [if_pos ⟨e, hy⟩, if_pos ⟨e, hy⟩]
        exact ⟨rfl, er_fb_in _ _⟩
      · rw [if_neg (fun z => e z.1), if_neg (fun z => e z.1)]
        exact h3 y (by omega)

end

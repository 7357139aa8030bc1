noncomputable section
/-! WAYS, GROUPS, BOATS: how one comes, on both sides -/
theorem ew_isMinuteA {n : Nat} {w : px_W} {r : Option Value × px_W} {x0 : Int} (h : ec_E hb_X n 174 0 [(0, .inl x0)] [] w r) : r = (ec_R (if 0 ≤ ec_tw x0 ∧ ec_tw x0 ≤ 999 then 1 else 0), w) ∧ ec_W hb_A w := by
  have e0 : ec_tw 0 = 0 := rfl
  have e8 : ec_tw 999 = 999 := rfl
  by_cases h1 : 0 ≤ ec_tw x0
  · by_cases h2 : ec_tw x0 ≤ 999
    · rw [if_pos ⟨h1, h2⟩]
      exact (eg174_0_2 h (by omega) (by omega)).2
    · rw [if_neg (fun e => h2 e.2)]
      exact (eg174_0_1 h (by omega) (by omega)).2
  · rw [if_neg (fun e => h1 e.1)]
    exact (eg174_0_0 h (by omega)).2
theorem ew_isMinuteB {n : Nat} {w : px_W} {r : Option Value × px_W} {x0 : Int} (h : ec_E hb_X n 183 0 [(0, .inl x0)] [] w r) : r = (ec_R (if 0 ≤ ec_tw x0 ∧ ec_tw x0 ≤ 999 then 1 else 0), w) ∧ ec_W hb_A w := by
  obtain ⟨_, v, w1, h1, h2⟩ := eg183_0_0 h
  obtain ⟨h3, h4⟩ := ew_in h1
  injection h3 with h3 h5
  subst h5
  exact (eg183_8_0 (h2 _ h3 h4)).2
def ef_okway (x1 x2 x3 x4 : Int) : Prop := (0 ≤ ec_tw x1 ∧ ec_tw x1 ≤ 7) ∧ (0 ≤ ec_tw x2 ∧ ec_tw x2 ≤ 7) ∧ ec_tw x1 ≠ ec_tw x2 ∧ (1 ≤ ec_tw x3 ∧ ec_tw x3 ≤ 20) ∧ (0 ≤ ec_tw x4 ∧ ec_tw x4 ≤ 999)
def ef_okgroup (x1 x2 x3 x4 : Int) : Prop := (1 ≤ ec_tw x1 ∧ ec_tw x1 ≤ 50) ∧ (0 ≤ ec_tw x2 ∧ ec_tw x2 ≤ 2) ∧ (0 ≤ ec_tw x3 ∧ ec_tw x3 ≤ 7) ∧ (0 ≤ ec_tw x4 ∧ ec_tw x4 ≤ 999)
def ef_okboat (x1 x2 x3 x4 : Int) : Prop := (1 ≤ ec_tw x1 ∧ ec_tw x1 ≤ 65) ∧ (0 ≤ ec_tw x2 ∧ ec_tw x2 ≤ 7) ∧ (0 ≤ ec_tw x3 ∧ ec_tw x3 ≤ 999) ∧ (0 ≤ ec_tw x4 ∧ ec_tw x4 ≤ 1)
/-- four places of a row of 1580, and how many there are -/
def ef_a4 (w : px_W) (a : Int) (cn : Int) (x1 x2 x3 x4 : Int) : px_W := ec_wr (ec_wr (ec_wr (ec_wr (ec_wr w 152 (ec_tw a) x1) 152 (ec_tw (a + 1)) x2) 152 (ec_tw (a + 2)) x3) 152 (ec_tw (a + 3)) x4) 152 (ec_tw cn) (ec_rd (ec_wr (ec_wr (ec_wr (ec_wr w 152 (ec_tw a) x1) 152 (ec_tw (a + 1)) x2) 152 (ec_tw (a + 2)) x3) 152 (ec_tw (a + 3)) x4) 152 (ec_tw cn) + 1)
theorem ef_a4_ok {w : px_W} {a cn : Nat} {x1 x2 x3 x4 c : Int} (hW : ec_W hb_A w) (ha : 64 ≤ a) (ha2 : a + 3 < 1580) (hc : cn < 64) (hv : ef_a w 152 cn = c) (c0 : 0 ≤ c) (c1 : c ≤ 1000) : ef_s [152] w (ef_a4 w a cn x1 x2 x3 x4) ∧ ∀ p : Nat, ef_a (ef_a4 w a cn x1 x2 x3 x4) 152 p = if p = cn then c + 1 else if p = a then ec_tw x1 else if p = a + 1 then ec_tw x2 else if p = a + 2 then ec_tw x3 else if p = a + 3 then ec_tw x4 else ef_a w 152 p := by
  have ta : ec_tw (a : Int) = (a : Int) := ec_twn (by omega)
  have ta1 : ec_tw ((a : Int) + 1) = ((a + 1 : Nat) : Int) := ec_tw_id (by omega) (by omega)
  have ta2 : ec_tw ((a : Int) + 2) = ((a + 2 : Nat) : Int) := ec_tw_id (by omega) (by omega)
  have ta3 : ec_tw ((a : Int) + 3) = ((a + 3 : Nat) : Int) := ec_tw_id (by omega) (by omega)
  have tc : ec_tw (cn : Int) = (cn : Int) := ec_twn (by omega)
  unfold ef_a4
  rw [ta, ta1, ta2, ta3, tc]
  have W1 : ec_W hb_A (ec_wr w 152 (a : Int) x1) := ec_W_wr hW
  have W2 : ec_W hb_A (ec_wr (ec_wr w 152 (a : Int) x1) 152 ((a + 1 : Nat) : Int) x2) := ec_W_wr W1
  have W3 : ec_W hb_A (ec_wr (ec_wr (ec_wr w 152 (a : Int) x1) 152 ((a + 1 : Nat) : Int) x2) 152 ((a + 2 : Nat) : Int) x3) := ec_W_wr W2
  have W4 : ec_W hb_A (ec_wr (ec_wr (ec_wr (ec_wr w 152 (a : Int) x1) 152 ((a + 1 : Nat) : Int) x2) 152 ((a + 2 : Nat) : Int) x3) 152 ((a + 3 : Nat) : Int) x4) := ec_W_wr W3
  have m : (152 : Nat) ∈ [152] := List.mem_cons_self
  have e4 : ∀ p : Nat, ef_a (ec_wr (ec_wr (ec_wr (ec_wr w 152 (a : Int) x1) 152 ((a + 1 : Nat) : Int) x2) 152 ((a + 2 : Nat) : Int) x3) 152 ((a + 3 : Nat) : Int) x4) 152 p = if p = a + 3 then ec_tw x4 else if p = a + 2 then ec_tw x3 else if p = a + 1 then ec_tw x2 else if p = a then ec_tw x1 else ef_a w 152 p := by
    intro p
    rw [ef_a_wr (n := 1580) W3 rfl (by omega) (by omega), ef_a_wr (n := 1580) W2 rfl (by omega) (by omega), ef_a_wr (n := 1580) W1 rfl (by omega) (by omega), ef_a_wr (n := 1580) hW rfl (by omega) (by omega)]
    rfl
  have ec : ec_rd (ec_wr (ec_wr (ec_wr (ec_wr w 152 (a : Int) x1) 152 ((a + 1 : Nat) : Int) x2) 152 ((a + 2 : Nat) : Int) x3) 152 ((a + 3 : Nat) : Int) x4) 152 (cn : Int) = c := by
    rw [ef_rd, e4 cn, if_neg (by omega), if_neg (by omega), if_neg (by omega), if_neg (by omega)]
    exact hv
  refine ⟨ef_s_trans (ef_s_trans (ef_s_trans (ef_s_trans (ef_s_wr m) (ef_s_wr m)) (ef_s_wr m)) (ef_s_wr m)) (ef_s_wr m), fun p => ?_⟩
  rw [ec, ef_a_wr (n := 1580) W4 rfl (by omega) (by omega)]
  unfold ef_u
  rw [e4 p, ec_tw_id (by omega) (by omega)]
  by_cases h0 : p = cn
  · rw [if_pos (by omega), if_pos h0]
  · rw [if_neg (by omega), if_neg h0]
    by_cases h1 : p = a
    · rw [if_neg (by omega), if_neg (by omega), if_neg (by omega), if_pos h1, if_pos h1]
    · by_cases h2 : p = a + 1
      · rw [if_neg (by omega), if_neg (by omega), if_pos h2, if_neg h1, if_pos h2]
      · by_cases h3 : p = a + 2
        · rw [if_neg (by omega), if_pos h3, if_neg h1, if_neg h2, if_pos h3]
        · by_cases h4 : p = a + 3
          · rw [if_pos h4, if_neg h1, if_neg h2, if_neg h3, if_pos h4]
          · rw [if_neg h4, if_neg h3, if_neg h2, if_neg h1, if_neg h1, if_neg h2, if_neg h3, if_neg h4]
/-- the class: one more way -/
def ef_addwayA (w : px_W) (c : Int) (x1 x2 x3 x4 : Int) : px_W := ec_pf (ec_wr (ec_wr (ec_wr (ec_wr (w) 16 c x1) 17 c x2) 18 c x3) 19 c x4) 15 0 (c + 1)
theorem ew_addway {n : Nat} {w : px_W} {r : Option Value × px_W} {x1 x2 x3 x4 : Int} (h : ec_E hb_X n 15 0 [(0, .inr (.inl 79)), (1, .inl x1), (2, .inl x2), (3, .inl x3), (4, .inl x4)] [] w r) : ∃ v : Int, r = (ec_R v, ef_addwayA w (ec_fd w 15 0) x1 x2 x3 x4) ∧ ec_W hb_A (ef_addwayA w (ec_fd w 15 0) x1 x2 x3 x4) ∧ 0 ≤ ec_fd w 15 0 ∧ ec_fd w 15 0 < 12 := by
  have k := eg15_15_0_0 h
  simp only [ec_fd_wr_o (show (16 : Nat) ≠ 15 by decide), ec_fd_wr_o (show (17 : Nat) ≠ 15 by decide), ec_fd_wr_o (show (18 : Nat) ≠ 15 by decide), ec_fd_wr_o (show (19 : Nat) ≠ 15 by decide), ec_tw_fd] at k
  obtain ⟨⟨_, hc⟩, hr, hW⟩ := k
  exact ⟨_, hr, hW, hc⟩
theorem ew_wayA {n : Nat} {w : px_W} {r : Option Value × px_W} {x1 x2 x3 x4 : Int} (h : ec_E hb_X n 130 0 [(0, .inr (.inl 64)), (1, .inl x1), (2, .inl x2), (3, .inl x3), (4, .inl x4)] [] w r) : ∃ (v : Int) (w' : px_W), r = (ec_R v, w') ∧ ec_W hb_A w' ∧ ((¬ (ef_okway x1 x2 x3 x4 ∧ ec_fd w 15 0 < 12) ∧ w' = w) ∨ ((ef_okway x1 x2 x3 x4 ∧ ec_fd w 15 0 < 12) ∧ w' = ef_addwayA w (ec_fd w 15 0) x1 x2 x3 x4)) := by
  have t1 : ec_tw 1 = 1 := rfl
  have t12 : ec_tw 12 = 12 := rfl
  have t20 : ec_tw 20 = 20 := rfl
  have u0 := ec_tw_fd w 15 0
  obtain ⟨_, v1, w1, a1, b1⟩ := eg130_0_0_0 h
  obtain ⟨e1, W1⟩ := ew_isPlaceA a1
  injection e1 with e1 f1
  replace f1 := f1.symm
  subst f1
  have h1 := b1 _ e1 W1
  by_cases g1 : 0 ≤ ec_tw x1 ∧ ec_tw x1 ≤ 7
  · rw [if_pos g1] at h1
    obtain ⟨_, v2, w2, a2, b2⟩ := eg130_0_4_1 h1 (by decide)
    obtain ⟨e2, W2⟩ := ew_isPlaceA a2
    injection e2 with e2 f2
    replace f2 := f2.symm
    subst f2
    have h2 := b2 _ e2 W2
    by_cases g2 : 0 ≤ ec_tw x2 ∧ ec_tw x2 ≤ 7
    · rw [if_pos g2] at h2
      by_cases c3 : ec_tw x1 ≠ ec_tw x2
      · obtain ⟨_, v4, w4, a4, b4⟩ := eg130_0_11_1 h2 (by decide) c3
        obtain ⟨e4, W4⟩ := ew_within a4
        injection e4 with e4 f4
        replace f4 := f4.symm
        subst f4
        have h4 := b4 _ e4 W4
        by_cases g4 : ec_tw 1 ≤ ec_tw x3 ∧ ec_tw x3 ≤ ec_tw 20
        · rw [if_pos g4] at h4
          obtain ⟨_, v5, w5, a5, b5⟩ := eg130_0_28_1 h4 (by decide)
          obtain ⟨e5, W5⟩ := ew_isMinuteA a5
          injection e5 with e5 f5
          replace f5 := f5.symm
          subst f5
          have h5 := b5 _ e5 W5
          by_cases g5 : 0 ≤ ec_tw x4 ∧ ec_tw x4 ≤ 999
          · rw [if_pos g5] at h5
            by_cases c6 : ec_tw (ec_fd w 15 0) < ec_tw 12
            · obtain ⟨_, v, w1, a1, a2⟩ := eg130_0_36_0 h5 (by decide) c6
              obtain ⟨v1, e1, W1, r1, r2⟩ := ew_addway a1
              injection e1 with e1 f1
              subst f1
              obtain ⟨_, hr, hW⟩ := eg130_0_70_0 (a2 _ e1 W1)
              exact ⟨_, _, hr, hW, .inr ⟨⟨by unfold ef_okway; omega, by omega⟩, rfl⟩⟩
            · obtain ⟨_, hr, hW⟩ := eg130_0_36_1 h5 (by decide) (by omega)
              exact ⟨_, _, hr, hW, .inl ⟨fun q => by unfold ef_okway at q; omega, rfl⟩⟩
          · rw [if_neg g5] at h5
            obtain ⟨_, hr, hW⟩ := eg130_0_36_2 h5 rfl
            exact ⟨_, _, hr, hW, .inl ⟨fun q => by unfold ef_okway at q; omega, rfl⟩⟩
        · rw [if_neg g4] at h4
          obtain ⟨_, hr, hW⟩ := eg130_0_28_0 h4 rfl
          exact ⟨_, _, hr, hW, .inl ⟨fun q => by unfold ef_okway at q; omega, rfl⟩⟩
      · obtain ⟨_, hr, hW⟩ := eg130_0_11_2 h2 (by decide) (by omega)
        exact ⟨_, _, hr, hW, .inl ⟨fun q => by unfold ef_okway at q; omega, rfl⟩⟩
    · rw [if_neg g2] at h2
      obtain ⟨_, hr, hW⟩ := eg130_0_11_0 h2 rfl
      exact ⟨_, _, hr, hW, .inl ⟨fun q => by unfold ef_okway at q; omega, rfl⟩⟩
  · rw [if_neg g1] at h1
    obtain ⟨_, hr, hW⟩ := eg130_0_4_0 h1 rfl
    exact ⟨_, _, hr, hW, .inl ⟨fun q => by unfold ef_okway at q; omega, rfl⟩⟩

theorem ew_wayB {n : Nat} {w : px_W} {r : Option Value × px_W} {x1 x2 x3 x4 : Int} {c : Nat} (hc : ef_a w 152 3 = (c : Int)) (hm : c ≤ 12) (h : ec_E hb_X n 206 0 [(0, .inr (.inl 215)), (1, .inl x1), (2, .inl x2), (3, .inl x3), (4, .inl x4)] [] w r) : ∃ (v : Int) (w' : px_W), r = (ec_R v, w') ∧ ec_W hb_A w' ∧ ((¬ (ef_okway x1 x2 x3 x4 ∧ c < 12) ∧ w' = w) ∨ ((ef_okway x1 x2 x3 x4 ∧ c < 12) ∧ ef_s [152] w w' ∧ ∀ p : Nat, ef_a w' 152 p = if p = 3 then (c : Int) + 1 else if p = 128 + 4 * c then ec_tw x1 else if p = 128 + 4 * c + 1 then ec_tw x2 else if p = 128 + 4 * c + 2 then ec_tw x3 else if p = 128 + 4 * c + 3 then ec_tw x4 else ef_a w 152 p)) := by
  have t1 : ec_tw 1 = 1 := rfl
  have t3 : ec_tw 3 = 3 := rfl
  have t12 : ec_tw 12 = 12 := rfl
  have t20 : ec_tw 20 = 20 := rfl
  have e3 : ec_tw 3 = ((3 : Nat) : Int) := rfl
  have u1 : ec_tw (ec_rd w 152 (ec_tw 3)) = (c : Int) := by rw [e3, ef_rd, ef_tw]; exact hc
  have u2 : ec_rd w 152 (ec_tw 3) = (c : Int) := by rw [e3, ef_rd]; exact hc
  obtain ⟨_, v1, w1, a1, b1⟩ := eg206_151_0_0 h
  obtain ⟨e1, W1⟩ := ew_isPlaceB a1
  injection e1 with e1 f1
  replace f1 := f1.symm
  subst f1
  have h1 := b1 _ e1 W1
  by_cases g1 : 0 ≤ ec_tw x1 ∧ ec_tw x1 ≤ 7
  · rw [if_pos g1] at h1
    obtain ⟨_, v2, w2, a2, b2⟩ := eg206_151_4_1 h1 (by decide)
    obtain ⟨e2, W2⟩ := ew_isPlaceB a2
    injection e2 with e2 f2
    replace f2 := f2.symm
    subst f2
    have h2 := b2 _ e2 W2
    by_cases g2 : 0 ≤ ec_tw x2 ∧ ec_tw x2 ≤ 7
    · rw [if_pos g2] at h2
      by_cases c3 : ec_tw x1 = ec_tw x2
      · obtain ⟨_, hr, hW⟩ := eg206_151_11_1 h2 (by decide) c3
        exact ⟨_, _, hr, hW, .inl ⟨fun q => by unfold ef_okway at q; omega, rfl⟩⟩
      · obtain ⟨_, v4, w4, a4, b4⟩ := eg206_151_11_2 h2 (by decide) (by omega)
        obtain ⟨e4, W4⟩ := ew_in a4
        injection e4 with e4 f4
        replace f4 := f4.symm
        subst f4
        have h4 := b4 _ e4 W4
        by_cases g4 : ec_tw 1 ≤ ec_tw x3 ∧ ec_tw x3 ≤ ec_tw 20
        · rw [if_pos g4] at h4
          obtain ⟨_, v5, w5, a5, b5⟩ := eg206_151_26_1 h4 (by decide)
          obtain ⟨e5, W5⟩ := ew_isMinuteB a5
          injection e5 with e5 f5
          replace f5 := f5.symm
          subst f5
          have h5 := b5 _ e5 W5
          by_cases g5 : 0 ≤ ec_tw x4 ∧ ec_tw x4 ≤ 999
          · rw [if_pos g5] at h5
            by_cases c6 : ec_tw (ec_rd w 152 (ec_tw 3)) ≠ ec_tw 12
            · have h67 := (eg206_151_34_0 h5 (by decide) c6).2
              have e5 : (128 : Int) + 4 * ec_rd w 152 (ec_tw 3) = ((128 + 4 * c : Nat) : Int) := by rw [u2]; omega
              rw [e5] at h67
              obtain ⟨_, hr, hW⟩ := eg206_151_67_0 h67
              obtain ⟨q1, q2⟩ := ef_a4_ok (w := w) (a := 128 + 4 * c) (cn := 3) (x1 := x1) (x2 := x2) (x3 := x3) (x4 := x4) h.1 (by omega) (by omega) (by decide) hc (by omega) (by omega)
              exact ⟨_, _, hr, hW, .inr ⟨⟨by unfold ef_okway; omega, by omega⟩, q1, q2⟩⟩
            · obtain ⟨_, hr, hW⟩ := eg206_151_34_1 h5 (by decide) (by omega)
              exact ⟨_, _, hr, hW, .inl ⟨fun q => by unfold ef_okway at q; omega, rfl⟩⟩
          · rw [if_neg g5] at h5
            obtain ⟨_, hr, hW⟩ := eg206_151_34_2 h5 rfl
            exact ⟨_, _, hr, hW, .inl ⟨fun q => by unfold ef_okway at q; omega, rfl⟩⟩
        · rw [if_neg g4] at h4
          obtain ⟨_, hr, hW⟩ := eg206_151_26_0 h4 rfl
          exact ⟨_, _, hr, hW, .inl ⟨fun q => by unfold ef_okway at q; omega, rfl⟩⟩
    · rw [if_neg g2] at h2
      obtain ⟨_, hr, hW⟩ := eg206_151_11_0 h2 rfl
      exact ⟨_, _, hr, hW, .inl ⟨fun q => by unfold ef_okway at q; omega, rfl⟩⟩
  · rw [if_neg g1] at h1
    obtain ⟨_, hr, hW⟩ := eg206_151_4_0 h1 rfl
    exact ⟨_, _, hr, hW, .inl ⟨fun q => by unfold ef_okway at q; omega, rfl⟩⟩

/-- the class: one more group -/
def ef_addgroupA (w : px_W) (c : Int) (x1 x2 x3 x4 : Int) : px_W := ec_pf (ec_wr (ec_wr (ec_wr (ec_wr (w) 20 c x1) 21 c x2) 22 c x3) 23 c x4) 15 5 (c + 1)
theorem ew_addgroup {n : Nat} {w : px_W} {r : Option Value × px_W} {x1 x2 x3 x4 : Int} (h : ec_E hb_X n 16 0 [(0, .inr (.inl 79)), (1, .inl x1), (2, .inl x2), (3, .inl x3), (4, .inl x4)] [] w r) : ∃ v : Int, r = (ec_R v, ef_addgroupA w (ec_fd w 15 5) x1 x2 x3 x4) ∧ ec_W hb_A (ef_addgroupA w (ec_fd w 15 5) x1 x2 x3 x4) ∧ 0 ≤ ec_fd w 15 5 ∧ ec_fd w 15 5 < 10 := by
  have k := eg16_15_0_0 h
  simp only [ec_fd_wr_o (show (20 : Nat) ≠ 15 by decide), ec_fd_wr_o (show (21 : Nat) ≠ 15 by decide), ec_fd_wr_o (show (22 : Nat) ≠ 15 by decide), ec_fd_wr_o (show (23 : Nat) ≠ 15 by decide), ec_tw_fd] at k
  obtain ⟨⟨_, hc⟩, hr, hW⟩ := k
  exact ⟨_, hr, hW, hc⟩
theorem ew_groupA {n : Nat} {w : px_W} {r : Option Value × px_W} {x1 x2 x3 x4 : Int} (h : ec_E hb_X n 131 0 [(0, .inr (.inl 64)), (1, .inl x1), (2, .inl x2), (3, .inl x3), (4, .inl x4)] [] w r) : ∃ (v : Int) (w' : px_W), r = (ec_R v, w') ∧ ec_W hb_A w' ∧ ((¬ (ef_okgroup x1 x2 x3 x4 ∧ ec_fd w 15 5 < 10) ∧ w' = w) ∨ ((ef_okgroup x1 x2 x3 x4 ∧ ec_fd w 15 5 < 10) ∧ w' = ef_addgroupA w (ec_fd w 15 5) x1 x2 x3 x4)) := by
  have t0 : ec_tw 0 = 0 := rfl
  have t1 : ec_tw 1 = 1 := rfl
  have t2 : ec_tw 2 = 2 := rfl
  have t10 : ec_tw 10 = 10 := rfl
  have t50 : ec_tw 50 = 50 := rfl
  have u0 := ec_tw_fd w 15 5
  obtain ⟨_, v1, w1, a1, b1⟩ := eg131_0_0_0 h
  obtain ⟨e1, W1⟩ := ew_within a1
  injection e1 with e1 f1
  replace f1 := f1.symm
  subst f1
  have h1 := b1 _ e1 W1
  by_cases g1 : ec_tw 1 ≤ ec_tw x1 ∧ ec_tw x1 ≤ ec_tw 50
  · rw [if_pos g1] at h1
    obtain ⟨_, v2, w2, a2, b2⟩ := eg131_0_7_1 h1 (by decide)
    obtain ⟨e2, W2⟩ := ew_within a2
    injection e2 with e2 f2
    replace f2 := f2.symm
    subst f2
    have h2 := b2 _ e2 W2
    by_cases g2 : ec_tw 0 ≤ ec_tw x2 ∧ ec_tw x2 ≤ ec_tw 2
    · rw [if_pos g2] at h2
      obtain ⟨_, v3, w3, a3, b3⟩ := eg131_0_16_1 h2 (by decide)
      obtain ⟨e3, W3⟩ := ew_isPlaceA a3
      injection e3 with e3 f3
      replace f3 := f3.symm
      subst f3
      have h3 := b3 _ e3 W3
      by_cases g3 : 0 ≤ ec_tw x3 ∧ ec_tw x3 ≤ 7
      · rw [if_pos g3] at h3
        obtain ⟨_, v4, w4, a4, b4⟩ := eg131_0_23_1 h3 (by decide)
        obtain ⟨e4, W4⟩ := ew_isMinuteA a4
        injection e4 with e4 f4
        replace f4 := f4.symm
        subst f4
        have h4 := b4 _ e4 W4
        by_cases g4 : 0 ≤ ec_tw x4 ∧ ec_tw x4 ≤ 999
        · rw [if_pos g4] at h4
          by_cases c5 : ec_tw (ec_fd w 15 5) < ec_tw 10
          · obtain ⟨_, v, w1, a1, a2⟩ := eg131_0_31_0 h4 (by decide) c5
            obtain ⟨v1, e1, W1, r1, r2⟩ := ew_addgroup a1
            injection e1 with e1 f1
            subst f1
            obtain ⟨_, hr, hW⟩ := eg131_0_65_0 (a2 _ e1 W1)
            exact ⟨_, _, hr, hW, .inr ⟨⟨by unfold ef_okgroup; omega, by omega⟩, rfl⟩⟩
          · obtain ⟨_, hr, hW⟩ := eg131_0_31_1 h4 (by decide) (by omega)
            exact ⟨_, _, hr, hW, .inl ⟨fun q => by unfold ef_okgroup at q; omega, rfl⟩⟩
        · rw [if_neg g4] at h4
          obtain ⟨_, hr, hW⟩ := eg131_0_31_2 h4 rfl
          exact ⟨_, _, hr, hW, .inl ⟨fun q => by unfold ef_okgroup at q; omega, rfl⟩⟩
      · rw [if_neg g3] at h3
        obtain ⟨_, hr, hW⟩ := eg131_0_23_0 h3 rfl
        exact ⟨_, _, hr, hW, .inl ⟨fun q => by unfold ef_okgroup at q; omega, rfl⟩⟩
    · rw [if_neg g2] at h2
      obtain ⟨_, hr, hW⟩ := eg131_0_16_0 h2 rfl
      exact ⟨_, _, hr, hW, .inl ⟨fun q => by unfold ef_okgroup at q; omega, rfl⟩⟩
  · rw [if_neg g1] at h1
    obtain ⟨_, hr, hW⟩ := eg131_0_7_0 h1 rfl
    exact ⟨_, _, hr, hW, .inl ⟨fun q => by unfold ef_okgroup at q; omega, rfl⟩⟩

theorem ew_groupB {n : Nat} {w : px_W} {r : Option Value × px_W} {x1 x2 x3 x4 : Int} {c : Nat} (hc : ef_a w 152 4 = (c : Int)) (hm : c ≤ 10) (h : ec_E hb_X n 207 0 [(0, .inr (.inl 215)), (1, .inl x1), (2, .inl x2), (3, .inl x3), (4, .inl x4)] [] w r) : ∃ (v : Int) (w' : px_W), r = (ec_R v, w') ∧ ec_W hb_A w' ∧ ((¬ (ef_okgroup x1 x2 x3 x4 ∧ c < 10) ∧ w' = w) ∨ ((ef_okgroup x1 x2 x3 x4 ∧ c < 10) ∧ ef_s [152] w w' ∧ ∀ p : Nat, ef_a w' 152 p = if p = 4 then (c : Int) + 1 else if p = 176 + 4 * c then ec_tw x1 else if p = 176 + 4 * c + 1 then ec_tw x2 else if p = 176 + 4 * c + 2 then ec_tw x3 else if p = 176 + 4 * c + 3 then ec_tw x4 else ef_a w 152 p)) := by
  have t0 : ec_tw 0 = 0 := rfl
  have t1 : ec_tw 1 = 1 := rfl
  have t2 : ec_tw 2 = 2 := rfl
  have t4 : ec_tw 4 = 4 := rfl
  have t10 : ec_tw 10 = 10 := rfl
  have t50 : ec_tw 50 = 50 := rfl
  have e3 : ec_tw 4 = ((4 : Nat) : Int) := rfl
  have u1 : ec_tw (ec_rd w 152 (ec_tw 4)) = (c : Int) := by rw [e3, ef_rd, ef_tw]; exact hc
  have u2 : ec_rd w 152 (ec_tw 4) = (c : Int) := by rw [e3, ef_rd]; exact hc
  obtain ⟨_, v1, w1, a1, b1⟩ := eg207_151_0_0 h
  obtain ⟨e1, W1⟩ := ew_in a1
  injection e1 with e1 f1
  replace f1 := f1.symm
  subst f1
  have h1 := b1 _ e1 W1
  by_cases g1 : ec_tw 1 ≤ ec_tw x1 ∧ ec_tw x1 ≤ ec_tw 50
  · rw [if_pos g1] at h1
    obtain ⟨_, v2, w2, a2, b2⟩ := eg207_151_7_1 h1 (by decide)
    obtain ⟨e2, W2⟩ := ew_in a2
    injection e2 with e2 f2
    replace f2 := f2.symm
    subst f2
    have h2 := b2 _ e2 W2
    by_cases g2 : ec_tw 0 ≤ ec_tw x2 ∧ ec_tw x2 ≤ ec_tw 2
    · rw [if_pos g2] at h2
      obtain ⟨_, v3, w3, a3, b3⟩ := eg207_151_16_1 h2 (by decide)
      obtain ⟨e3, W3⟩ := ew_isPlaceB a3
      injection e3 with e3 f3
      replace f3 := f3.symm
      subst f3
      have h3 := b3 _ e3 W3
      by_cases g3 : 0 ≤ ec_tw x3 ∧ ec_tw x3 ≤ 7
      · rw [if_pos g3] at h3
        obtain ⟨_, v4, w4, a4, b4⟩ := eg207_151_23_1 h3 (by decide)
        obtain ⟨e4, W4⟩ := ew_isMinuteB a4
        injection e4 with e4 f4
        replace f4 := f4.symm
        subst f4
        have h4 := b4 _ e4 W4
        by_cases g4 : 0 ≤ ec_tw x4 ∧ ec_tw x4 ≤ 999
        · rw [if_pos g4] at h4
          by_cases c5 : ec_tw (ec_rd w 152 (ec_tw 4)) ≠ ec_tw 10
          · have h67 := (eg207_151_31_0 h4 (by decide) c5).2
            have e5 : (176 : Int) + 4 * ec_rd w 152 (ec_tw 4) = ((176 + 4 * c : Nat) : Int) := by rw [u2]; omega
            rw [e5] at h67
            obtain ⟨_, hr, hW⟩ := eg207_151_64_0 h67
            obtain ⟨q1, q2⟩ := ef_a4_ok (w := w) (a := 176 + 4 * c) (cn := 4) (x1 := x1) (x2 := x2) (x3 := x3) (x4 := x4) h.1 (by omega) (by omega) (by decide) hc (by omega) (by omega)
            exact ⟨_, _, hr, hW, .inr ⟨⟨by unfold ef_okgroup; omega, by omega⟩, q1, q2⟩⟩
          · obtain ⟨_, hr, hW⟩ := eg207_151_31_1 h4 (by decide) (by omega)
            exact ⟨_, _, hr, hW, .inl ⟨fun q => by unfold ef_okgroup at q; omega, rfl⟩⟩
        · rw [if_neg g4] at h4
          obtain ⟨_, hr, hW⟩ := eg207_151_31_2 h4 rfl
          exact ⟨_, _, hr, hW, .inl ⟨fun q => by unfold ef_okgroup at q; omega, rfl⟩⟩
      · rw [if_neg g3] at h3
        obtain ⟨_, hr, hW⟩ := eg207_151_23_0 h3 rfl
        exact ⟨_, _, hr, hW, .inl ⟨fun q => by unfold ef_okgroup at q; omega, rfl⟩⟩
    · rw [if_neg g2] at h2
      obtain ⟨_, hr, hW⟩ := eg207_151_16_0 h2 rfl
      exact ⟨_, _, hr, hW, .inl ⟨fun q => by unfold ef_okgroup at q; omega, rfl⟩⟩
  · rw [if_neg g1] at h1
    obtain ⟨_, hr, hW⟩ := eg207_151_7_0 h1 rfl
    exact ⟨_, _, hr, hW, .inl ⟨fun q => by unfold ef_okgroup at q; omega, rfl⟩⟩

/-- the class: one more boat -/
def ef_addboatA (w : px_W) (c : Int) (x1 x2 x3 x4 : Int) : px_W := ec_pf (ec_wr (ec_wr (ec_wr (ec_wr (w) 24 c x1) 25 c x2) 26 c x3) 27 c x4) 15 10 (c + 1)
theorem ew_addboat {n : Nat} {w : px_W} {r : Option Value × px_W} {x1 x2 x3 x4 : Int} (h : ec_E hb_X n 17 0 [(0, .inr (.inl 79)), (1, .inl x1), (2, .inl x2), (3, .inl x3), (4, .inl x4)] [] w r) : ∃ v : Int, r = (ec_R v, ef_addboatA w (ec_fd w 15 10) x1 x2 x3 x4) ∧ ec_W hb_A (ef_addboatA w (ec_fd w 15 10) x1 x2 x3 x4) ∧ 0 ≤ ec_fd w 15 10 ∧ ec_fd w 15 10 < 8 := by
  have k := eg17_15_0_0 h
  simp only [ec_fd_wr_o (show (24 : Nat) ≠ 15 by decide), ec_fd_wr_o (show (25 : Nat) ≠ 15 by decide), ec_fd_wr_o (show (26 : Nat) ≠ 15 by decide), ec_fd_wr_o (show (27 : Nat) ≠ 15 by decide), ec_tw_fd] at k
  obtain ⟨⟨_, hc⟩, hr, hW⟩ := k
  exact ⟨_, hr, hW, hc⟩
theorem ew_boatA {n : Nat} {w : px_W} {r : Option Value × px_W} {x1 x2 x3 x4 : Int} (h : ec_E hb_X n 133 0 [(0, .inr (.inl 64)), (1, .inl x1), (2, .inl x2), (3, .inl x3), (4, .inl x4)] [] w r) : ∃ (v : Int) (w' : px_W), r = (ec_R v, w') ∧ ec_W hb_A w' ∧ ((¬ (ef_okboat x1 x2 x3 x4 ∧ ec_fd w 15 10 < 8) ∧ w' = w) ∨ ((ef_okboat x1 x2 x3 x4 ∧ ec_fd w 15 10 < 8) ∧ w' = ef_addboatA w (ec_fd w 15 10) x1 x2 x3 x4)) := by
  have t0 : ec_tw 0 = 0 := rfl
  have t1 : ec_tw 1 = 1 := rfl
  have t8 : ec_tw 8 = 8 := rfl
  have t65 : ec_tw 65 = 65 := rfl
  have u0 := ec_tw_fd w 15 10
  obtain ⟨_, v1, w1, a1, b1⟩ := eg133_0_0_0 h
  obtain ⟨e1, W1⟩ := ew_within a1
  injection e1 with e1 f1
  replace f1 := f1.symm
  subst f1
  have h1 := b1 _ e1 W1
  by_cases g1 : ec_tw 1 ≤ ec_tw x1 ∧ ec_tw x1 ≤ ec_tw 65
  · rw [if_pos g1] at h1
    obtain ⟨_, v2, w2, a2, b2⟩ := eg133_0_7_1 h1 (by decide)
    obtain ⟨e2, W2⟩ := ew_isPlaceA a2
    injection e2 with e2 f2
    replace f2 := f2.symm
    subst f2
    have h2 := b2 _ e2 W2
    by_cases g2 : 0 ≤ ec_tw x2 ∧ ec_tw x2 ≤ 7
    · rw [if_pos g2] at h2
      obtain ⟨_, v3, w3, a3, b3⟩ := eg133_0_14_1 h2 (by decide)
      obtain ⟨e3, W3⟩ := ew_isMinuteA a3
      injection e3 with e3 f3
      replace f3 := f3.symm
      subst f3
      have h3 := b3 _ e3 W3
      by_cases g3 : 0 ≤ ec_tw x3 ∧ ec_tw x3 ≤ 999
      · rw [if_pos g3] at h3
        obtain ⟨_, v4, w4, a4, b4⟩ := eg133_0_21_1 h3 (by decide)
        obtain ⟨e4, W4⟩ := ew_within a4
        injection e4 with e4 f4
        replace f4 := f4.symm
        subst f4
        have h4 := b4 _ e4 W4
        by_cases g4 : ec_tw 0 ≤ ec_tw x4 ∧ ec_tw x4 ≤ ec_tw 1
        · rw [if_pos g4] at h4
          by_cases c5 : ec_tw (ec_fd w 15 10) < ec_tw 8
          · obtain ⟨_, v, w1, a1, a2⟩ := eg133_0_31_0 h4 (by decide) c5
            obtain ⟨v1, e1, W1, r1, r2⟩ := ew_addboat a1
            injection e1 with e1 f1
            subst f1
            obtain ⟨_, hr, hW⟩ := eg133_0_65_0 (a2 _ e1 W1)
            exact ⟨_, _, hr, hW, .inr ⟨⟨by unfold ef_okboat; omega, by omega⟩, rfl⟩⟩
          · obtain ⟨_, hr, hW⟩ := eg133_0_31_1 h4 (by decide) (by omega)
            exact ⟨_, _, hr, hW, .inl ⟨fun q => by unfold ef_okboat at q; omega, rfl⟩⟩
        · rw [if_neg g4] at h4
          obtain ⟨_, hr, hW⟩ := eg133_0_31_2 h4 rfl
          exact ⟨_, _, hr, hW, .inl ⟨fun q => by unfold ef_okboat at q; omega, rfl⟩⟩
      · rw [if_neg g3] at h3
        obtain ⟨_, hr, hW⟩ := eg133_0_21_0 h3 rfl
        exact ⟨_, _, hr, hW, .inl ⟨fun q => by unfold ef_okboat at q; omega, rfl⟩⟩
    · rw [if_neg g2] at h2
      obtain ⟨_, hr, hW⟩ := eg133_0_14_0 h2 rfl
      exact ⟨_, _, hr, hW, .inl ⟨fun q => by unfold ef_okboat at q; omega, rfl⟩⟩
  · rw [if_neg g1] at h1
    obtain ⟨_, hr, hW⟩ := eg133_0_7_0 h1 rfl
    exact ⟨_, _, hr, hW, .inl ⟨fun q => by unfold ef_okboat at q; omega, rfl⟩⟩

theorem ew_boatB {n : Nat} {w : px_W} {r : Option Value × px_W} {x1 x2 x3 x4 : Int} {c : Nat} (hc : ef_a w 152 5 = (c : Int)) (hm : c ≤ 8) (h : ec_E hb_X n 212 0 [(0, .inr (.inl 215)), (1, .inl x1), (2, .inl x2), (3, .inl x3), (4, .inl x4)] [] w r) : ∃ (v : Int) (w' : px_W), r = (ec_R v, w') ∧ ec_W hb_A w' ∧ ((¬ (ef_okboat x1 x2 x3 x4 ∧ c < 8) ∧ w' = w) ∨ ((ef_okboat x1 x2 x3 x4 ∧ c < 8) ∧ ef_s [152] w w' ∧ ∀ p : Nat, ef_a w' 152 p = if p = 5 then (c : Int) + 1 else if p = 216 + 4 * c then ec_tw x1 else if p = 216 + 4 * c + 1 then ec_tw x2 else if p = 216 + 4 * c + 2 then ec_tw x3 else if p = 216 + 4 * c + 3 then ec_tw x4 else ef_a w 152 p)) := by
  have t0 : ec_tw 0 = 0 := rfl
  have t1 : ec_tw 1 = 1 := rfl
  have t5 : ec_tw 5 = 5 := rfl
  have t8 : ec_tw 8 = 8 := rfl
  have t65 : ec_tw 65 = 65 := rfl
  have e3 : ec_tw 5 = ((5 : Nat) : Int) := rfl
  have u1 : ec_tw (ec_rd w 152 (ec_tw 5)) = (c : Int) := by rw [e3, ef_rd, ef_tw]; exact hc
  have u2 : ec_rd w 152 (ec_tw 5) = (c : Int) := by rw [e3, ef_rd]; exact hc
  obtain ⟨_, v1, w1, a1, b1⟩ := eg212_151_0_0 h
  obtain ⟨e1, W1⟩ := ew_in a1
  injection e1 with e1 f1
  replace f1 := f1.symm
  subst f1
  have h1 := b1 _ e1 W1
  by_cases g1 : ec_tw 1 ≤ ec_tw x1 ∧ ec_tw x1 ≤ ec_tw 65
  · rw [if_pos g1] at h1
    obtain ⟨_, v2, w2, a2, b2⟩ := eg212_151_7_1 h1 (by decide)
    obtain ⟨e2, W2⟩ := ew_isPlaceB a2
    injection e2 with e2 f2
    replace f2 := f2.symm
    subst f2
    have h2 := b2 _ e2 W2
    by_cases g2 : 0 ≤ ec_tw x2 ∧ ec_tw x2 ≤ 7
    · rw [if_pos g2] at h2
      obtain ⟨_, v3, w3, a3, b3⟩ := eg212_151_14_1 h2 (by decide)
      obtain ⟨e3, W3⟩ := ew_isMinuteB a3
      injection e3 with e3 f3
      replace f3 := f3.symm
      subst f3
      have h3 := b3 _ e3 W3
      by_cases g3 : 0 ≤ ec_tw x3 ∧ ec_tw x3 ≤ 999
      · rw [if_pos g3] at h3
        obtain ⟨_, v4, w4, a4, b4⟩ := eg212_151_21_1 h3 (by decide)
        obtain ⟨e4, W4⟩ := ew_in a4
        injection e4 with e4 f4
        replace f4 := f4.symm
        subst f4
        have h4 := b4 _ e4 W4
        by_cases g4 : ec_tw 0 ≤ ec_tw x4 ∧ ec_tw x4 ≤ ec_tw 1
        · rw [if_pos g4] at h4
          by_cases c5 : ec_tw (ec_rd w 152 (ec_tw 5)) ≠ ec_tw 8
          · have h67 := (eg212_151_31_0 h4 (by decide) c5).2
            have e5 : (216 : Int) + 4 * ec_rd w 152 (ec_tw 5) = ((216 + 4 * c : Nat) : Int) := by rw [u2]; omega
            rw [e5] at h67
            obtain ⟨_, hr, hW⟩ := eg212_151_64_0 h67
            obtain ⟨q1, q2⟩ := ef_a4_ok (w := w) (a := 216 + 4 * c) (cn := 5) (x1 := x1) (x2 := x2) (x3 := x3) (x4 := x4) h.1 (by omega) (by omega) (by decide) hc (by omega) (by omega)
            exact ⟨_, _, hr, hW, .inr ⟨⟨by unfold ef_okboat; omega, by omega⟩, q1, q2⟩⟩
          · obtain ⟨_, hr, hW⟩ := eg212_151_31_1 h4 (by decide) (by omega)
            exact ⟨_, _, hr, hW, .inl ⟨fun q => by unfold ef_okboat at q; omega, rfl⟩⟩
        · rw [if_neg g4] at h4
          obtain ⟨_, hr, hW⟩ := eg212_151_31_2 h4 rfl
          exact ⟨_, _, hr, hW, .inl ⟨fun q => by unfold ef_okboat at q; omega, rfl⟩⟩
      · rw [if_neg g3] at h3
        obtain ⟨_, hr, hW⟩ := eg212_151_21_0 h3 rfl
        exact ⟨_, _, hr, hW, .inl ⟨fun q => by unfold ef_okboat at q; omega, rfl⟩⟩
    · rw [if_neg g2] at h2
      obtain ⟨_, hr, hW⟩ := eg212_151_14_0 h2 rfl
      exact ⟨_, _, hr, hW, .inl ⟨fun q => by unfold ef_okboat at q; omega, rfl⟩⟩
  · rw [if_neg g1] at h1
    obtain ⟨_, hr, hW⟩ := eg212_151_7_0 h1 rfl
    exact ⟨_, _, hr, hW, .inl ⟨fun q => by unfold ef_okboat at q; omega, rfl⟩⟩


end

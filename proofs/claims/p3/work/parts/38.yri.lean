noncomputable section
/-! SET -/
def eh_okv (x2 x3 : Int) : Prop := (ec_tw x2 = 0 ∧ 10 ≤ ec_tw x3 ∧ ec_tw x3 ≤ 999) ∨ ((1 ≤ ec_tw x2 ∧ ec_tw x2 ≤ 2) ∧ 0 ≤ ec_tw x3 ∧ ec_tw x3 ≤ 9)
def eh_oks (x1 x2 x3 : Int) : Prop := (0 ≤ ec_tw x1 ∧ ec_tw x1 ≤ 7) ∧ eh_okv x2 x3
/-- which row -/
def eh_j (x2 : Int) (j : Nat) : Prop := (j = 1 ∧ ec_tw x2 = 0) ∨ (j = 3 ∧ ec_tw x2 = 1) ∨ (j = 4 ∧ ec_tw x2 = 2)
theorem ew_mbA {n : Nat} {w : px_W} {r : Option Value × px_W} {x2 x3 : Int} (h : ec_E hb_X n 33 0 [(0, .inl x2), (1, .inl x3)] [] w r) : ∃ v : Int, r = (ec_R v, w) ∧ ec_W hb_A w ∧ ((eh_okv x2 x3 ∧ v = 1) ∨ (¬ eh_okv x2 x3 ∧ v = 0)) := by
  have t0 : ec_tw 0 = 0 := rfl
  have t1 : ec_tw 1 = 1 := rfl
  have t2 : ec_tw 2 = 2 := rfl
  have t9 : ec_tw 9 = 9 := rfl
  have t10 : ec_tw 10 = 10 := rfl
  have t999 : ec_tw 999 = 999 := rfl
  unfold eh_okv
  by_cases k : ec_tw x2 = 0
  · obtain ⟨_, v, w1, q1, q2⟩ := eg33_0_1 h (by rw [k, t0])
    obtain ⟨e1, W1⟩ := ew_within q1
    injection e1 with e1 i1
    have i2 := i1.symm
    subst i2
    obtain ⟨_, hr, hW⟩ := eg33_13_0 (q2 _ e1 W1)
    rw [t10, t999] at hr
    refine ⟨_, hr, hW, ?_⟩
    by_cases g : 10 ≤ ec_tw x3 ∧ ec_tw x3 ≤ 999
    · rw [if_pos g]
      exact .inl ⟨.inl ⟨k, g⟩, rfl⟩
    · rw [if_neg g]
      exact .inr ⟨by omega, rfl⟩
  · obtain ⟨_, v, w1, q1, q2⟩ := eg33_0_0 h (by rw [t0]; exact k)
    obtain ⟨e1, W1⟩ := ew_within q1
    injection e1 with e1 i1
    have i2 := i1.symm
    subst i2
    have q3 := q2 _ e1 W1
    rw [t1, t2] at q3
    by_cases g : 1 ≤ ec_tw x2 ∧ ec_tw x2 ≤ 2
    · rw [if_pos g] at q3
      obtain ⟨_, v, w1, q4, q5⟩ := eg33_20_1 q3 (by decide)
      obtain ⟨e2, W2⟩ := ew_within q4
      injection e2 with e2 j1
      have j2 := j1.symm
      subst j2
      have q6 := q5 _ e2 W2
      rw [t0, t9] at q6
      by_cases g2 : 0 ≤ ec_tw x3 ∧ ec_tw x3 ≤ 9
      · rw [if_pos g2] at q6
        obtain ⟨_, hr, hW⟩ := eg33_30_1 q6 (by decide)
        exact ⟨_, hr, hW, .inl ⟨.inr ⟨g, g2⟩, rfl⟩⟩
      · rw [if_neg g2] at q6
        obtain ⟨_, hr, hW⟩ := eg33_30_0 q6 rfl
        exact ⟨_, hr, hW, .inr ⟨by omega, rfl⟩⟩
    · rw [if_neg g] at q3
      obtain ⟨_, hr, hW⟩ := eg33_20_0 q3 rfl
      exact ⟨_, hr, hW, .inr ⟨by omega, rfl⟩⟩
theorem eh_ch2 {w : px_W} {c : Nat} {x : Int} (hW : ec_W hb_A w) (hc : c < 8) : ef_s [2, 3] w (ec_wr (ec_wr w 2 (c : Int) x) 3 (c : Int) (ec_mn (ec_rd (ec_wr w 2 (c : Int) x) 3 (c : Int)) (ec_rd (ec_wr w 2 (c : Int) x) 2 (c : Int)))) ∧ ∀ i p, 1 ≤ i → i ≤ 6 → ef_a (ec_wr (ec_wr w 2 (c : Int) x) 3 (c : Int) (ec_mn (ec_rd (ec_wr w 2 (c : Int) x) 3 (c : Int)) (ec_rd (ec_wr w 2 (c : Int) x) 2 (c : Int)))) (1 + i) p = if i = 2 ∧ p = c then min (ef_a w 3 c) (ec_tw x) else if i = 1 ∧ p = c then ec_tw x else ef_a w (1 + i) p := by
  have W1 : ec_W hb_A (ec_wr w 2 (c : Int) x) := ec_W_wr hW
  refine ⟨ef_s_trans (ef_s_wr (by decide)) (ef_s_wr (by decide)), fun i p h1 h2 => ?_⟩
  have a3 : ec_rd (ec_wr w 2 (c : Int) x) 3 (c : Int) = ef_a w 3 c := ec_rd_wr_o (by decide)
  have a2 : ec_rd (ec_wr w 2 (c : Int) x) 2 (c : Int) = ec_tw x := by
    rw [ec_rd_wr (n := 8) hW rfl (by omega) (by omega) (by omega), if_pos rfl]
  have b3 := ef_in w 3 c
  have b2 : -2147483648 ≤ ec_tw x ∧ ec_tw x ≤ 2147483647 := ec_tw_in x
  rw [a3, a2, ec_mn_min b3 b2]
  have hi : i = 1 ∨ i = 2 ∨ i = 3 ∨ i = 4 ∨ i = 5 ∨ i = 6 := by omega
  rcases hi with rfl | rfl | rfl | rfl | rfl | rfl
  · show ef_a (ec_wr (ec_wr w 2 (c : Int) x) 3 (c : Int) (min (ef_a w 3 c) (ec_tw x))) 2 p = _
    rw [ef_a_wr_o (by decide), ef_a_wr (n := 8) hW rfl (by omega) (by omega), Int.toNat_natCast, if_neg (fun e => absurd e.1 (by decide))]
    unfold ef_u
    by_cases hp : p = c
    · rw [if_pos hp, if_pos ⟨rfl, hp⟩]
    · rw [if_neg hp, if_neg (fun e => hp e.2)]
  · show ef_a (ec_wr (ec_wr w 2 (c : Int) x) 3 (c : Int) (min (ef_a w 3 c) (ec_tw x))) 3 p = _
    rw [ef_a_wr (n := 8) W1 rfl (by omega) (by omega), ef_a_wr_o (by decide), Int.toNat_natCast, ec_tw_id (a := min (ef_a w 3 c) (ec_tw x)) (by omega) (by omega)]
    unfold ef_u
    by_cases hp : p = c
    · rw [if_pos hp, if_pos ⟨rfl, hp⟩]
    · rw [if_neg hp, if_neg (fun e => hp e.2), if_neg (fun e => hp e.2)]
  · show ef_a (ec_wr (ec_wr w 2 (c : Int) x) 3 (c : Int) (min (ef_a w 3 c) (ec_tw x))) 4 p = _
    rw [ef_a_wr_o (by decide), ef_a_wr_o (by decide), if_neg (fun e => absurd e.1 (by decide)), if_neg (fun e => absurd e.1 (by decide))]
  · show ef_a (ec_wr (ec_wr w 2 (c : Int) x) 3 (c : Int) (min (ef_a w 3 c) (ec_tw x))) 5 p = _
    rw [ef_a_wr_o (by decide), ef_a_wr_o (by decide), if_neg (fun e => absurd e.1 (by decide)), if_neg (fun e => absurd e.1 (by decide))]
  · show ef_a (ec_wr (ec_wr w 2 (c : Int) x) 3 (c : Int) (min (ef_a w 3 c) (ec_tw x))) 6 p = _
    rw [ef_a_wr_o (by decide), ef_a_wr_o (by decide), if_neg (fun e => absurd e.1 (by decide)), if_neg (fun e => absurd e.1 (by decide))]
  · show ef_a (ec_wr (ec_wr w 2 (c : Int) x) 3 (c : Int) (min (ef_a w 3 c) (ec_tw x))) 7 p = _
    rw [ef_a_wr_o (by decide), ef_a_wr_o (by decide), if_neg (fun e => absurd e.1 (by decide)), if_neg (fun e => absurd e.1 (by decide))]
theorem eh_ch4 {w : px_W} {c : Nat} {x : Int} (hW : ec_W hb_A w) (hc : c < 8) : ef_s [4, 3] w (ec_wr (ec_wr w 4 (c : Int) x) 3 (c : Int) (ec_mn (ec_rd (ec_wr w 4 (c : Int) x) 3 (c : Int)) (ec_rd (ec_wr w 4 (c : Int) x) 2 (c : Int)))) ∧ ∀ i p, 1 ≤ i → i ≤ 6 → ef_a (ec_wr (ec_wr w 4 (c : Int) x) 3 (c : Int) (ec_mn (ec_rd (ec_wr w 4 (c : Int) x) 3 (c : Int)) (ec_rd (ec_wr w 4 (c : Int) x) 2 (c : Int)))) (1 + i) p = if i = 2 ∧ p = c then min (ef_a w 3 c) (ef_a w 2 c) else if i = 3 ∧ p = c then ec_tw x else ef_a w (1 + i) p := by
  have W1 : ec_W hb_A (ec_wr w 4 (c : Int) x) := ec_W_wr hW
  refine ⟨ef_s_trans (ef_s_wr (by decide)) (ef_s_wr (by decide)), fun i p h1 h2 => ?_⟩
  have a3 : ec_rd (ec_wr w 4 (c : Int) x) 3 (c : Int) = ef_a w 3 c := ec_rd_wr_o (by decide)
  have a2 : ec_rd (ec_wr w 4 (c : Int) x) 2 (c : Int) = ef_a w 2 c := ec_rd_wr_o (by decide)
  have b3 := ef_in w 3 c
  have b2 : -2147483648 ≤ ef_a w 2 c ∧ ef_a w 2 c ≤ 2147483647 := ef_in w 2 c
  rw [a3, a2, ec_mn_min b3 b2]
  have hi : i = 1 ∨ i = 2 ∨ i = 3 ∨ i = 4 ∨ i = 5 ∨ i = 6 := by omega
  rcases hi with rfl | rfl | rfl | rfl | rfl | rfl
  · show ef_a (ec_wr (ec_wr w 4 (c : Int) x) 3 (c : Int) (min (ef_a w 3 c) (ef_a w 2 c))) 2 p = _
    rw [ef_a_wr_o (by decide), ef_a_wr_o (by decide), if_neg (fun e => absurd e.1 (by decide)), if_neg (fun e => absurd e.1 (by decide))]
  · show ef_a (ec_wr (ec_wr w 4 (c : Int) x) 3 (c : Int) (min (ef_a w 3 c) (ef_a w 2 c))) 3 p = _
    rw [ef_a_wr (n := 8) W1 rfl (by omega) (by omega), ef_a_wr_o (by decide), Int.toNat_natCast, ec_tw_id (a := min (ef_a w 3 c) (ef_a w 2 c)) (by omega) (by omega)]
    unfold ef_u
    by_cases hp : p = c
    · rw [if_pos hp, if_pos ⟨rfl, hp⟩]
    · rw [if_neg hp, if_neg (fun e => hp e.2), if_neg (fun e => hp e.2)]
  · show ef_a (ec_wr (ec_wr w 4 (c : Int) x) 3 (c : Int) (min (ef_a w 3 c) (ef_a w 2 c))) 4 p = _
    rw [ef_a_wr_o (by decide), ef_a_wr (n := 8) hW rfl (by omega) (by omega), Int.toNat_natCast, if_neg (fun e => absurd e.1 (by decide))]
    unfold ef_u
    by_cases hp : p = c
    · rw [if_pos hp, if_pos ⟨rfl, hp⟩]
    · rw [if_neg hp, if_neg (fun e => hp e.2)]
  · show ef_a (ec_wr (ec_wr w 4 (c : Int) x) 3 (c : Int) (min (ef_a w 3 c) (ef_a w 2 c))) 5 p = _
    rw [ef_a_wr_o (by decide), ef_a_wr_o (by decide), if_neg (fun e => absurd e.1 (by decide)), if_neg (fun e => absurd e.1 (by decide))]
  · show ef_a (ec_wr (ec_wr w 4 (c : Int) x) 3 (c : Int) (min (ef_a w 3 c) (ef_a w 2 c))) 6 p = _
    rw [ef_a_wr_o (by decide), ef_a_wr_o (by decide), if_neg (fun e => absurd e.1 (by decide)), if_neg (fun e => absurd e.1 (by decide))]
  · show ef_a (ec_wr (ec_wr w 4 (c : Int) x) 3 (c : Int) (min (ef_a w 3 c) (ef_a w 2 c))) 7 p = _
    rw [ef_a_wr_o (by decide), ef_a_wr_o (by decide), if_neg (fun e => absurd e.1 (by decide)), if_neg (fun e => absurd e.1 (by decide))]
theorem eh_ch5 {w : px_W} {c : Nat} {x : Int} (hW : ec_W hb_A w) (hc : c < 8) : ef_s [5, 3] w (ec_wr (ec_wr w 5 (c : Int) x) 3 (c : Int) (ec_mn (ec_rd (ec_wr w 5 (c : Int) x) 3 (c : Int)) (ec_rd (ec_wr w 5 (c : Int) x) 2 (c : Int)))) ∧ ∀ i p, 1 ≤ i → i ≤ 6 → ef_a (ec_wr (ec_wr w 5 (c : Int) x) 3 (c : Int) (ec_mn (ec_rd (ec_wr w 5 (c : Int) x) 3 (c : Int)) (ec_rd (ec_wr w 5 (c : Int) x) 2 (c : Int)))) (1 + i) p = if i = 2 ∧ p = c then min (ef_a w 3 c) (ef_a w 2 c) else if i = 4 ∧ p = c then ec_tw x else ef_a w (1 + i) p := by
  have W1 : ec_W hb_A (ec_wr w 5 (c : Int) x) := ec_W_wr hW
  refine ⟨ef_s_trans (ef_s_wr (by decide)) (ef_s_wr (by decide)), fun i p h1 h2 => ?_⟩
  have a3 : ec_rd (ec_wr w 5 (c : Int) x) 3 (c : Int) = ef_a w 3 c := ec_rd_wr_o (by decide)
  have a2 : ec_rd (ec_wr w 5 (c : Int) x) 2 (c : Int) = ef_a w 2 c := ec_rd_wr_o (by decide)
  have b3 := ef_in w 3 c
  have b2 : -2147483648 ≤ ef_a w 2 c ∧ ef_a w 2 c ≤ 2147483647 := ef_in w 2 c
  rw [a3, a2, ec_mn_min b3 b2]
  have hi : i = 1 ∨ i = 2 ∨ i = 3 ∨ i = 4 ∨ i = 5 ∨ i = 6 := by omega
  rcases hi with rfl | rfl | rfl | rfl | rfl | rfl
  · show ef_a (ec_wr (ec_wr w 5 (c : Int) x) 3 (c : Int) (min (ef_a w 3 c) (ef_a w 2 c))) 2 p = _
    rw [ef_a_wr_o (by decide), ef_a_wr_o (by decide), if_neg (fun e => absurd e.1 (by decide)), if_neg (fun e => absurd e.1 (by decide))]
  · show ef_a (ec_wr (ec_wr w 5 (c : Int) x) 3 (c : Int) (min (ef_a w 3 c) (ef_a w 2 c))) 3 p = _
    rw [ef_a_wr (n := 8) W1 rfl (by omega) (by omega), ef_a_wr_o (by decide), Int.toNat_natCast, ec_tw_id (a := min (ef_a w 3 c) (ef_a w 2 c)) (by omega) (by omega)]
    unfold ef_u
    by_cases hp : p = c
    · rw [if_pos hp, if_pos ⟨rfl, hp⟩]
    · rw [if_neg hp, if_neg (fun e => hp e.2), if_neg (fun e => hp e.2)]
  · show ef_a (ec_wr (ec_wr w 5 (c : Int) x) 3 (c : Int) (min (ef_a w 3 c) (ef_a w 2 c))) 4 p = _
    rw [ef_a_wr_o (by decide), ef_a_wr_o (by decide), if_neg (fun e => absurd e.1 (by decide)), if_neg (fun e => absurd e.1 (by decide))]
  · show ef_a (ec_wr (ec_wr w 5 (c : Int) x) 3 (c : Int) (min (ef_a w 3 c) (ef_a w 2 c))) 5 p = _
    rw [ef_a_wr_o (by decide), ef_a_wr (n := 8) hW rfl (by omega) (by omega), Int.toNat_natCast, if_neg (fun e => absurd e.1 (by decide))]
    unfold ef_u
    by_cases hp : p = c
    · rw [if_pos hp, if_pos ⟨rfl, hp⟩]
    · rw [if_neg hp, if_neg (fun e => hp e.2)]
  · show ef_a (ec_wr (ec_wr w 5 (c : Int) x) 3 (c : Int) (min (ef_a w 3 c) (ef_a w 2 c))) 6 p = _
    rw [ef_a_wr_o (by decide), ef_a_wr_o (by decide), if_neg (fun e => absurd e.1 (by decide)), if_neg (fun e => absurd e.1 (by decide))]
  · show ef_a (ec_wr (ec_wr w 5 (c : Int) x) 3 (c : Int) (min (ef_a w 3 c) (ef_a w 2 c))) 7 p = _
    rw [ef_a_wr_o (by decide), ef_a_wr_o (by decide), if_neg (fun e => absurd e.1 (by decide)), if_neg (fun e => absurd e.1 (by decide))]
/-- what set leaves behind in the class -/
def eh_sa (w w' : px_W) (c j : Nat) (v : Int) : Prop := ef_s [1, 2, 3, 4, 5, 10] w w' ∧ (∀ f, f ≠ 8 → f ≠ 9 → ec_fd w' 1 f = ec_fd w 1 f) ∧ eh_wd w' 1 ∧ ∀ i p, 1 ≤ i → i ≤ 6 → ef_a w' (1 + i) p = if i = 2 ∧ p = c then min (ef_a w 3 c) (if j = 1 then v else ef_a w 2 c) else if i = j ∧ p = c then v else ef_a w (1 + i) p
theorem ew_chA {n : Nat} {w : px_W} {r : Option Value × px_W} {x1 x2 x3 : Int} {c : Nat} (hc : c < 8) (hx : ec_tw x1 = (c : Int)) (h2 : 0 ≤ ec_tw x2 ∧ ec_tw x2 ≤ 2) (h : ec_E hb_X n 34 0 [(0, .inr (.inl 65)), (1, .inl x1), (2, .inl x2), (3, .inl x3)] [] w r) : ∃ (v : Int) (w' : px_W) (j : Nat), r = (ec_R v, w') ∧ ec_W hb_A w' ∧ eh_j x2 j ∧ eh_sa w w' c j (ec_tw x3) := by
  have t0 : ec_tw 0 = 0 := rfl
  have t1 : ec_tw 1 = 1 := rfl
  rcases (show ec_tw x2 = 0 ∨ ec_tw x2 = 1 ∨ ec_tw x2 = 2 by omega) with k | k | k
  · obtain ⟨_, v, w1, q1, q2⟩ := eg34_1_0_2 h (by rw [k, t0])
    rw [hx] at q1
    obtain ⟨s1, f1⟩ := eh_ch2 (w := w) (c := c) (x := x3) h.1 hc
    obtain ⟨y1, e1, W1, s2, g2⟩ := ew_weigh_1 q1
    obtain ⟨y2, e2, a2, b2⟩ := ew_wx_1 q1
    injection e1 with e1 i1
    subst i1
    injection e2 with e2 i2
    subst i2
    obtain ⟨_, hr, hW⟩ := eg34_1_65c_0 (q2 e1 W1)
    refine ⟨_, _, 1, hr, hW, .inl ⟨rfl, k⟩, ef_s_trans (ef_s_mono s1 (by decide)) (ef_s_mono s2 (by decide)), fun f k8 k9 => (g2 f k8 k9).trans (ef_s_f s1 (by decide) f), ⟨a2.trans (eh_al_cg (fun c _ => (congrFun (ef_s_a s2 (by decide)) c).symm)), b2.trans (eh_tl_cg (fun c _ => (congrFun (ef_s_a s2 (by decide)) c).symm))⟩, fun i p h1 h2 => ?_⟩
    rw [congrFun (ef_s_a s2 (by simp only [List.mem_singleton]; omega)) p, f1 i p h1 h2]
    rfl
  · obtain ⟨_, v, w1, q1, q2⟩ := eg34_1_0_1 h (by rw [k, t0]; decide) (by rw [k, t1])
    rw [hx] at q1
    obtain ⟨s1, f1⟩ := eh_ch4 (w := w) (c := c) (x := x3) h.1 hc
    obtain ⟨y1, e1, W1, s2, g2⟩ := ew_weigh_1 q1
    obtain ⟨y2, e2, a2, b2⟩ := ew_wx_1 q1
    injection e1 with e1 i1
    subst i1
    injection e2 with e2 i2
    subst i2
    obtain ⟨_, hr, hW⟩ := eg34_1_65b_0 (q2 e1 W1)
    refine ⟨_, _, 3, hr, hW, .inr (.inl ⟨rfl, k⟩), ef_s_trans (ef_s_mono s1 (by decide)) (ef_s_mono s2 (by decide)), fun f k8 k9 => (g2 f k8 k9).trans (ef_s_f s1 (by decide) f), ⟨a2.trans (eh_al_cg (fun c _ => (congrFun (ef_s_a s2 (by decide)) c).symm)), b2.trans (eh_tl_cg (fun c _ => (congrFun (ef_s_a s2 (by decide)) c).symm))⟩, fun i p h1 h2 => ?_⟩
    rw [congrFun (ef_s_a s2 (by simp only [List.mem_singleton]; omega)) p, f1 i p h1 h2]
    rfl
  · obtain ⟨_, v, w1, q1, q2⟩ := eg34_1_0_0 h (by rw [k, t0]; decide) (by rw [k, t1]; decide)
    rw [hx] at q1
    obtain ⟨s1, f1⟩ := eh_ch5 (w := w) (c := c) (x := x3) h.1 hc
    obtain ⟨y1, e1, W1, s2, g2⟩ := ew_weigh_1 q1
    obtain ⟨y2, e2, a2, b2⟩ := ew_wx_1 q1
    injection e1 with e1 i1
    subst i1
    injection e2 with e2 i2
    subst i2
    obtain ⟨_, hr, hW⟩ := eg34_1_65_0 (q2 e1 W1)
    refine ⟨_, _, 4, hr, hW, .inr (.inr ⟨rfl, k⟩), ef_s_trans (ef_s_mono s1 (by decide)) (ef_s_mono s2 (by decide)), fun f k8 k9 => (g2 f k8 k9).trans (ef_s_f s1 (by decide) f), ⟨a2.trans (eh_al_cg (fun c _ => (congrFun (ef_s_a s2 (by decide)) c).symm)), b2.trans (eh_tl_cg (fun c _ => (congrFun (ef_s_a s2 (by decide)) c).symm))⟩, fun i p h1 h2 => ?_⟩
    rw [congrFun (ef_s_a s2 (by simp only [List.mem_singleton]; omega)) p, f1 i p h1 h2]
    rfl
theorem ew_setA {n : Nat} {w : px_W} {r : Option Value × px_W} {x1 x2 x3 : Int} (h : ec_E hb_X n 122 0 [(0, .inr (.inl 64)), (1, .inl x1), (2, .inl x2), (3, .inl x3)] [] w r) : (¬ eh_oks x1 x2 x3 ∧ r.2 = w) ∨ (eh_oks x1 x2 x3 ∧ ∃ j, eh_j x2 j ∧ eh_sa w r.2 (ec_tw x1).toNat j (ec_tw x3)) := by
  have t0 : ec_tw 0 = 0 := rfl
  have t7 : ec_tw 7 = 7 := rfl
  obtain ⟨_, v, w1, q1, q2⟩ := eg122_0_0_0 h
  obtain ⟨e1, W1⟩ := ew_within q1
  injection e1 with e1 i1
  have i2 := i1.symm
  subst i2
  have q3 := q2 _ e1 W1
  rw [t0, t7] at q3
  by_cases g1 : 0 ≤ ec_tw x1 ∧ ec_tw x1 ≤ 7
  · rw [if_pos g1] at q3
    obtain ⟨_, v, w1, q4, q5⟩ := eg122_0_7_1 q3 (by decide)
    obtain ⟨z, e2, W2, hz⟩ := ew_mbA q4
    injection e2 with e2 j1
    have j2 := j1.symm
    subst j2
    have q6 := q5 z e2 W2
    rcases hz with ⟨g2, hz⟩ | ⟨g2, hz⟩
    · obtain ⟨_, v, w1, q7, q8⟩ := eg122_0_15_0 q6 (by rw [hz]; decide)
      obtain ⟨_, e3, W3⟩ := eg110_10_0_0 q7
      injection e3 with e3 k1
      have k2 := k1.symm
      subst k2
      obtain ⟨_, v, w1, q9, q10⟩ := eg122_0_27_0 (q8 e3 W3)
      have b2 : 0 ≤ ec_tw x2 ∧ ec_tw x2 ≤ 2 := by
        unfold eh_okv at g2
        omega
      obtain ⟨z2, w2, j, e4, W4, hj, hs⟩ := ew_chA (c := (ec_tw x1).toNat) (by omega) (by omega) b2 q9
      injection e4 with e4 k3
      subst k3
      obtain ⟨_, hr, _⟩ := eg122_0_37_0 (q10 z2 e4 W4)
      rw [hr]
      have s0 : ef_s [10] w (ec_pf w 10 3 0) := ef_s_pf List.mem_cons_self
      obtain ⟨s1, s2, s3, s4⟩ := hs
      refine .inr ⟨⟨g1, g2⟩, j, hj, ef_s_trans (ef_s_mono s0 (by decide)) s1, fun f k8 k9 => (s2 f k8 k9).trans (ef_s_f s0 (by decide) f), s3, fun i p h1 h2 => ?_⟩
      rw [s4 i p h1 h2, ef_s_a s0 (by decide), ef_s_a s0 (by decide), ef_s_a s0 (by simp only [List.mem_singleton]; omega)]
    · obtain ⟨_, hr, _⟩ := eg122_0_15_1 q6 (by rw [hz])
      rw [hr]
      exact .inl ⟨fun e => g2 e.2, rfl⟩
  · rw [if_neg g1] at q3
    obtain ⟨_, hr, _⟩ := eg122_0_7_0 q3 rfl
    rw [hr]
    exact .inl ⟨fun e => g1 e.1, rfl⟩
/-- and in the reference -/
def eh_sb (w w' : px_W) (c j : Nat) (v : Int) : Prop := ef_s [152] w w' ∧ ∀ p, ef_a w' 152 p = if p = 8 + 8 * 2 + c then max 0 (min (if j = 1 then v else ef_a w 152 (16 + c)) (ef_a w 152 (24 + c))) else if p = 8 + 8 * j + c then v else ef_a w 152 p
theorem ew_s68 {n : Nat} {w : px_W} {r : Option Value × px_W} {x1 x2 x3 s0 : Int} {c j : Nat} (hc : c < 8) (hx : ec_tw x1 = (c : Int)) (hj : j = 1 ∨ j = 3 ∨ j = 4) (hs : s0 = ((8 + 8 * j : Nat) : Int)) (hp : 0 ≤ (if j = 1 then ec_tw x3 else ef_a w 152 (16 + c))) (h : ec_E hb_X n 192 68 [(0, .inr (.inl 215)), (1, .inl x1), (2, .inl x2), (3, .inl x3)] [.inl s0] w r) : eh_sb w r.2 c j (ec_tw x3) := by
  have t0 : ec_tw 0 = 0 := rfl
  have ad : ∀ b : Nat, b < 100 → ec_tw ((b : Int) + x1) = ((b + c : Nat) : Int) := by
    intro b hb
    rw [← ec_tw_addr, hx]
    exact (ec_tw_id (by omega) (by omega)).trans (by omega)
  have e16 : ec_tw (16 + x1) = ((16 + c : Nat) : Int) := ad 16 (by decide)
  have e24 : ec_tw (24 + x1) = ((24 + c : Nat) : Int) := ad 24 (by decide)
  have ej : ec_tw (s0 + x1) = ((8 + 8 * j + c : Nat) : Int) := by
    rw [hs]
    exact ad _ (by omega)
  obtain ⟨_, v, w1, q1, q2⟩ := eg192_151_68_0 h
  rw [ej] at q2
  rw [e16, e24, ej] at q1
  have W0 := h.1
  have W1 : ec_W hb_A (ec_wr w 152 ((8 + 8 * j + c : Nat) : Int) x3) := ec_W_wr W0
  have a24 : ec_rd (ec_wr w 152 ((8 + 8 * j + c : Nat) : Int) x3) 152 ((24 + c : Nat) : Int) = ef_a w 152 (24 + c) := by
    rw [ec_rd_wr (n := 1580) W0 rfl (by omega) (by omega) (by omega), if_neg (by omega), ef_rd]
  have a16 : ec_rd (ec_wr w 152 ((8 + 8 * j + c : Nat) : Int) x3) 152 ((16 + c : Nat) : Int) = if j = 1 then ec_tw x3 else ef_a w 152 (16 + c) := by
    rw [ec_rd_wr (n := 1580) W0 rfl (by omega) (by omega) (by omega)]
    by_cases h1 : j = 1
    · rw [if_pos (by omega), if_pos h1]
    · rw [if_neg (by omega), if_neg h1, ef_rd]
  rw [a24, a16] at q1
  have tb : ec_tw (if j = 1 then ec_tw x3 else ef_a w 152 (16 + c)) = if j = 1 then ec_tw x3 else ef_a w 152 (16 + c) := by
    by_cases h1 : j = 1
    · rw [if_pos h1, ec_tw_tw]
    · rw [if_neg h1, ef_tw]
  obtain ⟨z, e1, W2, f1⟩ := ew_witB (by rw [t0, tb]; exact hp) q1
  injection e1 with e1 i1
  have i2 := i1.symm
  subst i2
  rw [t0, tb, ef_tw] at f1
  obtain ⟨_, hr, hW⟩ := eg192_151_121_0 (q2 z e1 W2)
  rw [e24] at hr
  rw [hr]
  refine ⟨ef_s_trans (ef_s_wr (by decide)) (ef_s_wr (by decide)), fun p => ?_⟩
  show ef_a (ec_wr (ec_wr w 152 ((8 + 8 * j + c : Nat) : Int) x3) 152 ((24 + c : Nat) : Int) z) 152 p = _
  rw [ef_a_wr (n := 1580) W1 rfl (by omega) (by omega), ef_a_wr (n := 1580) W0 rfl (by omega) (by omega), Int.toNat_natCast, Int.toNat_natCast, f1]
  rfl
theorem ew_setB {n : Nat} {w : px_W} {r : Option Value × px_W} {x1 x2 x3 : Int} (hp : ∀ c, c < 8 → 0 ≤ ef_a w 152 (16 + c)) (h : ec_E hb_X n 192 0 [(0, .inr (.inl 215)), (1, .inl x1), (2, .inl x2), (3, .inl x3)] [] w r) : (¬ eh_oks x1 x2 x3 ∧ r.2 = w) ∨ (eh_oks x1 x2 x3 ∧ ∃ j, eh_j x2 j ∧ eh_sb w r.2 (ec_tw x1).toNat j (ec_tw x3)) := by
  have t0 : ec_tw 0 = 0 := rfl
  have t1 : ec_tw 1 = 1 := rfl
  have t2 : ec_tw 2 = 2 := rfl
  have t9 : ec_tw 9 = 9 := rfl
  have t10 : ec_tw 10 = 10 := rfl
  have t999 : ec_tw 999 = 999 := rfl
  obtain ⟨_, v, w1, q1, q2⟩ := eg192_151_0_0 h
  obtain ⟨e1, W1⟩ := ew_isCell q1
  injection e1 with e1 i1
  have i2 := i1.symm
  subst i2
  have q3 := q2 _ e1 W1
  by_cases g1 : 0 ≤ ec_tw x1 ∧ ec_tw x1 ≤ 7
  · rw [if_pos g1] at q3
    obtain ⟨_, v, w1, q4, q5⟩ := eg192_151_4_1 q3 (by decide)
    obtain ⟨e2, W2⟩ := ew_in q4
    injection e2 with e2 j1
    have j2 := j1.symm
    subst j2
    have q6 := q5 _ e2 W2
    rw [t0, t2] at q6
    have hc : (ec_tw x1).toNat < 8 := by omega
    have hx : ec_tw x1 = ((ec_tw x1).toNat : Int) := by omega
    by_cases g2 : 0 ≤ ec_tw x2 ∧ ec_tw x2 ≤ 2
    · rw [if_pos g2] at q6
      by_cases k : ec_tw x2 = 0
      · have q7 := (eg192_151_27_1 (eg192_151_13_2 q6 (by decide) (by rw [k, t0])).2 (by rw [k, t0])).2
        obtain ⟨_, v, w1, q8, q9⟩ := eg192_151_39_0 q7
        obtain ⟨e3, W3⟩ := ew_in q8
        injection e3 with e3 k1
        have k2 := k1.symm
        subst k2
        have q10 := q9 _ e3 W3
        rw [t10, t999] at q10
        by_cases g3 : 10 ≤ ec_tw x3 ∧ ec_tw x3 ≤ 999
        · rw [if_pos g3] at q10
          have q11 := (eg192_151_42_2 q10 (by decide) (by rw [k, t0])).2
          exact .inr ⟨⟨g1, .inl ⟨k, g3⟩⟩, 1, .inl ⟨rfl, k⟩, ew_s68 (j := 1) hc hx (.inl rfl) rfl (by rw [if_pos rfl]; omega) q11⟩
        · rw [if_neg g3] at q10
          obtain ⟨_, hr, _⟩ := eg192_151_42_3 q10 rfl
          rw [hr]
          exact .inl ⟨fun e => by have := e.2; unfold eh_okv at this; omega, rfl⟩
      · have q7 := (eg192_151_27_0 (eg192_151_13_1 q6 (by decide) (by rw [t0]; exact k)).2 (by rw [t0]; exact k)).2
        obtain ⟨_, v, w1, q8, q9⟩ := eg192_151_39_0 q7
        obtain ⟨e3, W3⟩ := ew_in q8
        injection e3 with e3 k1
        have k2 := k1.symm
        subst k2
        have q10 := q9 _ e3 W3
        rw [t0, t9] at q10
        by_cases g3 : 0 ≤ ec_tw x3 ∧ ec_tw x3 ≤ 9
        · rw [if_pos g3] at q10
          by_cases k1 : ec_tw x2 = 1
          · have q11 := (eg192_151_42_1 q10 (by decide) (by rw [t0]; exact k) (by rw [k1, t1])).2
            exact .inr ⟨⟨g1, .inr ⟨by omega, g3⟩⟩, 3, .inr (.inl ⟨rfl, k1⟩), ew_s68 (j := 3) hc hx (.inr (.inl rfl)) rfl (by rw [if_neg (by decide)]; exact hp _ hc) q11⟩
          · have q11 := (eg192_151_42_0 q10 (by decide) (by rw [t0]; exact k) (by rw [t1]; exact k1)).2
            exact .inr ⟨⟨g1, .inr ⟨by omega, g3⟩⟩, 4, .inr (.inr ⟨rfl, by omega⟩), ew_s68 (j := 4) hc hx (.inr (.inr rfl)) rfl (by rw [if_neg (by decide)]; exact hp _ hc) q11⟩
        · rw [if_neg g3] at q10
          obtain ⟨_, hr, _⟩ := eg192_151_42_3 q10 rfl
          rw [hr]
          exact .inl ⟨fun e => by have := e.2; unfold eh_okv at this; omega, rfl⟩
    · rw [if_neg g2] at q6
      obtain ⟨_, hr, _⟩ := eg192_151_13_0 q6 rfl
      rw [hr]
      exact .inl ⟨fun e => by have := e.2; unfold eh_okv at this; omega, rfl⟩
  · rw [if_neg g1] at q3
    obtain ⟨_, hr, _⟩ := eg192_151_4_0 q3 rfl
    rw [hr]
    exact .inl ⟨fun e => g1 e.1, rfl⟩
theorem ew_set2 {xs : List Int32} {x1 x2 x3 : Int} {n : Nat} {w wA wB : px_W} {vA vB : Option Value} (hR : eh_RR w) (hA : ec_F (hb_XL xs) n 122 [.inr (.inl 64), .inl x1, .inl x2, .inl x3] w (vA, wA)) (hB : ec_F (hb_XL xs) n 192 [.inr (.inl 215), .inl x1, .inl x2, .inl x3] wA (vB, wB)) : eh_RR wB := by
  obtain ⟨⟨h1, h2, h3, h4⟩, hw, hkp⟩ := hR
  have r16 : ∀ c, c < 8 → ef_a w 152 (16 + c) = ef_a w 2 c := fun c hc => h1 1 c (by decide) (by decide) hc (fun e => absurd e (by decide))
  have r24 : ∀ c, c < 8 → ef_a w 152 (24 + c) = ef_a w 3 c := fun c hc => h1 2 c (by decide) (by decide) hc (fun e => absurd e (by decide))
  have hD : ∀ c, c < 8 → (0 ≤ ef_a w 3 c ∧ ef_a w 3 c ≤ ef_a w 2 c) ∧ (10 ≤ ef_a w 2 c ∧ ef_a w 2 c ≤ 999) ∧ (0 ≤ ef_a w 4 c ∧ ef_a w 4 c ≤ 9) ∧ (0 ≤ ef_a w 5 c ∧ ef_a w 5 c ≤ 9) := h2
  rcases ew_setA (hb_FE hA) with ⟨g1, g2⟩ | ⟨g1, j, hj, sA, fA, dA, rA⟩
  · have g3 : wA = w := g2
    rw [g3] at hB
    rcases ew_setB (fun c hc => by have := hD c hc; rw [r16 c hc]; omega) (hb_FE hB) with ⟨k1, k2⟩ | ⟨k1, _⟩
    · have k3 : wB = w := k2
      rw [k3]
      exact ⟨⟨h1, h2, h3, h4⟩, hw, hkp⟩
    · exact absurd k1 g1
  · have sA' : ef_s [1, 2, 3, 4, 5, 10] w wA := sA
    have d152 : ef_a wA 152 = ef_a w 152 := ef_s_a sA' (by decide)
    rcases ew_setB (fun c hc => by have := hD c hc; rw [d152, r16 c hc]; omega) (hb_FE hB) with ⟨k1, _⟩ | ⟨_, j', hj', sB, dB⟩
    · exact absurd g1 k1
    · have ej : j' = j := by
        unfold eh_j at hj hj'
        omega
      subst ej
      have sB' : ef_s [152] wA wB := sB
      have b1 := g1.1
      have hv := g1.2
      unfold eh_okv at hv
      unfold eh_j at hj
      have hc : (ec_tw x1).toNat < 8 := by omega
      obtain ⟨c, ec⟩ : ∃ c : Nat, c = (ec_tw x1).toNat := ⟨_, rfl⟩
      rw [← ec] at rA dB hc
      obtain ⟨v, ev⟩ : ∃ v : Int, v = ec_tw x3 := ⟨_, rfl⟩
      rw [← ev] at rA dB hv
      have hDc := hD c hc
      obtain ⟨B, eB⟩ : ∃ B : Int, B = (if j' = 1 then v else ef_a w 2 c) := ⟨_, rfl⟩
      have hB1 : (j' = 1 ∧ B = v) ∨ (j' ≠ 1 ∧ B = ef_a w 2 c) := by
        by_cases q : j' = 1
        · exact .inl ⟨q, by rw [eB, if_pos q]⟩
        · exact .inr ⟨q, by rw [eB, if_neg q]⟩
      obtain ⟨m, em⟩ : ∃ m : Int, m = min (ef_a w 3 c) B := ⟨_, rfl⟩
      rw [← eB, ← em] at rA
      have em2 : max 0 (min B (ef_a w 3 c)) = m := by omega
      rw [d152, r16 c hc, r24 c hc, ← eB, em2] at dB
      have rB : ∀ i p, 1 ≤ i → i ≤ 6 → ef_a wB (1 + i) p = if i = 2 ∧ p = c then m else if i = j' ∧ p = c then v else ef_a w (1 + i) p := by
        intro i p i1 i2
        rw [congrFun (ef_s_a sB' (by simp only [List.mem_singleton]; omega)) p]
        exact rA i p i1 i2
      have fB : ∀ f, f ≠ 8 → f ≠ 9 → ec_fd wB 1 f = ec_fd w 1 f := fun f k8 k9 => (ef_s_f sB' (by decide) f).trans (fA f k8 k9)
      refine ⟨⟨eh_r_cg (fun i p i1 i2 _ => rB i p i1 i2) (fun p _ _ => dB p) (eh_r_up (k := 2) (c := c) (v := m) hc (eh_r_up (k := j') (c := c) (v := v) hc h1)), ?_, ?_, ?_⟩, ?_, ?_⟩
      · intro c' hc'
        rw [rB 1 c' (by decide) (by decide), rB 2 c' (by decide) (by decide), rB 3 c' (by decide) (by decide), rB 4 c' (by decide) (by decide)]
        have hDd : (0 ≤ ef_a w (1 + 2) c' ∧ ef_a w (1 + 2) c' ≤ ef_a w (1 + 1) c') ∧ (10 ≤ ef_a w (1 + 1) c' ∧ ef_a w (1 + 1) c' ≤ 999) ∧ (0 ≤ ef_a w (1 + 3) c' ∧ ef_a w (1 + 3) c' ≤ 9) ∧ (0 ≤ ef_a w (1 + 4) c' ∧ ef_a w (1 + 4) c' ≤ 9) := h2 c' hc'
        by_cases q : c' = c
        · have hDe : (0 ≤ ef_a w (1 + 2) c' ∧ ef_a w (1 + 2) c' ≤ ef_a w (1 + 1) c') ∧ B = B := ⟨hDd.1, rfl⟩
          have x3c : ef_a w 3 c = ef_a w (1 + 2) c' := by rw [q]
          have x2c : ef_a w 2 c = ef_a w (1 + 1) c' := by rw [q]
          refine ⟨⟨?_, ?_⟩, ⟨?_, ?_⟩, ⟨?_, ?_⟩, ⟨?_, ?_⟩⟩ <;> (repeat' split) <;> omega
        · rw [if_neg (fun e => q e.2), if_neg (fun e => q e.2), if_neg (fun e => q e.2), if_neg (fun e => q e.2), if_neg (fun e => q e.2), if_neg (fun e => q e.2), if_neg (fun e => q e.2), if_neg (fun e => q e.2)]
          exact hDd
      · rw [dB 0, if_neg (by omega), if_neg (by omega), fB 0 (by decide) (by decide)]
        exact h3
      · rw [dB 1, if_neg (by omega), if_neg (by omega), fB 1 (by decide) (by decide)]
        exact h4
      · exact eh_wd_st (w := wA) (ef_s_f sB' (by decide) 8) (ef_s_f sB' (by decide) 9) (fun p _ => congrFun (ef_s_a sB' (by decide)) p) dA
      · exact eh_kp_s sB' (by decide) (ef_s_f sB' (by decide) 2) (eh_kp_s sA' (by decide) (ef_s_f sA' (by decide) 2) hkp)

end
